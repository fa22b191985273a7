/-! The class: lots, back, loop. -/
def q_lots : Nat → Int32 → Int32 → q_G → Int32
  | 0, _, s, _ => s
  | k + 1, z, s, g => q_lots k (q_lot 20 z g).1 (s + (nI (g_π (q_lot 20 z g).2 (g_t g)) - nI (g_π (q_lot 20 z g).2 (1 - g_t g)))) g
def s_lots (A : q_A) (a z : Int32) : q_A × Int32 := if a < 1 then (s_no A 4, 1000000000 - (-4)) else if 20 < a then (s_no A 6, 1000000000 - (-6)) else if g_n (a_g A) < 2 then (s_no A 3, 1000000000 - (-3)) else (A, q_lots a.toNatClampNeg z 0 (a_g A))
theorem x_ut_ut (X : Nat → x_T) (j : Nat) (T U : x_T) : x_ut (x_ut X j T) j U = x_ut X j U := by
  funext i
  unfold x_ut
  split <;> rfl
section CD
variable {E : x_E} {z : Nat} {f : x_H} {S : x_S} {A : q_A} {post : Option Value → x_H → Prop} {a b : Int32}
theorem x_Sys.tt {f' : x_H} {j : Nat} {T U : x_T} (h : x_Sys z f (S.1, x_ut S.2.1 j T, S.2.2.1, S.2.2.2)) (hj : j < 11) (ht : x_t z f' (x_tp j) U) (hf : x_fr (x_ot (x_tp j)) f f') : x_Sys z f' (S.1, x_ut S.2.1 j U, S.2.2.1, S.2.2.2) := by
  have h2 := h.tab j hj ht hf
  rw [show (S.1, x_ut S.2.1 j T, S.2.2.1, S.2.2.2).2.1 = x_ut S.2.1 j T from rfl, x_ut_ut] at h2
  exact h2
theorem c_lotL {w0 : Int32} {n : Nat} (hn9 : n ≤ 9) (h2n : 2 ≤ n) (f0 : x_H) (S0 : x_S) (R : Int32 × q_G) (h : ∀ (f' : x_H) (T' : x_T), x_Sys z f' (S0.1, x_ut S0.2.1 2 T', S0.2.2.1, S0.2.2.2) → t_is T' R.2 → x_fr (fun q => 59 ≤ q) f0 f' → post (some (.int R.1)) f') : ∀ (k i : Nat) (w : Int32) (g : q_G) (f : x_H) (T : x_T), i + k = 20 → g_ok 99 g → g_n g = n → q_lot k w g = R → x_Sys z f (S0.1, x_ut S0.2.1 2 T, S0.2.2.1, S0.2.2.2) → t_is T g → x_fr (fun q => 59 ≤ q) f0 f → X E (x_rm 5 0 0) mX5_playLot (x_QM E z 0 0 post) 4 [(3, .int (nI i)), (2, .int w), (0, .ref 0), (1, .int w0)] [] z f 0 0 := by
  intro k
  induction k with
  | zero =>
    intro i w g f T hi hg hgn he hS hT hF
    have hi2 : i = 20 := by omega
    subst hi2
    have he2 : (w, g) = R := he
    subst he2
    refine x_iload_n (pc' := 5) rfl rfl rfl ?_
    refine x_bipush (pc' := 7) rfl rfl bipush_20 ?_
    refine x_icmp_ge (tgt := 92) (pc' := 10) rfl rfl rfl (fun _ => ?_) (fun c7 => absurd ((by decide : (20 : Int32) ≤ nI 20)) c7)
    refine x_iload_n (pc' := 93) rfl rfl rfl ?_
    exact x_ireturn rfl rfl rfl (Nat.le_of_ble_eq_true rfl) (Nat.le_of_ble_eq_true rfl) (h _ T hS hT hF)
  | succ k ih =>
    intro i w g f T hi hg hgn he hS hT hF
    have hTt : x_t z f 9 T := hS.2.1 2 (by decide)
    subst hgn
    have hTn : T.2.2.2 0 = nI (g_n g) := hT.2.2.2.1
    replace he : q_lot k (q_z w) (if g_can g (q_zb (q_z w) (g_n g)) then g_mv g (q_zb (q_z w) (g_n g)) else g_flip g) = R := he
    have hzb : q_zb (q_z w) (g_n g) < g_n g := Nat.mod_lt _ (by omega)
    refine x_iload_n (pc' := 5) rfl rfl rfl ?_
    refine x_bipush (pc' := 7) rfl rfl bipush_20 ?_
    refine x_icmp_ge (tgt := 92) (pc' := 10) rfl rfl rfl (fun c7 => absurd c7 ((nI_ge (a := i) (b := 20) (by omega) (by decide)))) (fun _ => ?_)
    refine x_aload_n (pc' := 11) rfl rfl rfl ?_
    refine x_get (pc' := 14) rfl rfl rfl (hS.1) rfl ?_
    refine x_get (pc' := 17) rfl rfl rfl (hTt.1) rfl ?_
    refine x_eqi hTn ?_
    refine x_if_le (tgt := 92) (pc' := 20) rfl rfl rfl (fun c17 => absurd c17 ((nI_nle (by omega) (by omega)))) (fun _ => ?_)
    refine x_iload_n (pc' := 21) rfl rfl rfl ?_
    refine x_ldc (pc' := 23) rfl rfl rfl ?_
    refine x_imul (pc' := 24) rfl rfl ?_
    refine x_ldc (pc' := 26) rfl rfl rfl ?_
    refine x_iadd (pc' := 27) rfl rfl ?_
    refine x_eqi (show w * 1664525 + 1013904223 = q_z w from rfl) ?_
    refine x_istore_n (pc' := 28) (lv' := [(2, _), (3, _), (0, _), (1, _)]) rfl rfl (Nat.le_of_ble_eq_true rfl) rfl ?_
    refine x_iload_n (pc' := 29) rfl rfl rfl ?_
    refine x_ldc (pc' := 31) rfl rfl rfl ?_
    refine x_iand (pc' := 32) rfl rfl ?_
    refine x_sipush (pc' := 35) rfl rfl sipush_256 ?_
    refine x_idiv (pc' := 36) rfl rfl (by decide) ?_
    refine x_aload_n (pc' := 37) rfl rfl rfl ?_
    refine x_get (pc' := 40) rfl rfl rfl (hS.1) rfl ?_
    refine x_get (pc' := 43) rfl rfl rfl (hTt.1) rfl ?_
    refine x_eqi hTn ?_
    refine x_irem (pc' := 44) rfl rfl (nI_ne0 (by omega) (by omega)) ?_
    refine x_eqi (q_zI (q_z w) (by omega) hn9) ?_
    refine x_istore (pc' := 46) (lv' := [(4, _), (2, _), (3, _), (0, _), (1, _)]) rfl rfl (Nat.le_of_ble_eq_true rfl) rfl ?_
    refine x_aload_n (pc' := 47) rfl rfl rfl ?_
    refine x_get (pc' := 50) rfl rfl rfl (hS.1) rfl ?_
    refine x_iload (pc' := 52) rfl rfl rfl ?_
    refine x_cV1i (d := 2) (pc' := 55) rfl rfl sX5_118 gX3_canMove (hTt.1) ⟨Nat.le_of_ble_eq_true rfl, Nat.le_of_ble_eq_true rfl⟩ (Nat.le_of_ble_eq_true rfl) ⟨Nat.le_of_ble_eq_true rfl, Nat.le_of_ble_eq_true rfl⟩ ?_
    refine w_can hTt hT hg (by decide) (by omega) (fun d2 => ⟨_, rfl, ?_⟩) (fun d2 => ⟨_, rfl, ?_⟩)
    · rw [if_pos d2] at he
      refine x_if_eq (tgt := 70) (pc' := 58) rfl rfl rfl (fun c55 => absurd c55 ((by decide))) (fun _ => ?_)
      refine x_aload_n (pc' := 59) rfl rfl rfl ?_
      refine x_get (pc' := 62) rfl rfl rfl (hS.1) rfl ?_
      refine x_iload (pc' := 64) rfl rfl rfl ?_
      refine x_cV1v (d := 4) (pc' := 67) rfl rfl sX5_124 gX3_makeMove (hTt.1) ⟨Nat.le_of_ble_eq_true rfl, Nat.le_of_ble_eq_true rfl⟩ (Nat.le_of_ble_eq_true rfl) ⟨Nat.le_of_ble_eq_true rfl, Nat.le_of_ble_eq_true rfl⟩ ?_
      refine w_move hTt hT hg (by decide) d2.2.1 (fun f1 T1 hT1 g1 g4 g5 g6 g7 g8 hF1 => ⟨rfl, ?_⟩)
      have hS1 := hS.tt (j := 2) (by decide) hT1 hF1
      refine x_goto (tgt := 86) rfl rfl ?_
      refine x_iinc (pc' := 89) (lv' := [(3, _), (4, _), (2, _), (0, _), (1, _)]) rfl rfl (Nat.le_of_ble_eq_true rfl) rfl (nI_1 i) rfl ?_
      refine x_goto (tgt := 4) rfl rfl ?_
      refine x_lvp [0, 2, 3, 4] rfl ?_
      exact ih (i + 1) _ _ _ _ (by omega) (g_mv_ok hg (by decide) (by decide) d2.2.1) rfl he hS1 g1 (hF.trans (c_fr0 (j := 2) (by decide) hF1))
    · rw [if_neg d2] at he
      refine x_if_eq (tgt := 70) (pc' := 58) rfl rfl rfl (fun _ => ?_) (fun c55 => absurd ((by decide)) c55)
      refine x_aload_n (pc' := 71) rfl rfl rfl ?_
      refine x_get (pc' := 74) rfl rfl rfl (hS.1) rfl ?_
      refine x_iconst (pc' := 75) rfl rfl iconst_1 ?_
      refine x_aload_n (pc' := 76) rfl rfl rfl ?_
      refine x_get (pc' := 79) rfl rfl rfl (hS.1) rfl ?_
      refine x_get (pc' := 82) rfl rfl rfl (hTt.1) rfl ?_
      refine x_eqi hT.2.2.2.2.2.2 ?_
      refine x_isub (pc' := 83) rfl rfl ?_
      refine x_eqi (show (1 : Int32) - nI (g_t g) = nI (1 - g_t g) from pk_sub (a := 1) hg.2.2.2.1) ?_
      refine x_put (pc' := 86) rfl rfl rfl (hTt.1) (Nat.le_of_ble_eq_true rfl) rfl rfl rfl rfl (fun f1 e1 => ?_)
      have hT1 := hTt.num 3 e1 (x_tFs3 _ _ _)
      have hF1 := (x_fr.rf (P := x_ot 9)).up e1 (by decide)
      have hS1 := hS.tt (j := 2) (by decide) hT1 hF1
      refine x_iinc (pc' := 89) (lv' := [(3, _), (4, _), (2, _), (0, _), (1, _)]) rfl rfl (Nat.le_of_ble_eq_true rfl) rfl (nI_1 i) rfl ?_
      refine x_goto (tgt := 4) rfl rfl ?_
      refine x_lvp [0, 2, 3, 4] rfl ?_
      exact ih (i + 1) _ (g_flip g) _ _ (by omega) (g_flip_ok hg) rfl he hS1 ⟨hT.1, hT.2.1, hT.2.2.1, hT.2.2.2.1, hT.2.2.2.2.1, hT.2.2.2.2.2.1, rfl⟩ (hF.trans (c_fr0 (j := 2) (by decide) hF1))
theorem c_playLot {w : Int32} {g : q_G} {T : x_T} (hS : x_Sys z f (S.1, x_ut S.2.1 2 T, S.2.2.1, S.2.2.2)) (hT : t_is T g) (hg : g_ok 99 g) (h2n : 2 ≤ g_n g) (h : ∀ (f' : x_H) (T' : x_T), x_Sys z f' (S.1, x_ut S.2.1 2 T', S.2.2.1, S.2.2.2) → t_is T' (q_lot 20 w g).2 → x_fr (fun q => 59 ≤ q) f f' → post (some (.int (q_lot 20 w g).1)) f') : Y E 5 mX5_playLot [.ref 0, .int w] z f 0 0 post := by
  refine Y.intro gX5_playLot (lv := [(0, .ref 0), (1, .int w)]) rfl (Nat.le_of_ble_eq_true rfl) ?_
  refine x_iload_n (pc' := 1) rfl rfl rfl ?_
  refine x_istore_n (pc' := 2) (lv' := [(2, _), (0, _), (1, _)]) rfl rfl (Nat.le_of_ble_eq_true rfl) rfl ?_
  refine x_iconst (pc' := 3) rfl rfl iconst_0 ?_
  refine x_istore_n (pc' := 4) (lv' := [(3, _), (2, _), (0, _), (1, _)]) rfl rfl (Nat.le_of_ble_eq_true rfl) rfl ?_
  exact c_lotL hg.1 h2n f S _ h 20 0 w g f T (by omega) hg rfl rfl hS hT x_fr.rf
theorem c_lotsL {w0 : Int32} {N : Nat} (hN : N ≤ 20) (ho : a_ok A) (h2n : 2 ≤ g_n (a_g A)) (f0 : x_H) (S0 : x_S) (hA : c_is S0 A) (r : Int32) (h : c_ends z f0 post (A, r)) : ∀ (k i : Nat) (w s : Int32) (f : x_H) (T : x_T), i + k = N → q_lots k w s (a_g A) = r → x_Sys z f (S0.1, x_ut S0.2.1 2 T, S0.2.2.1, S0.2.2.2) → x_fr (fun q => 59 ≤ q) f0 f → X E (x_rm 9 0 0) mX5_lots (x_QM E z 0 0 post) 51 [(5, .int (nI i)), (4, .int s), (3, .int w), (0, .ref 0), (1, .int (nI N)), (2, .int w0)] [] z f 0 0 := by
  obtain ⟨b1, b2, b3, b4, b5, b6, b7, b8⟩ := id hA
  have ht1 := ho.1.2.2.2.1
  intro k
  induction k with
  | zero =>
    intro i w s f T hi he hS hF
    have hi2 : i = N := by omega
    subst hi2
    have he2 : s = r := he
    subst he2
    refine x_iload (pc' := 53) rfl rfl rfl ?_
    refine x_iload_n (pc' := 54) rfl rfl rfl ?_
    refine x_icmp_ge (tgt := 116) (pc' := 57) rfl rfl rfl (fun _ => ?_) (fun c54 => absurd (Int32.le_refl _) c54)
    refine x_iload (pc' := 118) rfl rfl rfl ?_
    exact x_ireturn rfl rfl rfl (Nat.le_of_ble_eq_true rfl) (Nat.le_of_ble_eq_true rfl) (h _ _ hS (c_tr hA) hF)
  | succ k ih =>
    intro i w s f T hi he hS hF
    replace he : q_lots k (q_lot 20 w (a_g A)).1 (s + (nI (g_π (q_lot 20 w (a_g A)).2 (g_t (a_g A))) - nI (g_π (q_lot 20 w (a_g A)).2 (1 - g_t (a_g A))))) (a_g A) = r := he
    have hTt : x_t z f 9 T := hS.2.1 2 (by decide)
    have hT0 : x_t z f 1 (S0.2.1 0) := hS.2.1 0 (by decide)
    refine x_iload (pc' := 53) rfl rfl rfl ?_
    refine x_iload_n (pc' := 54) rfl rfl rfl ?_
    refine x_icmp_ge (tgt := 116) (pc' := 57) rfl rfl rfl (fun c54 => absurd c54 ((nI_ge (by omega) (by omega)))) (fun _ => ?_)
    refine x_aload_n (pc' := 58) rfl rfl rfl ?_
    refine x_get (pc' := 61) rfl rfl rfl (hS.1) rfl ?_
    refine x_aload_n (pc' := 62) rfl rfl rfl ?_
    refine x_get (pc' := 65) rfl rfl rfl (hS.1) rfl ?_
    refine x_cV1v (d := 1) (pc' := 68) rfl rfl sX5_79 gX3_copyFrom (hTt.1) ⟨Nat.le_of_ble_eq_true rfl, Nat.le_of_ble_eq_true rfl⟩ (Nat.le_of_ble_eq_true rfl) ⟨Nat.le_of_ble_eq_true rfl, Nat.le_of_ble_eq_true rfl⟩ ?_
    refine w_copyFrom hTt hT0 (by decide) (fun f1 hT1 hF1 => ⟨rfl, ?_⟩)
    have hS1 := hS.tt (j := 2) (by decide) hT1 hF1
    refine x_aload_n (pc' := 69) rfl rfl rfl ?_
    refine x_iload_n (pc' := 70) rfl rfl rfl ?_
    refine x_cV1i (d := 5) (pc' := 73) rfl rfl sX5_208 gX5_playLot (hS1.1) ⟨Nat.le_of_ble_eq_true rfl, Nat.le_of_ble_eq_true rfl⟩ (Nat.le_of_ble_eq_true rfl) ⟨Nat.le_of_ble_eq_true rfl, Nat.le_of_ble_eq_true rfl⟩ ?_
    refine c_playLot hS1 (x_cp_is b1) ho.1 h2n (fun f2 T2 hS2 g2 hF2 => ⟨_, rfl, ?_⟩)
    have hT2 : x_t z f2 9 T2 := hS2.2.1 2 (by decide)
    have hT02 : x_t z f2 1 (S0.2.1 0) := hS2.2.1 0 (by decide)
    refine x_istore_n (pc' := 74) (lv' := [(3, _), (5, _), (4, _), (0, _), (1, _), (2, _)]) rfl rfl (Nat.le_of_ble_eq_true rfl) rfl ?_
    refine x_iload (pc' := 76) rfl rfl rfl ?_
    refine x_aload_n (pc' := 77) rfl rfl rfl ?_
    refine x_get (pc' := 80) rfl rfl rfl (hS2.1) rfl ?_
    refine x_aload_n (pc' := 81) rfl rfl rfl ?_
    refine x_get (pc' := 84) rfl rfl rfl (hS2.1) rfl ?_
    refine x_get (pc' := 87) rfl rfl rfl (hT02.1) rfl ?_
    refine x_eqi b1.2.2.2.2.2.2 ?_
    refine x_cV1i (d := 1) (pc' := 90) rfl rfl sX5_205 gX3_purseOf (hT2.1) ⟨Nat.le_of_ble_eq_true rfl, Nat.le_of_ble_eq_true rfl⟩ (Nat.le_of_ble_eq_true rfl) ⟨Nat.le_of_ble_eq_true rfl, Nat.le_of_ble_eq_true rfl⟩ ?_
    refine w_purseOf hT2 (fun q => ⟨_, rfl, ?_⟩) (fun q => absurd ⟨nI_pos (by omega), nI_lt (a := g_t (a_g A)) (b := 2) (by omega) (by decide)⟩ q)
    refine x_eqi (show T2.2.2.1 (nI (g_t (a_g A))).toNatClampNeg = nI (g_π (q_lot 20 w (a_g A)).2 (g_t (a_g A))) from by rw [nI_clamp (by omega), g2.2.2.1]) ?_
    refine x_aload_n (pc' := 91) rfl rfl rfl ?_
    refine x_get (pc' := 94) rfl rfl rfl (hS2.1) rfl ?_
    refine x_iconst (pc' := 95) rfl rfl iconst_1 ?_
    refine x_aload_n (pc' := 96) rfl rfl rfl ?_
    refine x_get (pc' := 99) rfl rfl rfl (hS2.1) rfl ?_
    refine x_get (pc' := 102) rfl rfl rfl (hT02.1) rfl ?_
    refine x_eqi b1.2.2.2.2.2.2 ?_
    refine x_isub (pc' := 103) rfl rfl ?_
    refine x_eqi (show (1 : Int32) - nI (g_t (a_g A)) = nI (1 - g_t (a_g A)) from pk_sub (a := 1) ht1) ?_
    refine x_cV1i (d := 1) (pc' := 106) rfl rfl sX5_205 gX3_purseOf (hT2.1) ⟨Nat.le_of_ble_eq_true rfl, Nat.le_of_ble_eq_true rfl⟩ (Nat.le_of_ble_eq_true rfl) ⟨Nat.le_of_ble_eq_true rfl, Nat.le_of_ble_eq_true rfl⟩ ?_
    refine w_purseOf hT2 (fun q => ⟨_, rfl, ?_⟩) (fun q => absurd ⟨nI_pos (by omega), nI_lt (a := 1 - g_t (a_g A)) (b := 2) (by omega) (by decide)⟩ q)
    refine x_eqi (show T2.2.2.1 (nI (1 - g_t (a_g A))).toNatClampNeg = nI (g_π (q_lot 20 w (a_g A)).2 (1 - g_t (a_g A))) from by rw [nI_clamp (by omega), g2.2.2.1]) ?_
    refine x_isub (pc' := 107) rfl rfl ?_
    refine x_iadd (pc' := 108) rfl rfl ?_
    refine x_istore (pc' := 110) (lv' := [(4, _), (3, _), (5, _), (0, _), (1, _), (2, _)]) rfl rfl (Nat.le_of_ble_eq_true rfl) rfl ?_
    refine x_iinc (pc' := 113) (lv' := [(5, _), (4, _), (3, _), (0, _), (1, _), (2, _)]) rfl rfl (Nat.le_of_ble_eq_true rfl) rfl (nI_1 i) rfl ?_
    refine x_goto (tgt := 51) rfl rfl ?_
    exact ih (i + 1) _ _ _ _ (by omega) he hS2 (hF.trans ((c_fr0 (j := 2) (by decide) hF1).trans hF2))
theorem c_lots (hS : x_Sys z f S) (hA : c_is S A) (ho : a_ok A) (h : c_ends z f post (s_lots A a b)) : Y E 9 mX5_lots [.ref 0, .int a, .int b] z f 0 0 post := by
  refine Y.intro gX5_lots (lv := [(0, .ref 0), (1, .int a), (2, .int b)]) rfl (Nat.le_of_ble_eq_true rfl) ?_
  have hT := hS.2.1 0 (by decide)
  refine x_iload_n (pc' := 1) rfl rfl rfl ?_
  refine x_iconst (pc' := 2) rfl rfl iconst_1 ?_
  refine x_icmp_ge (tgt := 12) (pc' := 5) rfl rfl rfl (fun c2 => ?_) (fun c2 => ?_)
  · have d1 : ¬ a < 1 := Int32.not_lt.mpr c2
    refine x_iload_n (pc' := 13) rfl rfl rfl ?_
    refine x_bipush (pc' := 15) rfl rfl bipush_20 ?_
    refine x_icmp_le (tgt := 25) (pc' := 18) rfl rfl rfl (fun c15 => ?_) (fun c15 => ?_)
    · have d2 : ¬ 20 < a := Int32.not_lt.mpr c15
      refine x_aload_n (pc' := 26) rfl rfl rfl ?_
      refine x_get (pc' := 29) rfl rfl rfl (hS.1) rfl ?_
      refine x_get (pc' := 32) rfl rfl rfl (hT.1) rfl ?_
      refine x_eqi hA.1.2.2.2.1 ?_
      refine x_iconst (pc' := 33) rfl rfl iconst_2 ?_
      by_cases d3 : g_n (a_g A) < 2
      · rw [show s_lots A a b = _ from (if_neg d1).trans ((if_neg d2).trans (if_pos d3))] at h
        refine x_icmp_ge (tgt := 43) (pc' := 36) rfl rfl rfl (fun q => absurd q (nI_ge (b := 2) d3 (by decide))) (fun _ => ?_)
        refine x_aload_n (pc' := 37) rfl rfl rfl ?_
        refine x_bipush (pc' := 39) rfl rfl bipush_m3 ?_
        refine x_cV1i (d := 2) (pc' := 42) rfl rfl sX5_152 gX5_refuseFar (hS.1) ⟨Nat.le_of_ble_eq_true rfl, Nat.le_of_ble_eq_true rfl⟩ (Nat.le_of_ble_eq_true rfl) ⟨Nat.le_of_ble_eq_true rfl, Nat.le_of_ble_eq_true rfl⟩ ?_
        refine c_refuseFar (k := 3) (by decide) (by decide) hS hA (fun f1 S1 hS1 hA1 hF1 => ⟨_, rfl, ?_⟩)
        exact x_ireturn rfl rfl rfl (Nat.le_of_ble_eq_true rfl) (Nat.le_of_ble_eq_true rfl) (h _ _ hS1 hA1 hF1)
      · rw [show s_lots A a b = _ from (if_neg d1).trans ((if_neg d2).trans (if_neg d3))] at h
        refine x_icmp_ge (tgt := 43) (pc' := 36) rfl rfl rfl (fun _ => ?_) (fun q => absurd (nI_le (a := 2) (Nat.not_lt.mp d3) (by have := ho.1.1; omega)) q)
        obtain ⟨N, hN, rfl⟩ := nI_of2 (n := 20) (M := 20) rfl (fun q => d1 (Int32.lt_trans q (by decide))) (Int32.not_lt.mp d2)
        rw [nI_clamp (by omega)] at h
        refine x_iload_n (pc' := 44) rfl rfl rfl ?_
        refine x_istore_n (pc' := 45) (lv' := [(3, _), (0, _), (1, _), (2, _)]) rfl rfl (Nat.le_of_ble_eq_true rfl) rfl ?_
        refine x_iconst (pc' := 46) rfl rfl iconst_0 ?_
        refine x_istore (pc' := 48) (lv' := [(4, _), (3, _), (0, _), (1, _), (2, _)]) rfl rfl (Nat.le_of_ble_eq_true rfl) rfl ?_
        refine x_iconst (pc' := 49) rfl rfl iconst_0 ?_
        refine x_istore (pc' := 51) (lv' := [(5, _), (4, _), (3, _), (0, _), (1, _), (2, _)]) rfl rfl (Nat.le_of_ble_eq_true rfl) rfl ?_
        refine c_lotsL (S0 := S) hN ho (Nat.not_lt.mp d3) f hA _ h N 0 b 0 f (S.2.1 2) (by omega) rfl ?_ x_fr.rf
        have e9 : x_ut S.2.1 2 (S.2.1 2) = S.2.1 := by
          funext j
          unfold x_ut
          split
          · rename_i h9
            rw [h9]
          · rfl
        rw [e9]
        exact hS
    · rw [show s_lots A a b = _ from (if_neg d1).trans (if_pos (Int32.not_le.mp c15))] at h
      refine x_aload_n (pc' := 19) rfl rfl rfl ?_
      refine x_bipush (pc' := 21) rfl rfl bipush_m6 ?_
      refine x_cV1i (d := 2) (pc' := 24) rfl rfl sX5_152 gX5_refuseFar (hS.1) ⟨Nat.le_of_ble_eq_true rfl, Nat.le_of_ble_eq_true rfl⟩ (Nat.le_of_ble_eq_true rfl) ⟨Nat.le_of_ble_eq_true rfl, Nat.le_of_ble_eq_true rfl⟩ ?_
      refine c_refuseFar (k := 6) (by decide) (by decide) hS hA (fun f1 S1 hS1 hA1 hF1 => ⟨_, rfl, ?_⟩)
      exact x_ireturn rfl rfl rfl (Nat.le_of_ble_eq_true rfl) (Nat.le_of_ble_eq_true rfl) (h _ _ hS1 hA1 hF1)
  · rw [show s_lots A a b = _ from if_pos (Int32.not_le.mp c2)] at h
    refine x_aload_n (pc' := 6) rfl rfl rfl ?_
    refine x_bipush (pc' := 8) rfl rfl bipush_m4 ?_
    refine x_cV1i (d := 2) (pc' := 11) rfl rfl sX5_152 gX5_refuseFar (hS.1) ⟨Nat.le_of_ble_eq_true rfl, Nat.le_of_ble_eq_true rfl⟩ (Nat.le_of_ble_eq_true rfl) ⟨Nat.le_of_ble_eq_true rfl, Nat.le_of_ble_eq_true rfl⟩ ?_
    refine c_refuseFar (k := 4) (by decide) (by decide) hS hA (fun f1 S1 hS1 hA1 hF1 => ⟨_, rfl, ?_⟩)
    exact x_ireturn rfl rfl rfl (Nat.le_of_ble_eq_true rfl) (Nat.le_of_ble_eq_true rfl) (h _ _ hS1 hA1 hF1)
-- back, loop
theorem w_sameL {t u : Nat} {T U : x_T} {n : Nat} {β γ : Nat → Nat} (hT : x_t z f t T) (hU : x_t z f u U) (hn : T.2.2.2 0 = nI n) (hn9 : n ≤ 9) (hnU : U.2.2.2 0 = nI n) (hβ : T.2.1 = fun i => nI (β i)) (hγ : U.2.1 = fun i => nI (γ i)) (hβ5 : ∀ i, β i ≤ 100) (hγ5 : ∀ i, γ i ≤ 100) (h1 : (∀ i, i < n → β i = γ i) → post (some (.int 1)) f) (h0 : ¬ (∀ i, i < n → β i = γ i) → post (some (.int 0)) f) : ∀ (k i : Nat), i + k = n → (∀ j, j < i → β j = γ j) → X E (x_rm 3 0 0) mX3_sameBeans (x_QM E z 0 0 post) 2 [(2, .int (nI i)), (0, .ref t), (1, .ref u)] [] z f 0 0 := by
  intro k
  induction k with
  | zero =>
    intro i hi hj
    refine x_iload_n (pc' := 3) rfl rfl rfl ?_
    refine x_aload_n (pc' := 4) rfl rfl rfl ?_
    refine x_get (pc' := 7) rfl rfl rfl (hT.1) rfl ?_
    refine x_icmp_ge (tgt := 31) (pc' := 10) rfl rfl rfl (fun _ => ?_) (fun c7 => absurd ((by rw [hn]; exact nI_le (by omega) (by omega))) c7)
    refine x_iconst (pc' := 32) rfl rfl iconst_1 ?_
    exact x_ireturn rfl rfl rfl (Nat.le_of_ble_eq_true rfl) (Nat.le_of_ble_eq_true rfl) (h1 (fun j hj2 => hj j (by omega)))
  | succ k ih =>
    intro i hi hj
    have e1 : T.2.1 (nI i).toNatClampNeg = nI (β i) := by rw [nI_clamp (by omega), hβ]
    have e2 : U.2.1 (nI i).toNatClampNeg = nI (γ i) := by rw [nI_clamp (by omega), hγ]
    have k1 := hβ5 i
    have k2 := hγ5 i
    refine x_iload_n (pc' := 3) rfl rfl rfl ?_
    refine x_aload_n (pc' := 4) rfl rfl rfl ?_
    refine x_get (pc' := 7) rfl rfl rfl (hT.1) rfl ?_
    refine x_icmp_ge (tgt := 31) (pc' := 10) rfl rfl rfl (fun c7 => absurd c7 ((by rw [hn]; exact nI_ge (by omega) (by omega)))) (fun _ => ?_)
    refine x_aload_n (pc' := 11) rfl rfl rfl ?_
    refine x_iload_n (pc' := 12) rfl rfl rfl ?_
    refine x_cV1i (d := 2) (pc' := 15) rfl rfl sX3_59 gX3_beansOf (hT.1) ⟨Nat.le_of_ble_eq_true rfl, Nat.le_of_ble_eq_true rfl⟩ (Nat.le_of_ble_eq_true rfl) ⟨Nat.le_of_ble_eq_true rfl, Nat.le_of_ble_eq_true rfl⟩ ?_
    refine w_beansOf hT (fun g => ⟨_, rfl, ?_⟩) (fun g => absurd (t_has_nI hn hn9 (by omega)) g)
    refine x_eqi e1 ?_
    refine x_aload_n (pc' := 16) rfl rfl rfl ?_
    refine x_iload_n (pc' := 17) rfl rfl rfl ?_
    refine x_cV1i (d := 2) (pc' := 20) rfl rfl sX3_59 gX3_beansOf (hU.1) ⟨Nat.le_of_ble_eq_true rfl, Nat.le_of_ble_eq_true rfl⟩ (Nat.le_of_ble_eq_true rfl) ⟨Nat.le_of_ble_eq_true rfl, Nat.le_of_ble_eq_true rfl⟩ ?_
    refine w_beansOf hU (fun g => ⟨_, rfl, ?_⟩) (fun g => absurd (t_has_nI hnU hn9 (by omega)) g)
    refine x_eqi e2 ?_
    refine x_icmp_eq (tgt := 25) (pc' := 23) rfl rfl rfl (fun c20 => ?_) (fun c20 => ?_)
    · have d := (nI_eq (by omega) (by omega)).mp c20
      refine x_iinc (pc' := 28) (lv' := [(2, _), (0, _), (1, _)]) rfl rfl (Nat.le_of_ble_eq_true rfl) rfl (nI_1 i) rfl ?_
      refine x_goto (tgt := 2) rfl rfl ?_
      refine ih (i + 1) (by omega) (fun j hj2 => ?_)
      by_cases h9 : j = i
      · rw [h9]
        exact d
      · exact hj j (by omega)
    · have d : ¬ β i = γ i := fun q => c20 (by rw [q])
      refine x_iconst (pc' := 24) rfl rfl iconst_0 ?_
      exact x_ireturn rfl rfl rfl (Nat.le_of_ble_eq_true rfl) (Nat.le_of_ble_eq_true rfl) (h0 (fun q => d (q i (by omega))))
theorem w_same {t u : Nat} {T U : x_T} {g g' : q_G} (hT : x_t z f t T) (hU : x_t z f u U) (hg : t_is T g) (hg' : t_is U g') (ho : g_ok 100 g) (ho' : g_ok 100 g') (hnn : g_n g' = g_n g) (h1 : (∀ i, i < g_n g → g_β g i = g_β g' i) → post (some (.int 1)) f) (h0 : ¬ (∀ i, i < g_n g → g_β g i = g_β g' i) → post (some (.int 0)) f) : Y E 3 mX3_sameBeans [.ref t, .ref u] z f 0 0 post := by
  refine Y.intro gX3_sameBeans (lv := [(0, .ref t), (1, .ref u)]) rfl (Nat.le_of_ble_eq_true rfl) ?_
  refine x_iconst (pc' := 1) rfl rfl iconst_0 ?_
  refine x_istore_n (pc' := 2) (lv' := [(2, _), (0, _), (1, _)]) rfl rfl (Nat.le_of_ble_eq_true rfl) rfl ?_
  exact w_sameL hT hU hg.2.2.2.1 ho.1 (by rw [hg'.2.2.2.1, hnn]) hg.2.1 hg'.2.1 ho.2.2.2.2.2.1 ho'.2.2.2.2.2.1 h1 h0 (g_n g) 0 (by omega) (fun j hj => absurd hj (Nat.not_lt_zero j))
/-- tries are of the state that is now -/
def c_two (z : Nat) (f : x_H) (S0 : x_S) (A : q_A) (T U : x_T) (g u : q_G) : Prop := x_Sys z f (S0.1, x_ut (x_ut S0.2.1 2 T) 3 U, S0.2.2.1, S0.2.2.2) ∧ t_is T g ∧ t_is U u ∧ g_ok 99 g ∧ g_ok 99 u ∧ g_n g = g_n (a_g A) ∧ g_n u = g_n (a_g A)
theorem x_ut_cm (X : Nat → x_T) {i j : Nat} (T U : x_T) (h : i ≠ j) : x_ut (x_ut X i T) j U = x_ut (x_ut X j U) i T := by
  funext k
  unfold x_ut
  by_cases h1 : k = j
  · rw [if_pos h1, if_neg (by omega), if_pos h1]
  · rw [if_neg h1]
    by_cases h2 : k = i
    · rw [if_pos h2, if_pos h2]
    · rw [if_neg h2, if_neg h2, if_neg h1]
theorem c_two.t2 {f' : x_H} {S0 : x_S} {T U T' : x_T} {g u g' : q_G} (h : c_two z f S0 A T U g u) (ht : x_t z f' 9 T') (hf : x_fr (x_ot 9) f f') (hg : t_is T' g') (ho : g_ok 99 g') (hn : g_n g' = g_n g) : c_two z f' S0 A T' U g' u := by
  obtain ⟨h1, h2, h3, h4, h5, h6, h7⟩ := h
  refine ⟨?_, hg, h3, ho, h5, hn.trans h6, h7⟩
  have h8 := h1.tab 2 (by decide) ht hf
  rw [show (S0.1, x_ut (x_ut S0.2.1 2 T) 3 U, S0.2.2.1, S0.2.2.2).2.1 = x_ut (x_ut S0.2.1 2 T) 3 U from rfl, x_ut_cm _ _ _ (by decide : 3 ≠ 2), x_ut_ut] at h8
  exact h8
theorem c_two.t3 {f' : x_H} {S0 : x_S} {T U U' : x_T} {g u u' : q_G} (h : c_two z f S0 A T U g u) (ht : x_t z f' 13 U') (hf : x_fr (x_ot 13) f f') (hg : t_is U' u') (ho : g_ok 99 u') (hn : g_n u' = g_n u) : c_two z f' S0 A T U' g u' := by
  obtain ⟨h1, h2, h3, h4, h5, h6, h7⟩ := h
  refine ⟨?_, h2, hg, h4, ho, h6, hn.trans h7⟩
  have h8 := h1.tab 3 (by decide) ht hf
  rw [show (S0.1, x_ut (x_ut S0.2.1 2 T) 3 U, S0.2.2.1, S0.2.2.2).2.1 = x_ut (x_ut S0.2.1 2 T) 3 U from rfl, x_ut_ut] at h8
  exact h8
theorem c_two.is {S0 : x_S} {T U : x_T} {g u : q_G} (h : c_two z f S0 A T U g u) (hA : c_is S0 A) : c_is (S0.1, x_ut (x_ut S0.2.1 2 T) 3 U, S0.2.2.1, S0.2.2.2) A := hA.sc ((c_sc.tab (j := 2) (T := T) (by decide) (by decide)).trans (c_sc.tab (S := (S0.1, x_ut S0.2.1 2 T, S0.2.2.1, S0.2.2.2)) (j := 3) (T := U) (by decide) (by decide)))
theorem c_two.of {S0 : x_S} {g u : q_G} (h : x_Sys z f S0) (h2 : t_is (S0.2.1 2) g) (h3 : t_is (S0.2.1 3) u) (h4 : g_ok 99 g) (h5 : g_ok 99 u) (h6 : g_n g = g_n (a_g A)) (h7 : g_n u = g_n (a_g A)) : c_two z f S0 A (S0.2.1 2) (S0.2.1 3) g u := by
  refine ⟨?_, h2, h3, h4, h5, h6, h7⟩
  have e9 : x_ut (x_ut S0.2.1 2 (S0.2.1 2)) 3 (S0.2.1 3) = S0.2.1 := by
    funext j
    unfold x_ut
    split
    · rename_i h9
      rw [h9]
    · split
      · rename_i h9
        rw [h9]
      · rfl
  rw [e9]
  exact h
def n_bowl (A : q_A) (a : Int32) : q_A := if q_in (g_n (a_g A)) a then A else s_no A 1
theorem c_backL {b : Nat} (ho : a_ok A) (hb : b < g_n (a_g A)) (f0 : x_H) (S0 : x_S) (hA : c_is S0 A) (h : c_any z f0 post A) : ∀ (k i : Nat) (f : x_H) (T U : x_T) (g u : q_G), i + k = 201 → c_two z f S0 A T U g u → x_fr (fun q => 59 ≤ q) f0 f → X E (x_rm 9 0 0) mX5_back (x_QM E z 0 0 post) 30 [(2, .int (nI i)), (0, .ref 0), (1, .int (nI b))] [] z f 0 0 := by
  have hn9 := ho.1.1
  intro k
  induction k with
  | zero =>
    intro i f T U g u hi hC hF
    have hi2 : i = 201 := by omega
    subst hi2
    refine x_iload_n (pc' := 31) rfl rfl rfl ?_
    refine x_sipush (pc' := 34) rfl rfl sipush_200 ?_
    refine x_icmp_gt (tgt := 78) (pc' := 37) rfl rfl rfl (fun _ => ?_) (fun c34 => absurd ((by decide : (200 : Int32) < nI 201)) c34)
    refine x_bipush (pc' := 80) rfl rfl bipush_m9 ?_
    exact x_ireturn rfl rfl rfl (Nat.le_of_ble_eq_true rfl) (Nat.le_of_ble_eq_true rfl) (h _ _ _ hC.1 (hC.is hA) hF)
  | succ k ih =>
    intro i f T U g u hi hC hF
    have hT : x_t z f 9 T := hC.1.2.1 2 (by decide)
    have hT0 : x_t z f 1 (S0.2.1 0) := hC.1.2.1 0 (by decide)
    refine x_iload_n (pc' := 31) rfl rfl rfl ?_
    refine x_sipush (pc' := 34) rfl rfl sipush_200 ?_
    refine x_icmp_gt (tgt := 78) (pc' := 37) rfl rfl rfl (fun c34 => absurd c34 ((nI_nlt (a := 200) (by omega) (by decide)))) (fun _ => ?_)
    refine x_aload_n (pc' := 38) rfl rfl rfl ?_
    refine x_get (pc' := 41) rfl rfl rfl (hC.1.1) rfl ?_
    refine x_iload_n (pc' := 42) rfl rfl rfl ?_
    refine x_cV1i (d := 2) (pc' := 45) rfl rfl sX5_118 gX3_canMove (hT.1) ⟨Nat.le_of_ble_eq_true rfl, Nat.le_of_ble_eq_true rfl⟩ (Nat.le_of_ble_eq_true rfl) ⟨Nat.le_of_ble_eq_true rfl, Nat.le_of_ble_eq_true rfl⟩ ?_
    refine w_can hT hC.2.1 hC.2.2.2.1 (by decide) (by omega) (fun d2 => ⟨_, rfl, ?_⟩) (fun d2 => ⟨_, rfl, ?_⟩)
    · refine x_if_eq (tgt := 78) (pc' := 48) rfl rfl rfl (fun c45 => absurd c45 (by decide)) (fun _ => ?_)
      refine x_aload_n (pc' := 49) rfl rfl rfl ?_
      refine x_get (pc' := 52) rfl rfl rfl (hC.1.1) rfl ?_
      refine x_iload_n (pc' := 53) rfl rfl rfl ?_
      refine x_cV1v (d := 4) (pc' := 56) rfl rfl sX5_124 gX3_makeMove (hT.1) ⟨Nat.le_of_ble_eq_true rfl, Nat.le_of_ble_eq_true rfl⟩ (Nat.le_of_ble_eq_true rfl) ⟨Nat.le_of_ble_eq_true rfl, Nat.le_of_ble_eq_true rfl⟩ ?_
      refine w_move hT hC.2.1 hC.2.2.2.1 (by decide) d2.2.1 (fun f1 T1 hT1 g1 g4 g5 g6 g7 g8 hF1 => ⟨rfl, ?_⟩)
      have hC1 := hC.t2 hT1 hF1 g1 (g_mv_ok hC.2.2.2.1 (by decide) (by decide) d2.2.1) rfl
      have hT01 : x_t z f1 1 (S0.2.1 0) := hC1.1.2.1 0 (by decide)
      have hF2 := hF.trans (c_fr0 (j := 2) (by decide) hF1)
      refine x_aload_n (pc' := 57) rfl rfl rfl ?_
      refine x_get (pc' := 60) rfl rfl rfl (hC1.1.1) rfl ?_
      refine x_aload_n (pc' := 61) rfl rfl rfl ?_
      refine x_get (pc' := 64) rfl rfl rfl (hC1.1.1) rfl ?_
      refine x_cV1i (d := 3) (pc' := 67) rfl rfl sX5_158 gX3_sameBeans (hT1.1) ⟨Nat.le_of_ble_eq_true rfl, Nat.le_of_ble_eq_true rfl⟩ (Nat.le_of_ble_eq_true rfl) ⟨Nat.le_of_ble_eq_true rfl, Nat.le_of_ble_eq_true rfl⟩ ?_
      refine w_same hT1 hT01 g1 hA.1 (hC1.2.2.2.1.mono (by decide)) (ho.1.mono (by decide)) hC1.2.2.2.2.2.1.symm (fun d3 => ⟨_, rfl, ?_⟩) (fun d3 => ⟨_, rfl, ?_⟩)
      · refine x_if_eq (tgt := 72) (pc' := 70) rfl rfl rfl (fun c67 => absurd c67 (by decide)) (fun _ => ?_)
        refine x_iload_n (pc' := 71) rfl rfl rfl ?_
        exact x_ireturn rfl rfl rfl (Nat.le_of_ble_eq_true rfl) (Nat.le_of_ble_eq_true rfl) (h _ _ _ hC1.1 (hC1.is hA) hF2)
      · refine x_if_eq (tgt := 72) (pc' := 70) rfl rfl rfl (fun _ => ?_) (fun c67 => absurd (by decide) c67)
        refine x_iinc (pc' := 75) (lv' := [(2, _), (0, _), (1, _)]) rfl rfl (Nat.le_of_ble_eq_true rfl) rfl (nI_1 i) rfl ?_
        refine x_goto (tgt := 30) rfl rfl ?_
        exact ih (i + 1) _ _ _ _ _ (by omega) hC1 hF2
    · refine x_if_eq (tgt := 78) (pc' := 48) rfl rfl rfl (fun _ => ?_) (fun c45 => absurd (by decide) c45)
      refine x_bipush (pc' := 80) rfl rfl bipush_m9 ?_
      exact x_ireturn rfl rfl rfl (Nat.le_of_ble_eq_true rfl) (Nat.le_of_ble_eq_true rfl) (h _ _ _ hC.1 (hC.is hA) hF)
end CD
