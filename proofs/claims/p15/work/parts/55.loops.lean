/-! Back of the class; loop, of which the state alone is told. -/
def q_bkC (b : Nat) (g0 : q_G) : Nat → Nat → q_G → Int32
  | 0, _, _ => -9
  | m + 1, i, g => if g_can g b then (if (∀ x, x < g_n g0 → g_β (g_mv g b) x = g_β g0 x) then nI i else q_bkC b g0 m (i + 1) (g_mv g b)) else -9
def s_backC (A : q_A) (a : Int32) : q_A × Int32 := if q_in (g_n (a_g A)) a then (A, q_bkC a.toNatClampNeg (a_g A) 200 1 (a_g A)) else (s_no A 1, -1)
def n_loop (A : q_A) (a b : Int32) : q_A := if q_in (g_n (a_g A)) a then (if b < 0 ∨ 1 < b then s_no A 2 else A) else s_no A 1
section LP
variable {E : x_E} {z : Nat} {f : x_H} {S : x_S} {M : x_N} {A : q_A} {post : Option Value → x_H → Prop} {a b : Int32} {g : q_G} {C : Nat}
/-- a try of so many bowls -/
def c_one (z : Nat) (f : x_H) (S0 : x_S) (A : q_A) (T : x_T) (g : q_G) : Prop := x_Sys z f (S0.1, x_ut S0.2.1 2 T, S0.2.2.1, S0.2.2.2) ∧ t_is T g ∧ g_ok 99 g ∧ g_n g = g_n (a_g A)
theorem c_one.t2 {f' : x_H} {S0 : x_S} {T T' : x_T} {g g' : q_G} (h : c_one z f S0 A T g) (ht : x_t z f' 9 T') (hf : x_fr (x_ot 9) f f') (hg : t_is T' g') (ho : g_ok 99 g') (hn : g_n g' = g_n g) : c_one z f' S0 A T' g' := by
  obtain ⟨h1, h2, h4, h6⟩ := h
  exact ⟨h1.tt (j := 2) (by decide) ht hf, hg, ho, hn.trans h6⟩
theorem c_backM {b : Nat} (ho : a_ok A) (hb : b < g_n (a_g A)) (f0 : x_H) (S0 : x_S) (hA : c_is S0 A) (r : Int32) (h : c_ends z f0 post (A, r)) : ∀ (k i : Nat) (f : x_H) (T : x_T) (g : q_G), i + k = 201 → c_one z f S0 A T g → q_bkC b (a_g A) k i g = r → x_fr (fun q => 59 ≤ q) f0 f → X E (x_rm 9 0 0) mX5_back (x_QM E z 0 0 post) 30 [(2, .int (nI i)), (0, .ref 0), (1, .int (nI b))] [] z f 0 0 := by
  have hn9 := ho.1.1
  intro k
  induction k with
  | zero =>
    intro i f T g hi hC he hF
    have hi2 : i = 201 := by omega
    subst hi2
    have he2 : (-9 : Int32) = r := he
    subst he2
    refine x_iload_n (pc' := 31) rfl rfl rfl ?_
    refine x_sipush (pc' := 34) rfl rfl sipush_200 ?_
    refine x_icmp_gt (tgt := 78) (pc' := 37) rfl rfl rfl (fun _ => ?_) (fun c34 => absurd ((by decide : (200 : Int32) < nI 201)) c34)
    refine x_bipush (pc' := 80) rfl rfl bipush_m9 ?_
    exact x_ireturn rfl rfl rfl (Nat.le_of_ble_eq_true rfl) (Nat.le_of_ble_eq_true rfl) (h _ _ hC.1 (c_tr hA) hF)
  | succ k ih =>
    intro i f T g hi hC he hF
    have hT : x_t z f 9 T := hC.1.2.1 2 (by decide)
    have hT0 : x_t z f 1 (S0.2.1 0) := hC.1.2.1 0 (by decide)
    replace he : (if g_can g b then (if (∀ x, x < g_n (a_g A) → g_β (g_mv g b) x = g_β (a_g A) x) then nI i else q_bkC b (a_g A) k (i + 1) (g_mv g b)) else -9) = r := he
    refine x_iload_n (pc' := 31) rfl rfl rfl ?_
    refine x_sipush (pc' := 34) rfl rfl sipush_200 ?_
    refine x_icmp_gt (tgt := 78) (pc' := 37) rfl rfl rfl (fun c34 => absurd c34 ((nI_nlt (a := 200) (by omega) (by decide)))) (fun _ => ?_)
    refine x_aload_n (pc' := 38) rfl rfl rfl ?_
    refine x_get (pc' := 41) rfl rfl rfl (hC.1.1) rfl ?_
    refine x_iload_n (pc' := 42) rfl rfl rfl ?_
    refine x_cV1i (d := 2) (pc' := 45) rfl rfl sX5_118 gX3_canMove (hT.1) ⟨Nat.le_of_ble_eq_true rfl, Nat.le_of_ble_eq_true rfl⟩ (Nat.le_of_ble_eq_true rfl) ⟨Nat.le_of_ble_eq_true rfl, Nat.le_of_ble_eq_true rfl⟩ ?_
    refine w_can hT hC.2.1 hC.2.2.1 (by decide) (by omega) (fun d2 => ⟨_, rfl, ?_⟩) (fun d2 => ⟨_, rfl, ?_⟩)
    · rw [if_pos d2] at he
      refine x_if_eq (tgt := 78) (pc' := 48) rfl rfl rfl (fun c45 => absurd c45 ((by decide))) (fun _ => ?_)
      refine x_aload_n (pc' := 49) rfl rfl rfl ?_
      refine x_get (pc' := 52) rfl rfl rfl (hC.1.1) rfl ?_
      refine x_iload_n (pc' := 53) rfl rfl rfl ?_
      refine x_cV1v (d := 4) (pc' := 56) rfl rfl sX5_124 gX3_makeMove (hT.1) ⟨Nat.le_of_ble_eq_true rfl, Nat.le_of_ble_eq_true rfl⟩ (Nat.le_of_ble_eq_true rfl) ⟨Nat.le_of_ble_eq_true rfl, Nat.le_of_ble_eq_true rfl⟩ ?_
      refine w_move hT hC.2.1 hC.2.2.1 (by decide) d2.2.1 (fun f1 T1 hT1 g1 g4 g5 g6 g7 g8 hF1 => ⟨rfl, ?_⟩)
      have hC1 := hC.t2 hT1 hF1 g1 (g_mv_ok hC.2.2.1 (by decide) (by decide) d2.2.1) rfl
      have hT01 : x_t z f1 1 (S0.2.1 0) := hC1.1.2.1 0 (by decide)
      have hF2 := hF.trans (c_fr0 (j := 2) (by decide) hF1)
      have hng : g_n (g_mv g b) = g_n (a_g A) := hC.2.2.2
      refine x_aload_n (pc' := 57) rfl rfl rfl ?_
      refine x_get (pc' := 60) rfl rfl rfl (hC1.1.1) rfl ?_
      refine x_aload_n (pc' := 61) rfl rfl rfl ?_
      refine x_get (pc' := 64) rfl rfl rfl (hC1.1.1) rfl ?_
      refine x_cV1i (d := 3) (pc' := 67) rfl rfl sX5_158 gX3_sameBeans (hT1.1) ⟨Nat.le_of_ble_eq_true rfl, Nat.le_of_ble_eq_true rfl⟩ (Nat.le_of_ble_eq_true rfl) ⟨Nat.le_of_ble_eq_true rfl, Nat.le_of_ble_eq_true rfl⟩ ?_
      refine w_same hT1 hT01 g1 hA.1 (hC1.2.2.1.mono (by decide)) (ho.1.mono (by decide)) hC1.2.2.2.symm (fun d3 => ⟨_, rfl, ?_⟩) (fun d3 => ⟨_, rfl, ?_⟩)
      · rw [hng] at d3
        rw [if_pos d3] at he
        subst he
        refine x_if_eq (tgt := 72) (pc' := 70) rfl rfl rfl (fun c67 => absurd c67 ((by decide))) (fun _ => ?_)
        refine x_iload_n (pc' := 71) rfl rfl rfl ?_
        exact x_ireturn rfl rfl rfl (Nat.le_of_ble_eq_true rfl) (Nat.le_of_ble_eq_true rfl) (h _ _ hC1.1 (c_tr hA) hF2)
      · rw [hng] at d3
        rw [if_neg d3] at he
        refine x_if_eq (tgt := 72) (pc' := 70) rfl rfl rfl (fun _ => ?_) (fun c67 => absurd (rfl) c67)
        refine x_iinc (pc' := 75) (lv' := [(2, _), (0, _), (1, _)]) rfl rfl (Nat.le_of_ble_eq_true rfl) rfl (nI_1 i) rfl ?_
        refine x_goto (tgt := 30) rfl rfl ?_
        exact ih (i + 1) _ _ _ (by omega) hC1 he hF2
    · rw [if_neg d2] at he
      subst he
      refine x_if_eq (tgt := 78) (pc' := 48) rfl rfl rfl (fun _ => ?_) (fun c45 => absurd (rfl) c45)
      refine x_bipush (pc' := 80) rfl rfl bipush_m9 ?_
      exact x_ireturn rfl rfl rfl (Nat.le_of_ble_eq_true rfl) (Nat.le_of_ble_eq_true rfl) (h _ _ hC.1 (c_tr hA) hF)
theorem c_back (hS : x_Sys z f S) (hA : c_is S A) (ho : a_ok A) (h : c_ends z f post (s_backC A a)) : Y E 9 mX5_back [.ref 0, .int a] z f 0 0 post := by
  refine Y.intro gX5_back (lv := [(0, .ref 0), (1, .int a)]) rfl (Nat.le_of_ble_eq_true rfl) ?_
  have hT := hS.2.1 0 (by decide)
  by_cases d1 : q_in (g_n (a_g A)) a
  · obtain ⟨k, hk, hk2, rfl, hcl⟩ := q_in_k d1
    rw [show s_backC A (nI k) = _ from if_pos d1, hcl] at h
    refine x_aload_n (pc' := 1) rfl rfl rfl ?_
    refine x_get (pc' := 4) rfl rfl rfl (hS.1) rfl ?_
    refine x_iload_n (pc' := 5) rfl rfl rfl ?_
    refine x_cV1i (d := 1) (pc' := 8) rfl rfl sX5_90 gX3_has (hT.1) ⟨Nat.le_of_ble_eq_true rfl, Nat.le_of_ble_eq_true rfl⟩ (Nat.le_of_ble_eq_true rfl) ⟨Nat.le_of_ble_eq_true rfl, Nat.le_of_ble_eq_true rfl⟩ ?_
    refine c_has hS hA ho (fun _ => ⟨_, rfl, ?_⟩) (fun q => absurd d1 q)
    refine x_if_ne (tgt := 17) (pc' := 11) rfl rfl rfl (fun _ => ?_) (fun c8 => absurd c8 ((by decide)))
    refine x_aload_n (pc' := 18) rfl rfl rfl ?_
    refine x_get (pc' := 21) rfl rfl rfl (hS.1) rfl ?_
    refine x_aload_n (pc' := 22) rfl rfl rfl ?_
    refine x_get (pc' := 25) rfl rfl rfl (hS.1) rfl ?_
    refine x_cV1v (d := 1) (pc' := 28) rfl rfl sX5_79 gX3_copyFrom ((hS.2.1 2 (by decide)).1) ⟨Nat.le_of_ble_eq_true rfl, Nat.le_of_ble_eq_true rfl⟩ (Nat.le_of_ble_eq_true rfl) ⟨Nat.le_of_ble_eq_true rfl, Nat.le_of_ble_eq_true rfl⟩ ?_
    refine w_copyFrom (hS.2.1 2 (by decide)) hT (by decide) (fun f1 hT1 hF1 => ⟨rfl, ?_⟩)
    have hS1 := hS.tab 2 (by decide) hT1 hF1
    refine x_iconst (pc' := 29) rfl rfl iconst_1 ?_
    refine x_istore_n (pc' := 30) (lv' := [(2, _), (0, _), (1, _)]) rfl rfl (Nat.le_of_ble_eq_true rfl) rfl ?_
    refine x_lvp [0, 1, 2] rfl ?_
    exact c_backM ho hk f S hA _ h 200 1 f1 _ (a_g A) (by omega) ⟨hS1, x_cp_is hA.1, ho.1, rfl⟩ rfl (c_fr0 (j := 2) (by decide) hF1)
  · rw [show s_backC A a = _ from if_neg d1] at h
    refine x_aload_n (pc' := 1) rfl rfl rfl ?_
    refine x_get (pc' := 4) rfl rfl rfl (hS.1) rfl ?_
    refine x_iload_n (pc' := 5) rfl rfl rfl ?_
    refine x_cV1i (d := 1) (pc' := 8) rfl rfl sX5_90 gX3_has (hT.1) ⟨Nat.le_of_ble_eq_true rfl, Nat.le_of_ble_eq_true rfl⟩ (Nat.le_of_ble_eq_true rfl) ⟨Nat.le_of_ble_eq_true rfl, Nat.le_of_ble_eq_true rfl⟩ ?_
    refine c_has hS hA ho (fun q => absurd q d1) (fun _ => ⟨_, rfl, ?_⟩)
    refine x_if_ne (tgt := 17) (pc' := 11) rfl rfl rfl (fun c8 => absurd (rfl) c8) (fun _ => ?_)
    refine x_aload_n (pc' := 12) rfl rfl rfl ?_
    refine x_iconst (pc' := 13) rfl rfl iconst_m1 ?_
    refine x_cV1i (d := 1) (pc' := 16) rfl rfl sX5_68 gX5_refuse (hS.1) ⟨Nat.le_of_ble_eq_true rfl, Nat.le_of_ble_eq_true rfl⟩ (Nat.le_of_ble_eq_true rfl) ⟨Nat.le_of_ble_eq_true rfl, Nat.le_of_ble_eq_true rfl⟩ ?_
    refine c_refuse (k := 1) (by decide) (by decide) hS hA (fun f1 S1 hS1 hA1 hF1 => ⟨_, rfl, ?_⟩)
    exact x_ireturn rfl rfl rfl (Nat.le_of_ble_eq_true rfl) (Nat.le_of_ble_eq_true rfl) (h _ _ hS1 hA1 hF1)
-- loop
abbrev c_any2 (z : Nat) (f0 : x_H) (post : Option Value → x_H → Prop) (S0 : x_S) (A : q_A) : Prop := ∀ (f' : x_H) (T U : x_T) (g u : q_G) (r : Int32), c_two z f' S0 A T U g u → x_fr (fun q => 59 ≤ q) f0 f' → post (some (.int r)) f'
theorem c_rndL {b : Nat} (hb : b < g_n (a_g A)) (hn9 : g_n (a_g A) ≤ 9) (f0 : x_H) (S0 : x_S) (h : c_any2 z f0 post S0 A) : ∀ (k i : Nat) (s t : Int32) (f : x_H) (T U : x_T) (g u : q_G), i + k = 4000000 → c_two z f S0 A T U g u → x_fr (fun q => 59 ≤ q) f0 f → X E (x_rm 5 0 0) mX5_roundOf (x_QM E z 0 0 post) 29 [(4, .int (nI i)), (3, .int s), (2, .int t), (0, .ref 0), (1, .int (nI b))] [] z f 0 0 := by
  intro k
  induction k with
  | zero =>
    intro i s t f T U g u hi hC hF
    have hi2 : i = 4000000 := by omega
    subst hi2
    refine x_iload (pc' := 31) rfl rfl rfl ?_
    refine x_ldc (pc' := 33) rfl rfl rfl ?_
    refine x_icmp_ge (tgt := 102) (pc' := 36) rfl rfl rfl (fun _ => ?_) (fun c33 => absurd ((by decide : (4000000 : Int32) ≤ nI 4000000)) c33)
    refine x_bipush (pc' := 104) rfl rfl bipush_m9 ?_
    exact x_ireturn rfl rfl rfl (Nat.le_of_ble_eq_true rfl) (Nat.le_of_ble_eq_true rfl) (h _ _ _ _ _ _ hC hF)
  | succ k ih =>
    intro i s t f T U g u hi hC hF
    have hT : x_t z f 9 T := hC.1.2.1 2 (by decide)
    have hU : x_t z f 13 U := hC.1.2.1 3 (by decide)
    refine x_iload (pc' := 31) rfl rfl rfl ?_
    refine x_ldc (pc' := 33) rfl rfl rfl ?_
    refine x_icmp_ge (tgt := 102) (pc' := 36) rfl rfl rfl (fun c33 => absurd c33 ((nI_ge (a := i) (b := 4000000) (by omega) (by decide)))) (fun _ => ?_)
    refine x_aload_n (pc' := 37) rfl rfl rfl ?_
    refine x_get (pc' := 40) rfl rfl rfl (hC.1.1) rfl ?_
    refine x_iload_n (pc' := 41) rfl rfl rfl ?_
    refine x_cV1i (d := 2) (pc' := 44) rfl rfl sX5_118 gX3_canMove (hT.1) ⟨Nat.le_of_ble_eq_true rfl, Nat.le_of_ble_eq_true rfl⟩ (Nat.le_of_ble_eq_true rfl) ⟨Nat.le_of_ble_eq_true rfl, Nat.le_of_ble_eq_true rfl⟩ ?_
    refine w_can hT hC.2.1 hC.2.2.2.1 (by decide) (by omega) (fun d2 => ⟨_, rfl, ?_⟩) (fun d2 => ⟨_, rfl, ?_⟩)
    · refine x_if_eq (tgt := 102) (pc' := 47) rfl rfl rfl (fun c44 => absurd c44 ((by decide))) (fun _ => ?_)
      refine x_aload_n (pc' := 48) rfl rfl rfl ?_
      refine x_get (pc' := 51) rfl rfl rfl (hC.1.1) rfl ?_
      refine x_iload_n (pc' := 52) rfl rfl rfl ?_
      refine x_cV1v (d := 4) (pc' := 55) rfl rfl sX5_124 gX3_makeMove (hT.1) ⟨Nat.le_of_ble_eq_true rfl, Nat.le_of_ble_eq_true rfl⟩ (Nat.le_of_ble_eq_true rfl) ⟨Nat.le_of_ble_eq_true rfl, Nat.le_of_ble_eq_true rfl⟩ ?_
      refine w_move hT hC.2.1 hC.2.2.2.1 (by decide) d2.2.1 (fun f1 T1 hT1 g1 g4 g5 g6 g7 g8 hF1 => ⟨rfl, ?_⟩)
      have hC1 := hC.t2 hT1 hF1 g1 (g_mv_ok hC.2.2.2.1 (by decide) (by decide) d2.2.1) rfl
      have hU1 : x_t z f1 13 U := hC1.1.2.1 3 (by decide)
      have hF2 := hF.trans (c_fr0 (j := 2) (by decide) hF1)
      refine x_iinc (pc' := 58) (lv' := [(3, _), (4, _), (2, _), (0, _), (1, _)]) rfl rfl (Nat.le_of_ble_eq_true rfl) rfl (rfl) rfl ?_
      refine x_aload_n (pc' := 59) rfl rfl rfl ?_
      refine x_get (pc' := 62) rfl rfl rfl (hC1.1.1) rfl ?_
      refine x_aload_n (pc' := 63) rfl rfl rfl ?_
      refine x_get (pc' := 66) rfl rfl rfl (hC1.1.1) rfl ?_
      refine x_cV1i (d := 3) (pc' := 69) rfl rfl sX5_158 gX3_sameBeans (hT1.1) ⟨Nat.le_of_ble_eq_true rfl, Nat.le_of_ble_eq_true rfl⟩ (Nat.le_of_ble_eq_true rfl) ⟨Nat.le_of_ble_eq_true rfl, Nat.le_of_ble_eq_true rfl⟩ ?_
      refine w_same hT1 hU1 g1 hC.2.2.1 (hC1.2.2.2.1.mono (by decide)) (hC1.2.2.2.2.1.mono (by decide)) (hC1.2.2.2.2.2.2.trans hC1.2.2.2.2.2.1.symm) (fun d3 => ⟨_, rfl, ?_⟩) (fun d3 => ⟨_, rfl, ?_⟩)
      · refine x_if_eq (tgt := 74) (pc' := 72) rfl rfl rfl (fun c69 => absurd c69 ((by decide))) (fun _ => ?_)
        refine x_iload_n (pc' := 73) rfl rfl rfl ?_
        exact x_ireturn rfl rfl rfl (Nat.le_of_ble_eq_true rfl) (Nat.le_of_ble_eq_true rfl) (h _ _ _ _ _ _ hC1 hF2)
      · refine x_if_eq (tgt := 74) (pc' := 72) rfl rfl rfl (fun _ => ?_) (fun c69 => absurd (rfl) c69)
        refine x_iload_n (pc' := 75) rfl rfl rfl ?_
        refine x_iload_n (pc' := 76) rfl rfl rfl ?_
        refine x_icmp_ne (tgt := 96) (pc' := 79) rfl rfl rfl (fun c76 => ?_) (fun c76 => ?_)
        · refine x_iinc (pc' := 99) (lv' := [(4, _), (3, _), (2, _), (0, _), (1, _)]) rfl rfl (Nat.le_of_ble_eq_true rfl) rfl (nI_1 i) rfl ?_
          refine x_goto (tgt := 29) rfl rfl ?_
          refine x_lvp [0, 1, 2, 3, 4] rfl ?_
          exact ih (i + 1) _ _ _ _ _ _ _ (by omega) hC1 hF2
        · refine x_aload_n (pc' := 80) rfl rfl rfl ?_
          refine x_get (pc' := 83) rfl rfl rfl (hC1.1.1) rfl ?_
          refine x_aload_n (pc' := 84) rfl rfl rfl ?_
          refine x_get (pc' := 87) rfl rfl rfl (hC1.1.1) rfl ?_
          refine x_cV1v (d := 1) (pc' := 90) rfl rfl sX5_79 gX3_copyFrom (hU1.1) ⟨Nat.le_of_ble_eq_true rfl, Nat.le_of_ble_eq_true rfl⟩ (Nat.le_of_ble_eq_true rfl) ⟨Nat.le_of_ble_eq_true rfl, Nat.le_of_ble_eq_true rfl⟩ ?_
          refine w_copyFrom hU1 hT1 (by decide) (fun f3 hU3 hF3 => ⟨rfl, ?_⟩)
          have hC3 := hC1.t3 hU3 hF3 (x_cp_is g1) hC1.2.2.2.1 (hC1.2.2.2.2.2.1.trans hC1.2.2.2.2.2.2.symm)
          have hF4 := hF2.trans (c_fr0 (j := 3) (by decide) hF3)
          refine x_iload_n (pc' := 91) rfl rfl rfl ?_
          refine x_iconst (pc' := 92) rfl rfl iconst_2 ?_
          refine x_imul (pc' := 93) rfl rfl ?_
          refine x_istore_n (pc' := 94) (lv' := [(2, _), (3, _), (4, _), (0, _), (1, _)]) rfl rfl (Nat.le_of_ble_eq_true rfl) rfl ?_
          refine x_iconst (pc' := 95) rfl rfl iconst_0 ?_
          refine x_istore_n (pc' := 96) (lv' := [(3, _), (2, _), (4, _), (0, _), (1, _)]) rfl rfl (Nat.le_of_ble_eq_true rfl) rfl ?_
          refine x_iinc (pc' := 99) (lv' := [(4, _), (3, _), (2, _), (0, _), (1, _)]) rfl rfl (Nat.le_of_ble_eq_true rfl) rfl (nI_1 i) rfl ?_
          refine x_goto (tgt := 29) rfl rfl ?_
          exact ih (i + 1) _ _ _ _ _ _ _ (by omega) hC3 hF4
    · refine x_if_eq (tgt := 102) (pc' := 47) rfl rfl rfl (fun _ => ?_) (fun c44 => absurd (rfl) c44)
      refine x_bipush (pc' := 104) rfl rfl bipush_m9 ?_
      exact x_ireturn rfl rfl rfl (Nat.le_of_ble_eq_true rfl) (Nat.le_of_ble_eq_true rfl) (h _ _ _ _ _ _ hC hF)
theorem c_two0 {f : x_H} (hS : x_Sys z f S) (hA : c_is S A) (ho : a_ok A) {f' : x_H} (hT1 : x_t z f' 13 (x_cp (S.2.1 3) (S.2.1 0))) {f1 : x_H} (hS1 : x_Sys z f1 (S.1, x_ut S.2.1 2 (x_cp (S.2.1 2) (S.2.1 0)), S.2.2.1, S.2.2.2)) (hF : x_fr (x_ot 13) f1 f') : c_two z f' S A (x_cp (S.2.1 2) (S.2.1 0)) (x_cp (S.2.1 3) (S.2.1 0)) (a_g A) (a_g A) :=
  ⟨hS1.tab 3 (by decide) hT1 hF, x_cp_is hA.1, x_cp_is hA.1, ho.1, ho.1, rfl, rfl⟩
theorem c_roundOf {b : Nat} (hS : x_Sys z f S) (hA : c_is S A) (ho : a_ok A) (hb : b < g_n (a_g A)) (h : c_any2 z f post S A) : Y E 5 mX5_roundOf [.ref 0, .int (nI b)] z f 0 0 post := by
  refine Y.intro gX5_roundOf (lv := [(0, .ref 0), (1, .int (nI b))]) rfl (Nat.le_of_ble_eq_true rfl) ?_
  have hT := hS.2.1 0 (by decide)
  refine x_aload_n (pc' := 1) rfl rfl rfl ?_
  refine x_get (pc' := 4) rfl rfl rfl (hS.1) rfl ?_
  refine x_aload_n (pc' := 5) rfl rfl rfl ?_
  refine x_get (pc' := 8) rfl rfl rfl (hS.1) rfl ?_
  refine x_cV1v (d := 1) (pc' := 11) rfl rfl sX5_79 gX3_copyFrom ((hS.2.1 2 (by decide)).1) ⟨Nat.le_of_ble_eq_true rfl, Nat.le_of_ble_eq_true rfl⟩ (Nat.le_of_ble_eq_true rfl) ⟨Nat.le_of_ble_eq_true rfl, Nat.le_of_ble_eq_true rfl⟩ ?_
  refine w_copyFrom (hS.2.1 2 (by decide)) hT (by decide) (fun f1 hT1 hF1 => ⟨rfl, ?_⟩)
  have hS1 := hS.tab 2 (by decide) hT1 hF1
  have hU1 : x_t z f1 13 (S.2.1 3) := hS1.2.1 3 (by decide)
  have hT01 : x_t z f1 1 (S.2.1 0) := hS1.2.1 0 (by decide)
  refine x_aload_n (pc' := 12) rfl rfl rfl ?_
  refine x_get (pc' := 15) rfl rfl rfl (hS1.1) rfl ?_
  refine x_aload_n (pc' := 16) rfl rfl rfl ?_
  refine x_get (pc' := 19) rfl rfl rfl (hS1.1) rfl ?_
  refine x_cV1v (d := 1) (pc' := 22) rfl rfl sX5_79 gX3_copyFrom (hU1.1) ⟨Nat.le_of_ble_eq_true rfl, Nat.le_of_ble_eq_true rfl⟩ (Nat.le_of_ble_eq_true rfl) ⟨Nat.le_of_ble_eq_true rfl, Nat.le_of_ble_eq_true rfl⟩ ?_
  refine w_copyFrom hU1 hT01 (by decide) (fun f2 hU2 hF2 => ⟨rfl, ?_⟩)
  have hC := c_two0 hS hA ho hU2 hS1 hF2
  refine x_iconst (pc' := 23) rfl rfl iconst_1 ?_
  refine x_istore_n (pc' := 24) (lv' := [(2, _), (0, _), (1, _)]) rfl rfl (Nat.le_of_ble_eq_true rfl) rfl ?_
  refine x_iconst (pc' := 25) rfl rfl iconst_0 ?_
  refine x_istore_n (pc' := 26) (lv' := [(3, _), (2, _), (0, _), (1, _)]) rfl rfl (Nat.le_of_ble_eq_true rfl) rfl ?_
  refine x_iconst (pc' := 27) rfl rfl iconst_0 ?_
  refine x_istore (pc' := 29) (lv' := [(4, _), (3, _), (2, _), (0, _), (1, _)]) rfl rfl (Nat.le_of_ble_eq_true rfl) rfl ?_
  refine x_lvp [0, 1, 2, 3, 4] rfl ?_
  exact c_rndL hb ho.1.1 f S h 4000000 0 _ _ f2 _ _ _ _ (by omega) hC ((c_fr0 (j := 2) (by decide) hF1).trans (c_fr0 (j := 3) (by decide) hF2))
theorem c_entL2 {b : Nat} {r : Int32} (hb : b < g_n (a_g A)) (f0 : x_H) (S0 : x_S) (h : c_any2 z f0 post S0 A) : ∀ (k i : Nat) (f : x_H) (T U : x_T) (g u : q_G), i + k = 201 → c_two z f S0 A T U g u → x_fr (fun q => 59 ≤ q) f0 f → X E (x_rm 5 0 0) mX5_entryOf (x_QM E z 0 0 post) 45 [(3, .int (nI i)), (0, .ref 0), (1, .int (nI b)), (2, .int r)] [] z f 0 0 := by
  intro k
  induction k with
  | zero =>
    intro i f T U g u hi hC hF
    have hi2 : i = 201 := by omega
    subst hi2
    refine x_iload_n (pc' := 46) rfl rfl rfl ?_
    refine x_sipush (pc' := 49) rfl rfl sipush_200 ?_
    refine x_icmp_gt (tgt := 90) (pc' := 52) rfl rfl rfl (fun _ => ?_) (fun c49 => absurd ((by decide : (200 : Int32) < nI 201)) c49)
    refine x_bipush (pc' := 92) rfl rfl bipush_m9 ?_
    exact x_ireturn rfl rfl rfl (Nat.le_of_ble_eq_true rfl) (Nat.le_of_ble_eq_true rfl) (h _ _ _ _ _ _ hC hF)
  | succ k ih =>
    intro i f T U g u hi hC hF
    have hT : x_t z f 9 T := hC.1.2.1 2 (by decide)
    have hU : x_t z f 13 U := hC.1.2.1 3 (by decide)
    have hbg : b < g_n g := by rw [hC.2.2.2.2.2.1]; exact hb
    have hbu : b < g_n u := by rw [hC.2.2.2.2.2.2]; exact hb
    refine x_iload_n (pc' := 46) rfl rfl rfl ?_
    refine x_sipush (pc' := 49) rfl rfl sipush_200 ?_
    refine x_icmp_gt (tgt := 90) (pc' := 52) rfl rfl rfl (fun c49 => absurd c49 ((nI_nlt (a := 200) (by omega) (by decide)))) (fun _ => ?_)
    refine x_aload_n (pc' := 53) rfl rfl rfl ?_
    refine x_get (pc' := 56) rfl rfl rfl (hC.1.1) rfl ?_
    refine x_aload_n (pc' := 57) rfl rfl rfl ?_
    refine x_get (pc' := 60) rfl rfl rfl (hC.1.1) rfl ?_
    refine x_cV1i (d := 3) (pc' := 63) rfl rfl sX5_158 gX3_sameBeans (hT.1) ⟨Nat.le_of_ble_eq_true rfl, Nat.le_of_ble_eq_true rfl⟩ (Nat.le_of_ble_eq_true rfl) ⟨Nat.le_of_ble_eq_true rfl, Nat.le_of_ble_eq_true rfl⟩ ?_
    refine w_same hT hU hC.2.1 hC.2.2.1 (hC.2.2.2.1.mono (by decide)) (hC.2.2.2.2.1.mono (by decide)) (hC.2.2.2.2.2.2.trans hC.2.2.2.2.2.1.symm) (fun d3 => ⟨_, rfl, ?_⟩) (fun d3 => ⟨_, rfl, ?_⟩)
    · refine x_if_eq (tgt := 68) (pc' := 66) rfl rfl rfl (fun c63 => absurd c63 ((by decide))) (fun _ => ?_)
      refine x_iload_n (pc' := 67) rfl rfl rfl ?_
      exact x_ireturn rfl rfl rfl (Nat.le_of_ble_eq_true rfl) (Nat.le_of_ble_eq_true rfl) (h _ _ _ _ _ _ hC hF)
    · refine x_if_eq (tgt := 68) (pc' := 66) rfl rfl rfl (fun _ => ?_) (fun c63 => absurd (rfl) c63)
      refine x_aload_n (pc' := 69) rfl rfl rfl ?_
      refine x_get (pc' := 72) rfl rfl rfl (hC.1.1) rfl ?_
      refine x_iload_n (pc' := 73) rfl rfl rfl ?_
      refine x_cV1v (d := 4) (pc' := 76) rfl rfl sX5_124 gX3_makeMove (hT.1) ⟨Nat.le_of_ble_eq_true rfl, Nat.le_of_ble_eq_true rfl⟩ (Nat.le_of_ble_eq_true rfl) ⟨Nat.le_of_ble_eq_true rfl, Nat.le_of_ble_eq_true rfl⟩ ?_
      refine w_move hT hC.2.1 hC.2.2.2.1 (by decide) hbg (fun f1 T1 hT1 g1 g4 g5 g6 g7 g8 hF1 => ⟨rfl, ?_⟩)
      have hC1 := hC.t2 hT1 hF1 g1 (g_mv_ok hC.2.2.2.1 (by decide) (by decide) hbg) rfl
      have hU1 : x_t z f1 13 U := hC1.1.2.1 3 (by decide)
      refine x_aload_n (pc' := 77) rfl rfl rfl ?_
      refine x_get (pc' := 80) rfl rfl rfl (hC1.1.1) rfl ?_
      refine x_iload_n (pc' := 81) rfl rfl rfl ?_
      refine x_cV1v (d := 4) (pc' := 84) rfl rfl sX5_124 gX3_makeMove (hU1.1) ⟨Nat.le_of_ble_eq_true rfl, Nat.le_of_ble_eq_true rfl⟩ (Nat.le_of_ble_eq_true rfl) ⟨Nat.le_of_ble_eq_true rfl, Nat.le_of_ble_eq_true rfl⟩ ?_
      refine w_move hU1 hC.2.2.1 hC.2.2.2.2.1 (by decide) hbu (fun f2 U2 hU2 u1 u4 u5 u6 u7 u8 hF2 => ⟨rfl, ?_⟩)
      have hC2 := hC1.t3 hU2 hF2 u1 (g_mv_ok hC.2.2.2.2.1 (by decide) (by decide) hbu) rfl
      refine x_iinc (pc' := 87) (lv' := [(3, _), (0, _), (1, _), (2, _)]) rfl rfl (Nat.le_of_ble_eq_true rfl) rfl (nI_1 i) rfl ?_
      refine x_goto (tgt := 45) rfl rfl ?_
      exact ih (i + 1) _ _ _ _ _ (by omega) hC2 ((hF.trans (c_fr0 (j := 2) (by decide) hF1)).trans (c_fr0 (j := 3) (by decide) hF2))
theorem c_entL1 {b N : Nat} (hN : N < 2 ^ 31) (hb : b < g_n (a_g A)) (f0 : x_H) (S0 : x_S) (h : c_any2 z f0 post S0 A) : ∀ (k i : Nat) (f : x_H) (T U : x_T) (g u : q_G), i + k = N → c_two z f S0 A T U g u → x_fr (fun q => 59 ≤ q) f0 f → X E (x_rm 5 0 0) mX5_entryOf (x_QM E z 0 0 post) 24 [(3, .int (nI i)), (0, .ref 0), (1, .int (nI b)), (2, .int (nI N))] [] z f 0 0 := by
  intro k
  induction k with
  | zero =>
    intro i f T U g u hi hC hF
    have hi2 : i = N := by omega
    subst hi2
    refine x_iload_n (pc' := 25) rfl rfl rfl ?_
    refine x_iload_n (pc' := 26) rfl rfl rfl ?_
    refine x_icmp_ge (tgt := 43) (pc' := 29) rfl rfl rfl (fun _ => ?_) (fun c26 => absurd ((Int32.le_refl _)) c26)
    refine x_iconst (pc' := 44) rfl rfl iconst_0 ?_
    refine x_istore_n (pc' := 45) (lv' := [(3, _), (0, _), (1, _), (2, _)]) rfl rfl (Nat.le_of_ble_eq_true rfl) rfl ?_
    exact c_entL2 hb f0 S0 h 201 0 f T U g u (by omega) hC hF
  | succ k ih =>
    intro i f T U g u hi hC hF
    have hT : x_t z f 9 T := hC.1.2.1 2 (by decide)
    have hbg : b < g_n g := by rw [hC.2.2.2.2.2.1]; exact hb
    refine x_iload_n (pc' := 25) rfl rfl rfl ?_
    refine x_iload_n (pc' := 26) rfl rfl rfl ?_
    refine x_icmp_ge (tgt := 43) (pc' := 29) rfl rfl rfl (fun c26 => absurd c26 ((nI_ge (by omega) hN))) (fun _ => ?_)
    refine x_aload_n (pc' := 30) rfl rfl rfl ?_
    refine x_get (pc' := 33) rfl rfl rfl (hC.1.1) rfl ?_
    refine x_iload_n (pc' := 34) rfl rfl rfl ?_
    refine x_cV1v (d := 4) (pc' := 37) rfl rfl sX5_124 gX3_makeMove (hT.1) ⟨Nat.le_of_ble_eq_true rfl, Nat.le_of_ble_eq_true rfl⟩ (Nat.le_of_ble_eq_true rfl) ⟨Nat.le_of_ble_eq_true rfl, Nat.le_of_ble_eq_true rfl⟩ ?_
    refine w_move hT hC.2.1 hC.2.2.2.1 (by decide) hbg (fun f1 T1 hT1 g1 g4 g5 g6 g7 g8 hF1 => ⟨rfl, ?_⟩)
    have hC1 := hC.t2 hT1 hF1 g1 (g_mv_ok hC.2.2.2.1 (by decide) (by decide) hbg) rfl
    refine x_iinc (pc' := 40) (lv' := [(3, _), (0, _), (1, _), (2, _)]) rfl rfl (Nat.le_of_ble_eq_true rfl) rfl (nI_1 i) rfl ?_
    refine x_goto (tgt := 24) rfl rfl ?_
    exact ih (i + 1) _ _ _ _ _ (by omega) hC1 (hF.trans (c_fr0 (j := 2) (by decide) hF1))
theorem c_entryOf {b : Nat} {r : Int32} (hS : x_Sys z f S) (hA : c_is S A) (ho : a_ok A) (hb : b < g_n (a_g A)) (h : c_any2 z f post S A) : Y E 5 mX5_entryOf [.ref 0, .int (nI b), .int r] z f 0 0 post := by
  refine Y.intro gX5_entryOf (lv := [(0, .ref 0), (1, .int (nI b)), (2, .int r)]) rfl (Nat.le_of_ble_eq_true rfl) ?_
  have hT := hS.2.1 0 (by decide)
  refine x_aload_n (pc' := 1) rfl rfl rfl ?_
  refine x_get (pc' := 4) rfl rfl rfl (hS.1) rfl ?_
  refine x_aload_n (pc' := 5) rfl rfl rfl ?_
  refine x_get (pc' := 8) rfl rfl rfl (hS.1) rfl ?_
  refine x_cV1v (d := 1) (pc' := 11) rfl rfl sX5_79 gX3_copyFrom ((hS.2.1 2 (by decide)).1) ⟨Nat.le_of_ble_eq_true rfl, Nat.le_of_ble_eq_true rfl⟩ (Nat.le_of_ble_eq_true rfl) ⟨Nat.le_of_ble_eq_true rfl, Nat.le_of_ble_eq_true rfl⟩ ?_
  refine w_copyFrom (hS.2.1 2 (by decide)) hT (by decide) (fun f1 hT1 hF1 => ⟨rfl, ?_⟩)
  have hS1 := hS.tab 2 (by decide) hT1 hF1
  have hU1 : x_t z f1 13 (S.2.1 3) := hS1.2.1 3 (by decide)
  have hT01 : x_t z f1 1 (S.2.1 0) := hS1.2.1 0 (by decide)
  refine x_aload_n (pc' := 12) rfl rfl rfl ?_
  refine x_get (pc' := 15) rfl rfl rfl (hS1.1) rfl ?_
  refine x_aload_n (pc' := 16) rfl rfl rfl ?_
  refine x_get (pc' := 19) rfl rfl rfl (hS1.1) rfl ?_
  refine x_cV1v (d := 1) (pc' := 22) rfl rfl sX5_79 gX3_copyFrom (hU1.1) ⟨Nat.le_of_ble_eq_true rfl, Nat.le_of_ble_eq_true rfl⟩ (Nat.le_of_ble_eq_true rfl) ⟨Nat.le_of_ble_eq_true rfl, Nat.le_of_ble_eq_true rfl⟩ ?_
  refine w_copyFrom hU1 hT01 (by decide) (fun f2 hU2 hF2 => ⟨rfl, ?_⟩)
  have hC := c_two0 hS hA ho hU2 hS1 hF2
  have hF := (c_fr0 (j := 2) (by decide) hF1).trans (c_fr0 (j := 3) (by decide) hF2)
  refine x_iconst (pc' := 23) rfl rfl iconst_0 ?_
  refine x_istore_n (pc' := 24) (lv' := [(3, _), (0, _), (1, _), (2, _)]) rfl rfl (Nat.le_of_ble_eq_true rfl) rfl ?_
  by_cases d : r < 0
  · refine x_iload_n (pc' := 25) rfl rfl rfl ?_
    refine x_iload_n (pc' := 26) rfl rfl rfl ?_
    refine x_icmp_ge (tgt := 43) (pc' := 29) rfl rfl rfl (fun _ => ?_) (fun c26 => absurd ((Int32.le_of_lt d)) c26)
    refine x_iconst (pc' := 44) rfl rfl iconst_0 ?_
    refine x_istore_n (pc' := 45) (lv' := [(3, _), (0, _), (1, _), (2, _)]) rfl rfl (Nat.le_of_ble_eq_true rfl) rfl ?_
    exact c_entL2 hb f S h 201 0 f2 _ _ _ _ (by omega) hC hF
  · obtain ⟨N, hN, rfl⟩ := nI_of d
    exact c_entL1 hN hb f S h N 0 f2 _ _ _ _ (by omega) hC hF
theorem c_two.back {f' : x_H} {S0 : x_S} {T U : x_T} {g u : q_G} (h : c_two z f' S0 A T U g u) (hA : c_is S0 A) : x_Sys z f' (S0.1, x_ut (x_ut S0.2.1 2 T) 3 U, S0.2.2.1, S0.2.2.2) ∧ c_is (S0.1, x_ut (x_ut S0.2.1 2 T) 3 U, S0.2.2.1, S0.2.2.2) A := ⟨h.1, h.is hA⟩
theorem c_loop (hS : x_Sys z f S) (hA : c_is S A) (ho : a_ok A) (h : c_any z f post (n_loop A a b)) : Y E 9 mX5_loop [.ref 0, .int a, .int b] z f 0 0 post := by
  refine Y.intro gX5_loop (lv := [(0, .ref 0), (1, .int a), (2, .int b)]) rfl (Nat.le_of_ble_eq_true rfl) ?_
  have hT := hS.2.1 0 (by decide)
  by_cases d1 : q_in (g_n (a_g A)) a
  · obtain ⟨k, hk, hk2, rfl, hcl⟩ := q_in_k d1
    by_cases e9 : b < 0 ∨ 1 < b
    · rw [show n_loop A (nI k) b = s_no A 2 from (if_pos d1).trans (if_pos e9)] at h
      refine x_aload_n (pc' := 1) rfl rfl rfl ?_
      refine x_get (pc' := 4) rfl rfl rfl (hS.1) rfl ?_
      refine x_iload_n (pc' := 5) rfl rfl rfl ?_
      refine x_cV1i (d := 1) (pc' := 8) rfl rfl sX5_90 gX3_has (hT.1) ⟨Nat.le_of_ble_eq_true rfl, Nat.le_of_ble_eq_true rfl⟩ (Nat.le_of_ble_eq_true rfl) ⟨Nat.le_of_ble_eq_true rfl, Nat.le_of_ble_eq_true rfl⟩ ?_
      refine c_has hS hA ho (fun _ => ⟨_, rfl, ?_⟩) (fun q => absurd d1 q)
      refine x_if_ne (tgt := 17) (pc' := 11) rfl rfl rfl (fun _ => ?_) (fun c8 => absurd c8 ((by decide)))
      refine x_iload_n (pc' := 18) rfl rfl rfl ?_
      refine x_if_lt (tgt := 26) (pc' := 21) rfl rfl rfl (fun c18 => ?_) (fun c18 => ?_)
      · refine x_aload_n (pc' := 27) rfl rfl rfl ?_
        refine x_bipush (pc' := 29) rfl rfl bipush_m2 ?_
        refine x_cV1i (d := 1) (pc' := 32) rfl rfl sX5_68 gX5_refuse (hS.1) ⟨Nat.le_of_ble_eq_true rfl, Nat.le_of_ble_eq_true rfl⟩ (Nat.le_of_ble_eq_true rfl) ⟨Nat.le_of_ble_eq_true rfl, Nat.le_of_ble_eq_true rfl⟩ ?_
        refine c_refuse (k := 2) (by decide) (by decide) hS hA (fun f1 S1 hS1 hA1 hF1 => ⟨_, rfl, ?_⟩)
        exact x_ireturn rfl rfl rfl (Nat.le_of_ble_eq_true rfl) (Nat.le_of_ble_eq_true rfl) (h _ _ _ hS1 hA1 hF1)
      · refine x_iload_n (pc' := 22) rfl rfl rfl ?_
        refine x_iconst (pc' := 23) rfl rfl iconst_1 ?_
        refine x_icmp_le (tgt := 33) (pc' := 26) rfl rfl rfl (fun q => absurd e9 (fun w => w.elim c18 (Int32.not_lt.mpr q))) (fun _ => ?_)
        refine x_aload_n (pc' := 27) rfl rfl rfl ?_
        refine x_bipush (pc' := 29) rfl rfl bipush_m2 ?_
        refine x_cV1i (d := 1) (pc' := 32) rfl rfl sX5_68 gX5_refuse (hS.1) ⟨Nat.le_of_ble_eq_true rfl, Nat.le_of_ble_eq_true rfl⟩ (Nat.le_of_ble_eq_true rfl) ⟨Nat.le_of_ble_eq_true rfl, Nat.le_of_ble_eq_true rfl⟩ ?_
        refine c_refuse (k := 2) (by decide) (by decide) hS hA (fun f1 S1 hS1 hA1 hF1 => ⟨_, rfl, ?_⟩)
        exact x_ireturn rfl rfl rfl (Nat.le_of_ble_eq_true rfl) (Nat.le_of_ble_eq_true rfl) (h _ _ _ hS1 hA1 hF1)
    · rw [show n_loop A (nI k) b = A from (if_pos d1).trans (if_neg e9)] at h
      refine x_aload_n (pc' := 1) rfl rfl rfl ?_
      refine x_get (pc' := 4) rfl rfl rfl (hS.1) rfl ?_
      refine x_iload_n (pc' := 5) rfl rfl rfl ?_
      refine x_cV1i (d := 1) (pc' := 8) rfl rfl sX5_90 gX3_has (hT.1) ⟨Nat.le_of_ble_eq_true rfl, Nat.le_of_ble_eq_true rfl⟩ (Nat.le_of_ble_eq_true rfl) ⟨Nat.le_of_ble_eq_true rfl, Nat.le_of_ble_eq_true rfl⟩ ?_
      refine c_has hS hA ho (fun _ => ⟨_, rfl, ?_⟩) (fun q => absurd d1 q)
      refine x_if_ne (tgt := 17) (pc' := 11) rfl rfl rfl (fun _ => ?_) (fun c8 => absurd c8 ((by decide)))
      refine x_iload_n (pc' := 18) rfl rfl rfl ?_
      refine x_if_lt (tgt := 26) (pc' := 21) rfl rfl rfl (fun c18 => absurd c18 ((fun q => e9 (Or.inl q)))) (fun _ => ?_)
      refine x_iload_n (pc' := 22) rfl rfl rfl ?_
      refine x_iconst (pc' := 23) rfl rfl iconst_1 ?_
      refine x_icmp_le (tgt := 33) (pc' := 26) rfl rfl rfl (fun _ => ?_) (fun c23 => absurd ((Int32.not_lt.mp (fun q => e9 (Or.inr q)))) c23)
      refine x_aload_n (pc' := 34) rfl rfl rfl ?_
      refine x_iload_n (pc' := 35) rfl rfl rfl ?_
      refine x_cV1i (d := 5) (pc' := 38) rfl rfl sX5_162 gX5_roundOf (hS.1) ⟨Nat.le_of_ble_eq_true rfl, Nat.le_of_ble_eq_true rfl⟩ (Nat.le_of_ble_eq_true rfl) ⟨Nat.le_of_ble_eq_true rfl, Nat.le_of_ble_eq_true rfl⟩ ?_
      refine c_roundOf hS hA ho hk (fun f1 T1 U1 g1 u1 r1 hC1 hF1 => ⟨_, rfl, ?_⟩)
      obtain ⟨hS1, hA1⟩ := hC1.back hA
      refine x_istore_n (pc' := 39) (lv' := [(3, _), (0, _), (1, _), (2, _)]) rfl rfl (Nat.le_of_ble_eq_true rfl) rfl ?_
      refine x_iload_n (pc' := 40) rfl rfl rfl ?_
      refine x_bipush (pc' := 42) rfl rfl bipush_m9 ?_
      refine x_icmp_ne (tgt := 48) (pc' := 45) rfl rfl rfl (fun c42 => ?_) (fun c42 => ?_)
      · refine x_aload_n (pc' := 49) rfl rfl rfl ?_
        refine x_iload_n (pc' := 50) rfl rfl rfl ?_
        refine x_iload_n (pc' := 51) rfl rfl rfl ?_
        refine x_cV2i (d := 5) (pc' := 54) rfl rfl sX5_165 gX5_entryOf (hS1.1) ⟨Nat.le_of_ble_eq_true rfl, Nat.le_of_ble_eq_true rfl⟩ (Nat.le_of_ble_eq_true rfl) ⟨Nat.le_of_ble_eq_true rfl, Nat.le_of_ble_eq_true rfl⟩ ?_
        refine c_entryOf hS1 hA1 ho hk (fun f2 T2 U2 g2 u2 r2 hC2 hF2 => ⟨_, rfl, ?_⟩)
        obtain ⟨hS2, hA2⟩ := hC2.back hA1
        refine x_istore (pc' := 56) (lv' := [(4, _), (3, _), (0, _), (1, _), (2, _)]) rfl rfl (Nat.le_of_ble_eq_true rfl) rfl ?_
        refine x_iload_n (pc' := 57) rfl rfl rfl ?_
        refine x_if_eq (tgt := 67) (pc' := 60) rfl rfl rfl (fun c57 => ?_) (fun c57 => ?_)
        · refine x_iload (pc' := 69) rfl rfl rfl ?_
          refine x_goto (tgt := 73) rfl rfl ?_
          exact x_ireturn rfl rfl rfl (Nat.le_of_ble_eq_true rfl) (Nat.le_of_ble_eq_true rfl) (h _ _ _ hS2 hA2 (hF1.trans hF2))
        · refine x_iload (pc' := 62) rfl rfl rfl ?_
          refine x_bipush (pc' := 64) rfl rfl bipush_m9 ?_
          refine x_icmp_ne (tgt := 72) (pc' := 67) rfl rfl rfl (fun c64 => ?_) (fun c64 => ?_)
          · refine x_iload_n (pc' := 73) rfl rfl rfl ?_
            exact x_ireturn rfl rfl rfl (Nat.le_of_ble_eq_true rfl) (Nat.le_of_ble_eq_true rfl) (h _ _ _ hS2 hA2 (hF1.trans hF2))
          · refine x_iload (pc' := 69) rfl rfl rfl ?_
            refine x_goto (tgt := 73) rfl rfl ?_
            exact x_ireturn rfl rfl rfl (Nat.le_of_ble_eq_true rfl) (Nat.le_of_ble_eq_true rfl) (h _ _ _ hS2 hA2 (hF1.trans hF2))
      · refine x_bipush (pc' := 47) rfl rfl bipush_m9 ?_
        exact x_ireturn rfl rfl rfl (Nat.le_of_ble_eq_true rfl) (Nat.le_of_ble_eq_true rfl) (h _ _ _ hS1 hA1 hF1)
  · rw [show n_loop A a b = s_no A 1 from if_neg d1] at h
    refine x_aload_n (pc' := 1) rfl rfl rfl ?_
    refine x_get (pc' := 4) rfl rfl rfl (hS.1) rfl ?_
    refine x_iload_n (pc' := 5) rfl rfl rfl ?_
    refine x_cV1i (d := 1) (pc' := 8) rfl rfl sX5_90 gX3_has (hT.1) ⟨Nat.le_of_ble_eq_true rfl, Nat.le_of_ble_eq_true rfl⟩ (Nat.le_of_ble_eq_true rfl) ⟨Nat.le_of_ble_eq_true rfl, Nat.le_of_ble_eq_true rfl⟩ ?_
    refine c_has hS hA ho (fun q => absurd q d1) (fun _ => ⟨_, rfl, ?_⟩)
    refine x_if_ne (tgt := 17) (pc' := 11) rfl rfl rfl (fun c8 => absurd (rfl) c8) (fun _ => ?_)
    refine x_aload_n (pc' := 12) rfl rfl rfl ?_
    refine x_iconst (pc' := 13) rfl rfl iconst_m1 ?_
    refine x_cV1i (d := 1) (pc' := 16) rfl rfl sX5_68 gX5_refuse (hS.1) ⟨Nat.le_of_ble_eq_true rfl, Nat.le_of_ble_eq_true rfl⟩ (Nat.le_of_ble_eq_true rfl) ⟨Nat.le_of_ble_eq_true rfl, Nat.le_of_ble_eq_true rfl⟩ ?_
    refine c_refuse (k := 1) (by decide) (by decide) hS hA (fun f1 S1 hS1 hA1 hF1 => ⟨_, rfl, ?_⟩)
    exact x_ireturn rfl rfl rfl (Nat.le_of_ble_eq_true rfl) (Nat.le_of_ble_eq_true rfl) (h _ _ _ hS1 hA1 hF1)
theorem r_loopL {b n : Nat} {w : Int32} (ho : a_ok A) (hb : b < g_n (a_g A)) (hn : n ≤ 200) (hM : x_Mdl z f M) (hA : r_is M A) (hbn : m_bn M b n (a_g A)) (h : ∀ r : Int32, post (some (.int r)) f) (k : Nat) (hk : k ≤ n) (K : ∀ j : Nat, X E (x_rm 9 0 0) mX6_loop (x_QM E z 0 0 post) 88 [(5, .int (nI j)), (4, .int (nI k)), (3, .int (nI n)), (0, .ref 59), (1, .int (nI b)), (2, .int w)] [] z f 0 0) : ∀ (m j : Nat), j + m = k → X E (x_rm 9 0 0) mX6_loop (x_QM E z 0 0 post) 49 [(5, .int (nI j)), (4, .int (nI k)), (3, .int (nI n)), (0, .ref 59), (1, .int (nI b)), (2, .int w)] [] z f 0 0 := by
  have hokx : ∀ x i, g_β (g_sq b x (a_g A)) i ≤ 100 := fun x i => Nat.le_trans ((g_sq_ok ho.1 (by decide) (by decide) hb x).2.2.2.2.2.1 i) (by decide)
  intro m
  induction m with
  | zero =>
    intro j hj
    refine x_iload (pc' := 51) rfl rfl rfl ?_
    refine x_iload (pc' := 53) rfl rfl rfl ?_
    refine x_icmp_ge (tgt := 88) (pc' := 56) rfl rfl rfl (fun _ => ?_) (fun c53 => absurd ((nI_le (by omega) (by omega))) c53)
    exact K j
  | succ m ih =>
    intro j hj
    refine x_iload (pc' := 51) rfl rfl rfl ?_
    refine x_iload (pc' := 53) rfl rfl rfl ?_
    refine x_icmp_ge (tgt := 88) (pc' := 56) rfl rfl rfl (fun c53 => absurd c53 ((nI_ge (by omega) (by omega)))) (fun _ => ?_)
    refine x_aload_n (pc' := 57) rfl rfl rfl ?_
    refine x_iload (pc' := 59) rfl rfl rfl ?_
    refine x_iload (pc' := 61) rfl rfl rfl ?_
    refine x_cV2i (d := 1) (pc' := 64) rfl rfl sX6_192 gX6_isLike (hM.1) ⟨Nat.le_of_ble_eq_true rfl, Nat.le_of_ble_eq_true rfl⟩ (Nat.le_of_ble_eq_true rfl) ⟨Nat.le_of_ble_eq_true rfl, Nat.le_of_ble_eq_true rfl⟩ ?_
    refine m_like (j := j) (k := k) (n := g_n (a_g A)) (β := g_β (g_sq b j (a_g A))) (γ := g_β (g_sq b k (a_g A))) hM (by omega) (by omega) hA.1.2.2.2.1 ho.1.1 (hbn j (by omega)) (hbn k (by omega)) (hokx j) (hokx k) (fun d => ⟨_, rfl, ?_⟩) (fun d => ⟨_, rfl, ?_⟩)
    · refine x_if_eq (tgt := 82) (pc' := 67) rfl rfl rfl (fun c64 => absurd c64 ((by decide))) (fun _ => ?_)
      refine x_iload_n (pc' := 68) rfl rfl rfl ?_
      refine x_if_ne (tgt := 76) (pc' := 71) rfl rfl rfl (fun c68 => ?_) (fun c68 => ?_)
      · refine x_iload (pc' := 78) rfl rfl rfl ?_
        refine x_iload (pc' := 80) rfl rfl rfl ?_
        refine x_isub (pc' := 81) rfl rfl ?_
        exact x_ireturn rfl rfl rfl (Nat.le_of_ble_eq_true rfl) (Nat.le_of_ble_eq_true rfl) (h _)
      · refine x_iload (pc' := 73) rfl rfl rfl ?_
        refine x_goto (tgt := 81) rfl rfl ?_
        exact x_ireturn rfl rfl rfl (Nat.le_of_ble_eq_true rfl) (Nat.le_of_ble_eq_true rfl) (h _)
    · refine x_if_eq (tgt := 82) (pc' := 67) rfl rfl rfl (fun _ => ?_) (fun c64 => absurd (rfl) c64)
      refine x_iinc (pc' := 85) (lv' := [(5, _), (4, _), (3, _), (0, _), (1, _), (2, _)]) rfl rfl (Nat.le_of_ble_eq_true rfl) rfl (nI_1 j) rfl ?_
      refine x_goto (tgt := 49) rfl rfl ?_
      exact ih (j + 1) (by omega)
theorem r_loopK {b n : Nat} {w : Int32} (ho : a_ok A) (hb : b < g_n (a_g A)) (hn : n ≤ 200) (hM : x_Mdl z f M) (hA : r_is M A) (hbn : m_bn M b n (a_g A)) (h : ∀ r : Int32, post (some (.int r)) f) : ∀ (m k : Nat), k + m = n + 1 → X E (x_rm 9 0 0) mX6_loop (x_QM E z 0 0 post) 40 [(4, .int (nI k)), (3, .int (nI n)), (0, .ref 59), (1, .int (nI b)), (2, .int w)] [] z f 0 0 := by
  intro m
  induction m with
  | zero =>
    intro k hk
    refine x_iload (pc' := 42) rfl rfl rfl ?_
    refine x_iload_n (pc' := 43) rfl rfl rfl ?_
    refine x_icmp_gt (tgt := 94) (pc' := 46) rfl rfl rfl (fun _ => ?_) (fun c43 => absurd ((nI_lt (by omega) (by omega))) c43)
    refine x_bipush (pc' := 96) rfl rfl bipush_m9 ?_
    exact x_ireturn rfl rfl rfl (Nat.le_of_ble_eq_true rfl) (Nat.le_of_ble_eq_true rfl) (h _)
  | succ m ih =>
    intro k hk
    refine x_iload (pc' := 42) rfl rfl rfl ?_
    refine x_iload_n (pc' := 43) rfl rfl rfl ?_
    refine x_icmp_gt (tgt := 94) (pc' := 46) rfl rfl rfl (fun c43 => absurd c43 ((nI_nlt (by omega) (by omega)))) (fun _ => ?_)
    refine x_iconst (pc' := 47) rfl rfl iconst_0 ?_
    refine x_istore (pc' := 49) (lv' := [(5, _), (4, _), (3, _), (0, _), (1, _), (2, _)]) rfl rfl (Nat.le_of_ble_eq_true rfl) rfl ?_
    refine r_loopL ho hb hn hM hA hbn h k (by omega) (fun j => ?_) k 0 (by omega)
    refine x_iinc (pc' := 91) (lv' := [(4, _), (5, _), (3, _), (0, _), (1, _), (2, _)]) rfl rfl (Nat.le_of_ble_eq_true rfl) rfl (nI_1 k) rfl ?_
    refine x_goto (tgt := 40) rfl rfl ?_
    refine x_lvp [0, 2, 3, 4, 5] rfl ?_
    exact ih (k + 1) (by omega)
theorem r_loop (hM : x_Mdl z f M) (hA : r_is M A) (ho : a_ok A) (h : r_any z f post (n_loop A a b)) : Y E 9 mX6_loop [.ref 59, .int a, .int b] z f 0 0 post := by
  refine Y.intro gX6_loop (lv := [(0, .ref 59), (1, .int a), (2, .int b)]) rfl (Nat.le_of_ble_eq_true rfl) ?_
  by_cases d1 : q_in (g_n (a_g A)) a
  · obtain ⟨k, hk, hk2, rfl, hcl⟩ := q_in_k d1
    by_cases e9 : b < 0 ∨ 1 < b
    · rw [show n_loop A (nI k) b = s_no A 2 from (if_pos d1).trans (if_pos e9)] at h
      refine x_aload_n (pc' := 1) rfl rfl rfl ?_
      refine x_iload_n (pc' := 2) rfl rfl rfl ?_
      refine x_cV1i (d := 2) (pc' := 5) rfl rfl sX6_103 gX6_isBowl (hM.1) ⟨Nat.le_of_ble_eq_true rfl, Nat.le_of_ble_eq_true rfl⟩ (Nat.le_of_ble_eq_true rfl) ⟨Nat.le_of_ble_eq_true rfl, Nat.le_of_ble_eq_true rfl⟩ ?_
      refine r_bowl hM hA ho (fun _ => ⟨_, rfl, ?_⟩) (fun q => absurd d1 q)
      refine x_if_ne (tgt := 14) (pc' := 8) rfl rfl rfl (fun _ => ?_) (fun c5 => absurd c5 ((by decide)))
      refine x_iload_n (pc' := 15) rfl rfl rfl ?_
      refine x_i2l (pc' := 16) rfl rfl ?_
      refine x_lconst (pc' := 17) rfl rfl lconst_0 ?_
      refine x_lconst (pc' := 18) rfl rfl lconst_1 ?_
      refine x_cS3i (d := 1) (pc' := 21) rfl rfl sX6_63 gX6_in ⟨Nat.le_of_ble_eq_true rfl, Nat.le_of_ble_eq_true rfl⟩ (Nat.le_of_ble_eq_true rfl) ⟨Nat.le_of_ble_eq_true rfl, Nat.le_of_ble_eq_true rfl⟩ ?_
      refine r_in (lo := 0) (hi := 1) (by decide) (by decide) (fun q => absurd e9 q) (fun _ => ⟨_, rfl, ?_⟩)
      refine x_if_ne (tgt := 31) (pc' := 24) rfl rfl rfl (fun c21 => absurd (rfl) c21) (fun _ => ?_)
      refine x_aload_n (pc' := 25) rfl rfl rfl ?_
      refine x_bipush (pc' := 27) rfl rfl bipush_m2 ?_
      refine x_cV1i (d := 1) (pc' := 30) rfl rfl sX6_110 gX6_refuse (hM.1) ⟨Nat.le_of_ble_eq_true rfl, Nat.le_of_ble_eq_true rfl⟩ (Nat.le_of_ble_eq_true rfl) ⟨Nat.le_of_ble_eq_true rfl, Nat.le_of_ble_eq_true rfl⟩ ?_
      refine r_refuse (k := 1) (by decide) (by decide) hM hA (fun f1 M1 hM1 hA1 hF1 => ⟨_, rfl, ?_⟩)
      exact x_ireturn rfl rfl rfl (Nat.le_of_ble_eq_true rfl) (Nat.le_of_ble_eq_true rfl) (h _ _ _ hM1 hA1 hF1)
    · rw [show n_loop A (nI k) b = A from (if_pos d1).trans (if_neg e9)] at h
      refine x_aload_n (pc' := 1) rfl rfl rfl ?_
      refine x_iload_n (pc' := 2) rfl rfl rfl ?_
      refine x_cV1i (d := 2) (pc' := 5) rfl rfl sX6_103 gX6_isBowl (hM.1) ⟨Nat.le_of_ble_eq_true rfl, Nat.le_of_ble_eq_true rfl⟩ (Nat.le_of_ble_eq_true rfl) ⟨Nat.le_of_ble_eq_true rfl, Nat.le_of_ble_eq_true rfl⟩ ?_
      refine r_bowl hM hA ho (fun _ => ⟨_, rfl, ?_⟩) (fun q => absurd d1 q)
      refine x_if_ne (tgt := 14) (pc' := 8) rfl rfl rfl (fun _ => ?_) (fun c5 => absurd c5 ((by decide)))
      refine x_iload_n (pc' := 15) rfl rfl rfl ?_
      refine x_i2l (pc' := 16) rfl rfl ?_
      refine x_lconst (pc' := 17) rfl rfl lconst_0 ?_
      refine x_lconst (pc' := 18) rfl rfl lconst_1 ?_
      refine x_cS3i (d := 1) (pc' := 21) rfl rfl sX6_63 gX6_in ⟨Nat.le_of_ble_eq_true rfl, Nat.le_of_ble_eq_true rfl⟩ (Nat.le_of_ble_eq_true rfl) ⟨Nat.le_of_ble_eq_true rfl, Nat.le_of_ble_eq_true rfl⟩ ?_
      refine r_in (lo := 0) (hi := 1) (by decide) (by decide) (fun _ => ⟨_, rfl, ?_⟩) (fun q => absurd q e9)
      refine x_if_ne (tgt := 31) (pc' := 24) rfl rfl rfl (fun _ => ?_) (fun c21 => absurd c21 ((by decide)))
      refine x_aload_n (pc' := 32) rfl rfl rfl ?_
      refine x_iload_n (pc' := 33) rfl rfl rfl ?_
      refine x_cV1i (d := 6) (pc' := 36) rfl rfl sX6_189 gX6_records200 (hM.1) ⟨Nat.le_of_ble_eq_true rfl, Nat.le_of_ble_eq_true rfl⟩ (Nat.le_of_ble_eq_true rfl) ⟨Nat.le_of_ble_eq_true rfl, Nat.le_of_ble_eq_true rfl⟩ ?_
      refine m_records200 hM hA ho hk (fun f1 M1 n hn hne hM1 hA1 hbn1 hF1 => ⟨_, rfl, ?_⟩)
      refine x_istore_n (pc' := 37) (lv' := [(3, _), (0, _), (1, _), (2, _)]) rfl rfl (Nat.le_of_ble_eq_true rfl) rfl ?_
      refine x_iconst (pc' := 38) rfl rfl iconst_1 ?_
      refine x_istore (pc' := 40) (lv' := [(4, _), (3, _), (0, _), (1, _), (2, _)]) rfl rfl (Nat.le_of_ble_eq_true rfl) rfl ?_
      exact r_loopK ho hk hn hM1 hA1 hbn1 (fun r => h _ _ r hM1 hA1 hF1) n 1 (by omega)
  · rw [show n_loop A a b = s_no A 1 from if_neg d1] at h
    refine x_aload_n (pc' := 1) rfl rfl rfl ?_
    refine x_iload_n (pc' := 2) rfl rfl rfl ?_
    refine x_cV1i (d := 2) (pc' := 5) rfl rfl sX6_103 gX6_isBowl (hM.1) ⟨Nat.le_of_ble_eq_true rfl, Nat.le_of_ble_eq_true rfl⟩ (Nat.le_of_ble_eq_true rfl) ⟨Nat.le_of_ble_eq_true rfl, Nat.le_of_ble_eq_true rfl⟩ ?_
    refine r_bowl hM hA ho (fun q => absurd q d1) (fun _ => ⟨_, rfl, ?_⟩)
    refine x_if_ne (tgt := 14) (pc' := 8) rfl rfl rfl (fun c5 => absurd (rfl) c5) (fun _ => ?_)
    refine x_aload_n (pc' := 9) rfl rfl rfl ?_
    refine x_iconst (pc' := 10) rfl rfl iconst_m1 ?_
    refine x_cV1i (d := 1) (pc' := 13) rfl rfl sX6_110 gX6_refuse (hM.1) ⟨Nat.le_of_ble_eq_true rfl, Nat.le_of_ble_eq_true rfl⟩ (Nat.le_of_ble_eq_true rfl) ⟨Nat.le_of_ble_eq_true rfl, Nat.le_of_ble_eq_true rfl⟩ ?_
    refine r_refuse (k := 0) (by decide) (by decide) hM hA (fun f1 M1 hM1 hA1 hF1 => ⟨_, rfl, ?_⟩)
    exact x_ireturn rfl rfl rfl (Nat.le_of_ble_eq_true rfl) (Nat.le_of_ble_eq_true rfl) (h _ _ _ hM1 hA1 hF1)
end LP
