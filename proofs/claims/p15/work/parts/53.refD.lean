/-! The reference: counts, lots. -/
theorem q_lot_st : ∀ (k : Nat) (w : Int32) (g : q_G), g_κ (q_lot k w g).2 = g_κ g ∧ g_n (q_lot k w g).2 = g_n g ∧ g_f (q_lot k w g).2 = g_f g ∧ g_l (q_lot k w g).2 = g_l g
  | 0, w, g => ⟨rfl, rfl, rfl, rfl⟩
  | k + 1, w, g => by
    have h := q_lot_st k (q_z w) (if g_can g (q_zb (q_z w) (g_n g)) then g_mv g (q_zb (q_z w) (g_n g)) else g_flip g)
    have h2 : ∀ g' : q_G, g' = (if g_can g (q_zb (q_z w) (g_n g)) then g_mv g (q_zb (q_z w) (g_n g)) else g_flip g) → g_κ g' = g_κ g ∧ g_n g' = g_n g ∧ g_f g' = g_f g ∧ g_l g' = g_l g := by
      intro g' e
      subst e
      split <;> exact ⟨rfl, rfl, rfl, rfl⟩
    obtain ⟨a1, a2, a3, a4⟩ := h2 _ rfl
    exact ⟨h.1.trans a1, h.2.1.trans a2, h.2.2.1.trans a3, h.2.2.2.trans a4⟩
theorem q_lot_ok {C : Nat} (hC : 99 ≤ C) (hC2 : C ≤ 100) : ∀ (k : Nat) (w : Int32) (g : q_G), g_ok C g → g_ok C (q_lot k w g).2
  | 0, w, g, h => h
  | k + 1, w, g, h => by
    unfold q_lot
    refine q_lot_ok hC hC2 k _ _ ?_
    split
    · rename_i hc
      exact g_mv_ok h hC hC2 hc.2.1
    · exact g_flip_ok h
theorem q_lot_ly (k : Nat) (w : Int32) (g : q_G) : g_ly g (q_lot k w g).2 = g := by
  obtain ⟨h1, h2, h3, h4⟩ := q_lot_st k w g
  show (g_κ (q_lot k w g).2, g_β g, g_π g, g_n (q_lot k w g).2, g_f (q_lot k w g).2, g_l (q_lot k w g).2, g_t g) = g
  rw [h1, h2, h3, h4]
section RD
variable {E : x_E} {z : Nat} {f : x_H} {S : x_S} {M : x_N} {A : q_A} {post : Option Value → x_H → Prop} {a b : Int32} {g : q_G} {C : Nat}
theorem r_lotsI {N i : Nat} {w0 s me : Int32} (n : Nat) (hn9 : n ≤ 9) (h2n : 2 ≤ n) (f0 : x_H) (M0 : x_N) (h18 : M0.1 18 = 0) (R : Int32 × q_G) (K : ∀ (f' : x_H) (M' : x_N), x_Mdl z f' M' → m_is M' R.2 → m_kp M0 M' → x_fr (fun q => q < 59) f0 f' → X E (x_rm 9 0 0) mX6_lots (x_QM E z 0 0 post) 132 [(7, .int (nI 20)), (6, .int (nI i)), (5, .int s), (4, .int me), (3, .int R.1), (0, .ref 59), (1, .int (nI N)), (2, .int w0)] [] z f' 0 0) : ∀ (k t : Nat) (w : Int32) (g : q_G) (f : x_H) (M : x_N), t + k = 20 → g_ok 99 g → g_n g = n → q_lot k w g = R → x_Mdl z f M → m_is M g → m_kp M0 M → x_fr (fun q => q < 59) f0 f → X E (x_rm 9 0 0) mX6_lots (x_QM E z 0 0 post) 68 [(7, .int (nI t)), (6, .int (nI i)), (5, .int s), (4, .int me), (3, .int w), (0, .ref 59), (1, .int (nI N)), (2, .int w0)] [] z f 0 0 := by
  intro k
  induction k with
  | zero =>
    intro t w g f M ht hg hgn he hM hm hk hF
    have ht2 : t = 20 := by omega
    subst ht2
    have he2 : (w, g) = R := he
    subst he2
    refine x_iload (pc' := 70) rfl rfl rfl ?_
    refine x_bipush (pc' := 72) rfl rfl bipush_20 ?_
    refine x_icmp_ge (tgt := 132) (pc' := 75) rfl rfl rfl (fun _ => ?_) (fun c72 => absurd ((by decide : (20 : Int32) ≤ nI 20)) c72)
    exact K _ _ hM hm hk hF
  | succ k ih =>
    intro t w g f M ht hg hgn he hM hm hk hF
    subst hgn
    replace he : q_lot k (q_z w) (if g_can g (q_zb (q_z w) (g_n g)) then g_mv g (q_zb (q_z w) (g_n g)) else g_flip g) = R := he
    have hzb : q_zb (q_z w) (g_n g) < g_n g := Nat.mod_lt _ (by omega)
    refine x_iload (pc' := 70) rfl rfl rfl ?_
    refine x_bipush (pc' := 72) rfl rfl bipush_20 ?_
    refine x_icmp_ge (tgt := 132) (pc' := 75) rfl rfl rfl (fun c72 => absurd c72 ((nI_ge (a := t) (b := 20) (by omega) (by decide)))) (fun _ => ?_)
    refine x_iload_n (pc' := 76) rfl rfl rfl ?_
    refine x_ldc (pc' := 78) rfl rfl rfl ?_
    refine x_imul (pc' := 79) rfl rfl ?_
    refine x_ldc (pc' := 81) rfl rfl rfl ?_
    refine x_iadd (pc' := 82) rfl rfl ?_
    refine x_eqi (show w * 1664525 + 1013904223 = q_z w from rfl) ?_
    refine x_istore_n (pc' := 83) (lv' := [(3, _), (7, _), (6, _), (5, _), (4, _), (0, _), (1, _), (2, _)]) rfl rfl (Nat.le_of_ble_eq_true rfl) rfl ?_
    refine x_iload_n (pc' := 84) rfl rfl rfl ?_
    refine x_ldc (pc' := 86) rfl rfl rfl ?_
    refine x_iand (pc' := 87) rfl rfl ?_
    refine x_sipush (pc' := 90) rfl rfl sipush_256 ?_
    refine x_idiv (pc' := 91) rfl rfl (by decide) ?_
    refine x_aload_n (pc' := 92) rfl rfl rfl ?_
    refine x_get (pc' := 95) rfl rfl rfl (hM.1) rfl ?_
    refine x_eqi hm.2.2.2.1 ?_
    refine x_irem (pc' := 96) rfl rfl (nI_ne0 (by omega) (by omega)) ?_
    refine x_eqi (q_zI (q_z w) (by omega) hn9) ?_
    refine x_istore (pc' := 98) (lv' := [(8, _), (3, _), (7, _), (6, _), (5, _), (4, _), (0, _), (1, _), (2, _)]) rfl rfl (Nat.le_of_ble_eq_true rfl) rfl ?_
    refine x_aload_n (pc' := 99) rfl rfl rfl ?_
    refine x_iload (pc' := 101) rfl rfl rfl ?_
    refine x_cV1i (d := 3) (pc' := 104) rfl rfl sX6_135 gX6_canMove (hM.1) ⟨Nat.le_of_ble_eq_true rfl, Nat.le_of_ble_eq_true rfl⟩ (Nat.le_of_ble_eq_true rfl) ⟨Nat.le_of_ble_eq_true rfl, Nat.le_of_ble_eq_true rfl⟩ ?_
    refine m_can1 hM hm hg (by decide) (by omega) (fun d2 => ⟨_, rfl, ?_⟩) (fun d2 => ⟨_, rfl, ?_⟩)
    · rw [if_pos d2] at he
      refine x_if_eq (tgt := 116) (pc' := 107) rfl rfl rfl (fun c104 => absurd c104 ((by decide))) (fun _ => ?_)
      refine x_aload_n (pc' := 108) rfl rfl rfl ?_
      refine x_iload (pc' := 110) rfl rfl rfl ?_
      refine x_cV1v (d := 4) (pc' := 113) rfl rfl sX6_141 gX6_moves (hM.1) ⟨Nat.le_of_ble_eq_true rfl, Nat.le_of_ble_eq_true rfl⟩ (Nat.le_of_ble_eq_true rfl) ⟨Nat.le_of_ble_eq_true rfl, Nat.le_of_ble_eq_true rfl⟩ ?_
      refine m_mv hM hm hg (by decide) d2 (hk.no18.trans h18) (fun f1 M1 hM1 g1 k1 e14 e15 e16 e17 hF1 => ⟨rfl, ?_⟩)
      refine x_goto (tgt := 126) rfl rfl ?_
      refine x_iinc (pc' := 129) (lv' := [(7, _), (8, _), (3, _), (6, _), (5, _), (4, _), (0, _), (1, _), (2, _)]) rfl rfl (Nat.le_of_ble_eq_true rfl) rfl (nI_1 t) rfl ?_
      refine x_goto (tgt := 68) rfl rfl ?_
      refine x_lvp [0, 3, 4, 5, 2, 6, 7, 8] rfl ?_
      exact ih (t + 1) _ _ _ _ (by omega) (g_mv_ok hg (by decide) (by decide) d2.2.1) rfl he hM1 g1 (hk.trans k1) (hF.trans hF1)
    · rw [if_neg d2] at he
      refine x_if_eq (tgt := 116) (pc' := 107) rfl rfl rfl (fun _ => ?_) (fun c104 => absurd (rfl) c104)
      refine x_aload_n (pc' := 117) rfl rfl rfl ?_
      refine x_iconst (pc' := 118) rfl rfl iconst_1 ?_
      refine x_aload_n (pc' := 119) rfl rfl rfl ?_
      refine x_get (pc' := 122) rfl rfl rfl (hM.1) rfl ?_
      refine x_eqi hm.2.2.2.2.2.2 ?_
      refine x_isub (pc' := 123) rfl rfl ?_
      refine x_eqi (show (1 : Int32) - nI (g_t g) = nI (1 - g_t g) from pk_sub (a := 1) hg.2.2.2.1) ?_
      refine x_put (pc' := 126) rfl rfl rfl (hM.1) (Nat.le_of_ble_eq_true rfl) rfl rfl rfl rfl (fun f1 e1 => ?_)
      have hM1 := hM.num 7 e1 (x_mFs7 _ _)
      have hF1 := hF.up e1 (by decide)
      refine x_iinc (pc' := 129) (lv' := [(7, _), (8, _), (3, _), (6, _), (5, _), (4, _), (0, _), (1, _), (2, _)]) rfl rfl (Nat.le_of_ble_eq_true rfl) rfl (nI_1 t) rfl ?_
      refine x_goto (tgt := 68) rfl rfl ?_
      refine x_lvp [0, 3, 4, 5, 2, 6, 7, 8] rfl ?_
      exact ih (t + 1) _ (g_flip g) _ _ (by omega) (g_flip_ok hg) rfl he hM1 ⟨hm.1, hm.2.1, hm.2.2.1, hm.2.2.2.1, hm.2.2.2.2.1, hm.2.2.2.2.2.1, rfl⟩ (hk.trans ⟨fun _ _ _ => rfl, rfl, fun i i1 _ _ _ _ => pk_un i1⟩) hF1
theorem r_lotsL {w0 : Int32} {N : Nat} (hN : N ≤ 20) (ho : a_ok A) (h2n : 2 ≤ g_n (a_g A)) (f0 : x_H) (M0 : x_N) (hA : r_is M0 A) (r : Int32) (h : r_ends z f0 post (A, r)) : ∀ (k i : Nat) (w s : Int32) (f : x_H) (M : x_N), i + k = N → q_lots k w s (a_g A) = r → x_Mdl z f M → m_is M (a_g A) → r_sc M0 M → m_fr M 0 (a_g A) → x_fr (fun q => q < 59) f0 f → X E (x_rm 9 0 0) mX6_lots (x_QM E z 0 0 post) 59 [(6, .int (nI i)), (5, .int s), (4, .int (nI (g_t (a_g A)))), (3, .int w), (0, .ref 59), (1, .int (nI N)), (2, .int w0)] [] z f 0 0 := by
  have ht1 := ho.1.2.2.2.1
  intro k
  induction k with
  | zero =>
    intro i w s f M hi he hM hm hs hfr hF
    have hi2 : i = N := by omega
    subst hi2
    have he2 : s = r := he
    subst he2
    refine x_iload (pc' := 61) rfl rfl rfl ?_
    refine x_iload_n (pc' := 62) rfl rfl rfl ?_
    refine x_icmp_ge (tgt := 165) (pc' := 65) rfl rfl rfl (fun _ => ?_) (fun c62 => absurd ((Int32.le_refl _)) c62)
    refine x_iload (pc' := 167) rfl rfl rfl ?_
    exact x_ireturn rfl rfl rfl (Nat.le_of_ble_eq_true rfl) (Nat.le_of_ble_eq_true rfl) (h _ _ hM (hA.sc hs hm) hF)
  | succ k ih =>
    intro i w s f M hi he hM hm hs hfr hF
    replace he : q_lots k (q_lot 20 w (a_g A)).1 (s + (nI (g_π (q_lot 20 w (a_g A)).2 (g_t (a_g A))) - nI (g_π (q_lot 20 w (a_g A)).2 (1 - g_t (a_g A))))) (a_g A) = r := he
    have hA1 : r_is M A := hA.sc hs hm
    refine x_iload (pc' := 61) rfl rfl rfl ?_
    refine x_iload_n (pc' := 62) rfl rfl rfl ?_
    refine x_icmp_ge (tgt := 165) (pc' := 65) rfl rfl rfl (fun c62 => absurd c62 ((nI_ge (by omega) (by omega)))) (fun _ => ?_)
    refine x_iconst (pc' := 66) rfl rfl iconst_0 ?_
    refine x_istore (pc' := 68) (lv' := [(7, _), (6, _), (5, _), (4, _), (3, _), (0, _), (1, _), (2, _)]) rfl rfl (Nat.le_of_ble_eq_true rfl) rfl ?_
    refine r_lotsI (g_n (a_g A)) ho.1.1 h2n f M hA1.2.2.1 (q_lot 20 w (a_g A)) (fun f2 M2 hM2 g2 k2 hF2 => ?_) 20 0 w (a_g A) f M (by omega) ho.1 rfl rfl hM hm m_kp.rf x_fr.rf
    have og2 := q_lot_ok (by decide : 99 ≤ 99) (by decide) 20 w (a_g A) ho.1
    refine x_iload (pc' := 134) rfl rfl rfl ?_
    refine x_aload_n (pc' := 135) rfl rfl rfl ?_
    refine x_get (pc' := 138) rfl rfl rfl (hM2.1) rfl ?_
    refine x_iload (pc' := 140) rfl rfl rfl ?_
    refine x_iaload (pc' := 141) rfl rfl (hM2.2.1 2 (by decide)) (vp_in_nI (n := g_t (a_g A)) (N := 2) (by omega) (by decide)) ?_
    refine x_eqi (show M2.2.1 2 (nI (g_t (a_g A))).toNatClampNeg = nI (g_π (q_lot 20 w (a_g A)).2 (g_t (a_g A))) from by rw [nI_clamp (by omega), g2.2.2.1]) ?_
    refine x_aload_n (pc' := 142) rfl rfl rfl ?_
    refine x_get (pc' := 145) rfl rfl rfl (hM2.1) rfl ?_
    refine x_iconst (pc' := 146) rfl rfl iconst_1 ?_
    refine x_iload (pc' := 148) rfl rfl rfl ?_
    refine x_isub (pc' := 149) rfl rfl ?_
    refine x_eqi (show (1 : Int32) - nI (g_t (a_g A)) = nI (1 - g_t (a_g A)) from pk_sub (a := 1) ht1) ?_
    refine x_iaload (pc' := 150) rfl rfl (hM2.2.1 2 (by decide)) (vp_in_nI (n := 1 - g_t (a_g A)) (N := 2) (by omega) (by decide)) ?_
    refine x_eqi (show M2.2.1 2 (nI (1 - g_t (a_g A))).toNatClampNeg = nI (g_π (q_lot 20 w (a_g A)).2 (1 - g_t (a_g A))) from by rw [nI_clamp (by omega), g2.2.2.1]) ?_
    refine x_isub (pc' := 151) rfl rfl ?_
    refine x_iadd (pc' := 152) rfl rfl ?_
    refine x_istore (pc' := 154) (lv' := [(5, _), (7, _), (6, _), (4, _), (3, _), (0, _), (1, _), (2, _)]) rfl rfl (Nat.le_of_ble_eq_true rfl) rfl ?_
    refine x_aload_n (pc' := 155) rfl rfl rfl ?_
    refine x_iconst (pc' := 156) rfl rfl iconst_0 ?_
    refine x_cV1v (d := 1) (pc' := 159) rfl rfl sX6_160 gX6_lays (hM2.1) ⟨Nat.le_of_ble_eq_true rfl, Nat.le_of_ble_eq_true rfl⟩ (Nat.le_of_ble_eq_true rfl) ⟨Nat.le_of_ble_eq_true rfl, Nat.le_of_ble_eq_true rfl⟩ ?_
    refine m_lays (l := 0) (g := a_g A) (by decide) hM2 g2 (hfr.eq (k2.1 6 (by decide) (by decide))) ho.1 og2 (fun f3 M3 hM3 g3 y1 y2 y3 hF3 => ⟨rfl, ?_⟩)
    rw [q_lot_ly] at g3
    have hs3 : r_sc M0 M3 := (hs.trans k2.sc).trans (m_ly.sc y1 y2)
    have hfr3 : m_fr M3 0 (a_g A) := hfr.eq ((y2 6 (by decide) (by decide)).trans (k2.1 6 (by decide) (by decide)))
    refine x_iinc (pc' := 162) (lv' := [(6, _), (5, _), (7, _), (4, _), (3, _), (0, _), (1, _), (2, _)]) rfl rfl (Nat.le_of_ble_eq_true rfl) rfl (nI_1 i) rfl ?_
    refine x_goto (tgt := 59) rfl rfl ?_
    refine x_lvp [0, 1, 3, 4, 5, 6, 7] rfl ?_
    exact ih (i + 1) _ _ f3 M3 (by omega) he hM3 g3 hs3 hfr3 ((hF.trans hF2).trans hF3)
theorem r_lots (hM : x_Mdl z f M) (hA : r_is M A) (ho : a_ok A) (h : r_ends z f post (s_lots A a b)) : Y E 9 mX6_lots [.ref 59, .int a, .int b] z f 0 0 post := by
  refine Y.intro gX6_lots (lv := [(0, .ref 59), (1, .int a), (2, .int b)]) rfl (Nat.le_of_ble_eq_true rfl) ?_
  obtain ⟨b1, b2, b3, b4, b5, b6, b7, b8, b9⟩ := id hA
  refine x_iload_n (pc' := 1) rfl rfl rfl ?_
  refine x_iconst (pc' := 2) rfl rfl iconst_1 ?_
  refine x_icmp_ge (tgt := 12) (pc' := 5) rfl rfl rfl (fun c2 => ?_) (fun c2 => ?_)
  · have d1 : ¬ a < 1 := Int32.not_lt.mpr c2
    refine x_iload_n (pc' := 13) rfl rfl rfl ?_
    refine x_bipush (pc' := 15) rfl rfl bipush_20 ?_
    refine x_icmp_le (tgt := 25) (pc' := 18) rfl rfl rfl (fun c15 => ?_) (fun c15 => ?_)
    · have d2 : ¬ 20 < a := Int32.not_lt.mpr c15
      refine x_aload_n (pc' := 26) rfl rfl rfl ?_
      refine x_get (pc' := 29) rfl rfl rfl (hM.1) rfl ?_
      refine x_eqi b1.2.2.2.1 ?_
      refine x_iconst (pc' := 30) rfl rfl iconst_2 ?_
      by_cases d3 : g_n (a_g A) < 2
      · rw [show s_lots A a b = _ from (if_neg d1).trans ((if_neg d2).trans (if_pos d3))] at h
        refine x_icmp_ge (tgt := 40) (pc' := 33) rfl rfl rfl (fun q => absurd q (nI_ge (b := 2) d3 (by decide))) (fun _ => ?_)
        refine x_aload_n (pc' := 34) rfl rfl rfl ?_
        refine x_bipush (pc' := 36) rfl rfl bipush_m3 ?_
        refine x_cV1i (d := 2) (pc' := 39) rfl rfl sX6_180 gX6_told (hM.1) ⟨Nat.le_of_ble_eq_true rfl, Nat.le_of_ble_eq_true rfl⟩ (Nat.le_of_ble_eq_true rfl) ⟨Nat.le_of_ble_eq_true rfl, Nat.le_of_ble_eq_true rfl⟩ ?_
        refine r_told (k := 2) (by decide) (by decide) hM hA (fun f1 M1 hM1 hA1 hF1 => ⟨_, rfl, ?_⟩)
        exact x_ireturn rfl rfl rfl (Nat.le_of_ble_eq_true rfl) (Nat.le_of_ble_eq_true rfl) (h _ _ hM1 hA1 hF1)
      · rw [show s_lots A a b = _ from (if_neg d1).trans ((if_neg d2).trans (if_neg d3))] at h
        refine x_icmp_ge (tgt := 40) (pc' := 33) rfl rfl rfl (fun _ => ?_) (fun q => absurd (nI_le (a := 2) (Nat.not_lt.mp d3) (by have := ho.1.1; omega)) q)
        obtain ⟨N, hN, rfl⟩ := nI_of2 (n := 20) (M := 20) rfl (fun q => d1 (Int32.lt_trans q (by decide))) (Int32.not_lt.mp d2)
        rw [nI_clamp (by omega)] at h
        refine x_iload_n (pc' := 41) rfl rfl rfl ?_
        refine x_istore_n (pc' := 42) (lv' := [(3, _), (0, _), (1, _), (2, _)]) rfl rfl (Nat.le_of_ble_eq_true rfl) rfl ?_
        refine x_aload_n (pc' := 43) rfl rfl rfl ?_
        refine x_get (pc' := 46) rfl rfl rfl (hM.1) rfl ?_
        refine x_eqi b1.2.2.2.2.2.2 ?_
        refine x_istore (pc' := 48) (lv' := [(4, _), (3, _), (0, _), (1, _), (2, _)]) rfl rfl (Nat.le_of_ble_eq_true rfl) rfl ?_
        refine x_iconst (pc' := 49) rfl rfl iconst_0 ?_
        refine x_istore (pc' := 51) (lv' := [(5, _), (4, _), (3, _), (0, _), (1, _), (2, _)]) rfl rfl (Nat.le_of_ble_eq_true rfl) rfl ?_
        refine x_aload_n (pc' := 52) rfl rfl rfl ?_
        refine x_iconst (pc' := 53) rfl rfl iconst_0 ?_
        refine x_cV1v (d := 1) (pc' := 56) rfl rfl sX6_154 gX6_keeps (hM.1) ⟨Nat.le_of_ble_eq_true rfl, Nat.le_of_ble_eq_true rfl⟩ (Nat.le_of_ble_eq_true rfl) ⟨Nat.le_of_ble_eq_true rfl, Nat.le_of_ble_eq_true rfl⟩ ?_
        refine m_keeps (l := 0) (by decide) hM b1 (fun f1 M1 hM1 g1 k1 fr1 hF1 => ⟨rfl, ?_⟩)
        refine x_iconst (pc' := 57) rfl rfl iconst_0 ?_
        refine x_istore (pc' := 59) (lv' := [(6, _), (5, _), (4, _), (3, _), (0, _), (1, _), (2, _)]) rfl rfl (Nat.le_of_ble_eq_true rfl) rfl ?_
        exact r_lotsL hN ho (Nat.not_lt.mp d3) f M hA _ h N 0 b 0 f1 M1 (by omega) rfl hM1 g1 k1.sc fr1 hF1
    · rw [show s_lots A a b = _ from (if_neg d1).trans (if_pos (Int32.not_le.mp c15))] at h
      refine x_aload_n (pc' := 19) rfl rfl rfl ?_
      refine x_bipush (pc' := 21) rfl rfl bipush_m6 ?_
      refine x_cV1i (d := 2) (pc' := 24) rfl rfl sX6_180 gX6_told (hM.1) ⟨Nat.le_of_ble_eq_true rfl, Nat.le_of_ble_eq_true rfl⟩ (Nat.le_of_ble_eq_true rfl) ⟨Nat.le_of_ble_eq_true rfl, Nat.le_of_ble_eq_true rfl⟩ ?_
      refine r_told (k := 5) (by decide) (by decide) hM hA (fun f1 M1 hM1 hA1 hF1 => ⟨_, rfl, ?_⟩)
      exact x_ireturn rfl rfl rfl (Nat.le_of_ble_eq_true rfl) (Nat.le_of_ble_eq_true rfl) (h _ _ hM1 hA1 hF1)
  · rw [show s_lots A a b = _ from if_pos (Int32.not_le.mp c2)] at h
    refine x_aload_n (pc' := 6) rfl rfl rfl ?_
    refine x_bipush (pc' := 8) rfl rfl bipush_m4 ?_
    refine x_cV1i (d := 2) (pc' := 11) rfl rfl sX6_180 gX6_told (hM.1) ⟨Nat.le_of_ble_eq_true rfl, Nat.le_of_ble_eq_true rfl⟩ (Nat.le_of_ble_eq_true rfl) ⟨Nat.le_of_ble_eq_true rfl, Nat.le_of_ble_eq_true rfl⟩ ?_
    refine r_told (k := 3) (by decide) (by decide) hM hA (fun f1 M1 hM1 hA1 hF1 => ⟨_, rfl, ?_⟩)
    exact x_ireturn rfl rfl rfl (Nat.le_of_ble_eq_true rfl) (Nat.le_of_ble_eq_true rfl) (h _ _ hM1 hA1 hF1)
theorem r_count (hM : x_Mdl z f M) (hA : r_is M A) (ho : a_ok A) (h : r_ends z f post (s_count A a)) : Y E 9 mX6_count [.ref 59, .int a] z f 0 0 post := by
  refine Y.intro gX6_count (lv := [(0, .ref 59), (1, .int a)]) rfl (Nat.le_of_ble_eq_true rfl) ?_
  obtain ⟨b1, b2, b3, b4, b5, b6, b7, b8, b9⟩ := id hA
  obtain ⟨t1, t2, t3, t4, t5, t6, t7⟩ := id b1
  unfold s_count at h
  by_cases e16 : a < 11 ∨ 16 < a
  · by_cases e9 : a < 0 ∨ 9 < a
    · have n0 : ¬ a = 0 := fun q => by rw [q] at e9; exact absurd e9 (by decide)
      have n1 : ¬ a = 1 := fun q => by rw [q] at e9; exact absurd e9 (by decide)
      have n2 : ¬ a = 2 := fun q => by rw [q] at e9; exact absurd e9 (by decide)
      have n3 : ¬ a = 3 := fun q => by rw [q] at e9; exact absurd e9 (by decide)
      have n4 : ¬ a = 4 := fun q => by rw [q] at e9; exact absurd e9 (by decide)
      have n5 : ¬ a = 5 := fun q => by rw [q] at e9; exact absurd e9 (by decide)
      have n6 : ¬ a = 6 := fun q => by rw [q] at e9; exact absurd e9 (by decide)
      have n7 : ¬ a = 7 := fun q => by rw [q] at e9; exact absurd e9 (by decide)
      have n8 : ¬ a = 8 := fun q => by rw [q] at e9; exact absurd e9 (by decide)
      have n9 : ¬ a = 9 := fun q => by rw [q] at e9; exact absurd e9 (by decide)
      rw [if_neg n0, if_neg n1, if_neg n2, if_neg n3, if_neg n4, if_neg n5, if_neg n6, if_neg n7, if_neg n8, if_neg n9, if_neg (fun q => e16.elim q.1 q.2)] at h
      refine x_iload_n (pc' := 1) rfl rfl rfl ?_
      refine x_i2l (pc' := 2) rfl rfl ?_
      refine x_ldc2 (pc' := 5) rfl rfl rfl ?_
      refine x_ldc2 (pc' := 8) rfl rfl rfl ?_
      refine x_cS3i (d := 1) (pc' := 11) rfl rfl sX6_63 gX6_in ⟨Nat.le_of_ble_eq_true rfl, Nat.le_of_ble_eq_true rfl⟩ (Nat.le_of_ble_eq_true rfl) ⟨Nat.le_of_ble_eq_true rfl, Nat.le_of_ble_eq_true rfl⟩ ?_
      refine r_in (lo := 11) (hi := 16) (by decide) (by decide) (fun q => absurd e16 q) (fun _ => ⟨_, rfl, ?_⟩)
      refine x_if_eq (tgt := 24) (pc' := 14) rfl rfl rfl (fun _ => ?_) (fun c11 => absurd (rfl) c11)
      refine x_iload_n (pc' := 25) rfl rfl rfl ?_
      refine x_i2l (pc' := 26) rfl rfl ?_
      refine x_lconst (pc' := 27) rfl rfl lconst_0 ?_
      refine x_ldc2 (pc' := 30) rfl rfl rfl ?_
      refine x_cS3i (d := 1) (pc' := 33) rfl rfl sX6_63 gX6_in ⟨Nat.le_of_ble_eq_true rfl, Nat.le_of_ble_eq_true rfl⟩ (Nat.le_of_ble_eq_true rfl) ⟨Nat.le_of_ble_eq_true rfl, Nat.le_of_ble_eq_true rfl⟩ ?_
      refine r_in (lo := 0) (hi := 9) (by decide) (by decide) (fun q => absurd e9 q) (fun _ => ⟨_, rfl, ?_⟩)
      refine x_if_ne (tgt := 39) (pc' := 36) rfl rfl rfl (fun c33 => absurd (rfl) c33) (fun _ => ?_)
      refine x_bipush (pc' := 38) rfl rfl bipush_m9 ?_
      exact x_ireturn rfl rfl rfl (Nat.le_of_ble_eq_true rfl) (Nat.le_of_ble_eq_true rfl) (h _ _ hM hA x_fr.rf)
    obtain ⟨k, hk, rfl⟩ := nI_of2 (n := 9) (M := 9) rfl (fun q => e9 (Or.inl q)) (Int32.not_lt.mp (fun q => e9 (Or.inr q)))
    have hk10 : k = 0 ∨ k = 1 ∨ k = 2 ∨ k = 3 ∨ k = 4 ∨ k = 5 ∨ k = 6 ∨ k = 7 ∨ k = 8 ∨ k = 9 := by omega
    rcases hk10 with rfl | rfl | rfl | rfl | rfl | rfl | rfl | rfl | rfl | rfl
    · rw [if_pos (by decide)] at h
      refine x_iload_n (pc' := 1) rfl rfl rfl ?_
      refine x_i2l (pc' := 2) rfl rfl ?_
      refine x_ldc2 (pc' := 5) rfl rfl rfl ?_
      refine x_ldc2 (pc' := 8) rfl rfl rfl ?_
      refine x_cS3i (d := 1) (pc' := 11) rfl rfl sX6_63 gX6_in ⟨Nat.le_of_ble_eq_true rfl, Nat.le_of_ble_eq_true rfl⟩ (Nat.le_of_ble_eq_true rfl) ⟨Nat.le_of_ble_eq_true rfl, Nat.le_of_ble_eq_true rfl⟩ ?_
      refine r_in (lo := 11) (hi := 16) (by decide) (by decide) (fun q => absurd e16 q) (fun _ => ⟨_, rfl, ?_⟩)
      refine x_if_eq (tgt := 24) (pc' := 14) rfl rfl rfl (fun _ => ?_) (fun c11 => absurd (rfl) c11)
      refine x_iload_n (pc' := 25) rfl rfl rfl ?_
      refine x_i2l (pc' := 26) rfl rfl ?_
      refine x_lconst (pc' := 27) rfl rfl lconst_0 ?_
      refine x_ldc2 (pc' := 30) rfl rfl rfl ?_
      refine x_cS3i (d := 1) (pc' := 33) rfl rfl sX6_63 gX6_in ⟨Nat.le_of_ble_eq_true rfl, Nat.le_of_ble_eq_true rfl⟩ (Nat.le_of_ble_eq_true rfl) ⟨Nat.le_of_ble_eq_true rfl, Nat.le_of_ble_eq_true rfl⟩ ?_
      refine r_in (lo := 0) (hi := 9) (by decide) (by decide) (fun _ => ⟨_, rfl, ?_⟩) (fun q => absurd q e9)
      refine x_if_ne (tgt := 39) (pc' := 36) rfl rfl rfl (fun _ => ?_) (fun c33 => absurd c33 ((by decide)))
      refine x_iload_n (pc' := 40) rfl rfl rfl ?_
      refine x_iconst (pc' := 41) rfl rfl iconst_4 ?_
      refine x_icmp_ge (tgt := 76) (pc' := 44) rfl rfl rfl (fun c41 => absurd c41 ((by decide))) (fun _ => ?_)
      refine x_iload_n (pc' := 45) rfl rfl rfl ?_
      refine x_if_ne (tgt := 55) (pc' := 48) rfl rfl rfl (fun c45 => absurd (rfl) c45) (fun _ => ?_)
      refine x_aload_n (pc' := 49) rfl rfl rfl ?_
      refine x_get (pc' := 52) rfl rfl rfl (hM.1) rfl ?_
      refine x_eqi t4 ?_
      refine x_goto (tgt := 75) rfl rfl ?_
      exact x_ireturn rfl rfl rfl (Nat.le_of_ble_eq_true rfl) (Nat.le_of_ble_eq_true rfl) (h _ _ hM hA x_fr.rf)
    · rw [if_neg (by decide), if_pos (by decide)] at h
      refine x_iload_n (pc' := 1) rfl rfl rfl ?_
      refine x_i2l (pc' := 2) rfl rfl ?_
      refine x_ldc2 (pc' := 5) rfl rfl rfl ?_
      refine x_ldc2 (pc' := 8) rfl rfl rfl ?_
      refine x_cS3i (d := 1) (pc' := 11) rfl rfl sX6_63 gX6_in ⟨Nat.le_of_ble_eq_true rfl, Nat.le_of_ble_eq_true rfl⟩ (Nat.le_of_ble_eq_true rfl) ⟨Nat.le_of_ble_eq_true rfl, Nat.le_of_ble_eq_true rfl⟩ ?_
      refine r_in (lo := 11) (hi := 16) (by decide) (by decide) (fun q => absurd e16 q) (fun _ => ⟨_, rfl, ?_⟩)
      refine x_if_eq (tgt := 24) (pc' := 14) rfl rfl rfl (fun _ => ?_) (fun c11 => absurd (rfl) c11)
      refine x_iload_n (pc' := 25) rfl rfl rfl ?_
      refine x_i2l (pc' := 26) rfl rfl ?_
      refine x_lconst (pc' := 27) rfl rfl lconst_0 ?_
      refine x_ldc2 (pc' := 30) rfl rfl rfl ?_
      refine x_cS3i (d := 1) (pc' := 33) rfl rfl sX6_63 gX6_in ⟨Nat.le_of_ble_eq_true rfl, Nat.le_of_ble_eq_true rfl⟩ (Nat.le_of_ble_eq_true rfl) ⟨Nat.le_of_ble_eq_true rfl, Nat.le_of_ble_eq_true rfl⟩ ?_
      refine r_in (lo := 0) (hi := 9) (by decide) (by decide) (fun _ => ⟨_, rfl, ?_⟩) (fun q => absurd q e9)
      refine x_if_ne (tgt := 39) (pc' := 36) rfl rfl rfl (fun _ => ?_) (fun c33 => absurd c33 ((by decide)))
      refine x_iload_n (pc' := 40) rfl rfl rfl ?_
      refine x_iconst (pc' := 41) rfl rfl iconst_4 ?_
      refine x_icmp_ge (tgt := 76) (pc' := 44) rfl rfl rfl (fun c41 => absurd c41 ((by decide))) (fun _ => ?_)
      refine x_iload_n (pc' := 45) rfl rfl rfl ?_
      refine x_if_ne (tgt := 55) (pc' := 48) rfl rfl rfl (fun _ => ?_) (fun c45 => absurd c45 ((by decide)))
      refine x_iload_n (pc' := 56) rfl rfl rfl ?_
      refine x_iconst (pc' := 57) rfl rfl iconst_1 ?_
      refine x_icmp_ne (tgt := 67) (pc' := 60) rfl rfl rfl (fun c57 => absurd ((by decide)) c57) (fun _ => ?_)
      refine x_aload_n (pc' := 61) rfl rfl rfl ?_
      refine x_cV0i (d := 1) (pc' := 64) rfl rfl sX6_169 gX6_all (hM.1) ⟨Nat.le_of_ble_eq_true rfl, Nat.le_of_ble_eq_true rfl⟩ (Nat.le_of_ble_eq_true rfl) ⟨Nat.le_of_ble_eq_true rfl, Nat.le_of_ble_eq_true rfl⟩ ?_
      refine m_all hM t4 ho.1.1 t2 ⟨_, rfl, ?_⟩
      refine x_goto (tgt := 75) rfl rfl ?_
      exact x_ireturn rfl rfl rfl (Nat.le_of_ble_eq_true rfl) (Nat.le_of_ble_eq_true rfl) (h _ _ hM hA x_fr.rf)
    · rw [if_neg (by decide), if_neg (by decide), if_pos (by decide)] at h
      refine x_iload_n (pc' := 1) rfl rfl rfl ?_
      refine x_i2l (pc' := 2) rfl rfl ?_
      refine x_ldc2 (pc' := 5) rfl rfl rfl ?_
      refine x_ldc2 (pc' := 8) rfl rfl rfl ?_
      refine x_cS3i (d := 1) (pc' := 11) rfl rfl sX6_63 gX6_in ⟨Nat.le_of_ble_eq_true rfl, Nat.le_of_ble_eq_true rfl⟩ (Nat.le_of_ble_eq_true rfl) ⟨Nat.le_of_ble_eq_true rfl, Nat.le_of_ble_eq_true rfl⟩ ?_
      refine r_in (lo := 11) (hi := 16) (by decide) (by decide) (fun q => absurd e16 q) (fun _ => ⟨_, rfl, ?_⟩)
      refine x_if_eq (tgt := 24) (pc' := 14) rfl rfl rfl (fun _ => ?_) (fun c11 => absurd (rfl) c11)
      refine x_iload_n (pc' := 25) rfl rfl rfl ?_
      refine x_i2l (pc' := 26) rfl rfl ?_
      refine x_lconst (pc' := 27) rfl rfl lconst_0 ?_
      refine x_ldc2 (pc' := 30) rfl rfl rfl ?_
      refine x_cS3i (d := 1) (pc' := 33) rfl rfl sX6_63 gX6_in ⟨Nat.le_of_ble_eq_true rfl, Nat.le_of_ble_eq_true rfl⟩ (Nat.le_of_ble_eq_true rfl) ⟨Nat.le_of_ble_eq_true rfl, Nat.le_of_ble_eq_true rfl⟩ ?_
      refine r_in (lo := 0) (hi := 9) (by decide) (by decide) (fun _ => ⟨_, rfl, ?_⟩) (fun q => absurd q e9)
      refine x_if_ne (tgt := 39) (pc' := 36) rfl rfl rfl (fun _ => ?_) (fun c33 => absurd c33 ((by decide)))
      refine x_iload_n (pc' := 40) rfl rfl rfl ?_
      refine x_iconst (pc' := 41) rfl rfl iconst_4 ?_
      refine x_icmp_ge (tgt := 76) (pc' := 44) rfl rfl rfl (fun c41 => absurd c41 ((by decide))) (fun _ => ?_)
      refine x_iload_n (pc' := 45) rfl rfl rfl ?_
      refine x_if_ne (tgt := 55) (pc' := 48) rfl rfl rfl (fun _ => ?_) (fun c45 => absurd c45 ((by decide)))
      refine x_iload_n (pc' := 56) rfl rfl rfl ?_
      refine x_iconst (pc' := 57) rfl rfl iconst_1 ?_
      refine x_icmp_ne (tgt := 67) (pc' := 60) rfl rfl rfl (fun _ => ?_) (fun c57 => absurd c57 ((by decide)))
      refine x_aload_n (pc' := 68) rfl rfl rfl ?_
      refine x_get (pc' := 71) rfl rfl rfl (hM.1) rfl ?_
      refine x_iload_n (pc' := 72) rfl rfl rfl ?_
      refine x_iconst (pc' := 73) rfl rfl iconst_2 ?_
      refine x_isub (pc' := 74) rfl rfl ?_
      refine x_eqi (show nI 2 - 2 = nI 0 from by decide) ?_
      refine x_iaload (pc' := 75) rfl rfl (hM.2.1 2 (by decide)) (vp_in_nI (n := 0) (N := 2) (by decide) (by decide)) ?_
      refine x_eqi (show M.2.1 2 (nI 0).toNatClampNeg = nI (g_π (a_g A) 0) from by rw [t3]; rfl) ?_
      exact x_ireturn rfl rfl rfl (Nat.le_of_ble_eq_true rfl) (Nat.le_of_ble_eq_true rfl) (h _ _ hM hA x_fr.rf)
    · rw [if_neg (by decide), if_neg (by decide), if_neg (by decide), if_pos (by decide)] at h
      refine x_iload_n (pc' := 1) rfl rfl rfl ?_
      refine x_i2l (pc' := 2) rfl rfl ?_
      refine x_ldc2 (pc' := 5) rfl rfl rfl ?_
      refine x_ldc2 (pc' := 8) rfl rfl rfl ?_
      refine x_cS3i (d := 1) (pc' := 11) rfl rfl sX6_63 gX6_in ⟨Nat.le_of_ble_eq_true rfl, Nat.le_of_ble_eq_true rfl⟩ (Nat.le_of_ble_eq_true rfl) ⟨Nat.le_of_ble_eq_true rfl, Nat.le_of_ble_eq_true rfl⟩ ?_
      refine r_in (lo := 11) (hi := 16) (by decide) (by decide) (fun q => absurd e16 q) (fun _ => ⟨_, rfl, ?_⟩)
      refine x_if_eq (tgt := 24) (pc' := 14) rfl rfl rfl (fun _ => ?_) (fun c11 => absurd (rfl) c11)
      refine x_iload_n (pc' := 25) rfl rfl rfl ?_
      refine x_i2l (pc' := 26) rfl rfl ?_
      refine x_lconst (pc' := 27) rfl rfl lconst_0 ?_
      refine x_ldc2 (pc' := 30) rfl rfl rfl ?_
      refine x_cS3i (d := 1) (pc' := 33) rfl rfl sX6_63 gX6_in ⟨Nat.le_of_ble_eq_true rfl, Nat.le_of_ble_eq_true rfl⟩ (Nat.le_of_ble_eq_true rfl) ⟨Nat.le_of_ble_eq_true rfl, Nat.le_of_ble_eq_true rfl⟩ ?_
      refine r_in (lo := 0) (hi := 9) (by decide) (by decide) (fun _ => ⟨_, rfl, ?_⟩) (fun q => absurd q e9)
      refine x_if_ne (tgt := 39) (pc' := 36) rfl rfl rfl (fun _ => ?_) (fun c33 => absurd c33 ((by decide)))
      refine x_iload_n (pc' := 40) rfl rfl rfl ?_
      refine x_iconst (pc' := 41) rfl rfl iconst_4 ?_
      refine x_icmp_ge (tgt := 76) (pc' := 44) rfl rfl rfl (fun c41 => absurd c41 ((by decide))) (fun _ => ?_)
      refine x_iload_n (pc' := 45) rfl rfl rfl ?_
      refine x_if_ne (tgt := 55) (pc' := 48) rfl rfl rfl (fun _ => ?_) (fun c45 => absurd c45 ((by decide)))
      refine x_iload_n (pc' := 56) rfl rfl rfl ?_
      refine x_iconst (pc' := 57) rfl rfl iconst_1 ?_
      refine x_icmp_ne (tgt := 67) (pc' := 60) rfl rfl rfl (fun _ => ?_) (fun c57 => absurd c57 ((by decide)))
      refine x_aload_n (pc' := 68) rfl rfl rfl ?_
      refine x_get (pc' := 71) rfl rfl rfl (hM.1) rfl ?_
      refine x_iload_n (pc' := 72) rfl rfl rfl ?_
      refine x_iconst (pc' := 73) rfl rfl iconst_2 ?_
      refine x_isub (pc' := 74) rfl rfl ?_
      refine x_eqi (show nI 3 - 2 = nI 1 from by decide) ?_
      refine x_iaload (pc' := 75) rfl rfl (hM.2.1 2 (by decide)) (vp_in_nI (n := 1) (N := 2) (by decide) (by decide)) ?_
      refine x_eqi (show M.2.1 2 (nI 1).toNatClampNeg = nI (g_π (a_g A) 1) from by rw [t3]; rfl) ?_
      exact x_ireturn rfl rfl rfl (Nat.le_of_ble_eq_true rfl) (Nat.le_of_ble_eq_true rfl) (h _ _ hM hA x_fr.rf)
    · rw [if_neg (by decide), if_neg (by decide), if_neg (by decide), if_neg (by decide), if_pos (by decide)] at h
      refine x_iload_n (pc' := 1) rfl rfl rfl ?_
      refine x_i2l (pc' := 2) rfl rfl ?_
      refine x_ldc2 (pc' := 5) rfl rfl rfl ?_
      refine x_ldc2 (pc' := 8) rfl rfl rfl ?_
      refine x_cS3i (d := 1) (pc' := 11) rfl rfl sX6_63 gX6_in ⟨Nat.le_of_ble_eq_true rfl, Nat.le_of_ble_eq_true rfl⟩ (Nat.le_of_ble_eq_true rfl) ⟨Nat.le_of_ble_eq_true rfl, Nat.le_of_ble_eq_true rfl⟩ ?_
      refine r_in (lo := 11) (hi := 16) (by decide) (by decide) (fun q => absurd e16 q) (fun _ => ⟨_, rfl, ?_⟩)
      refine x_if_eq (tgt := 24) (pc' := 14) rfl rfl rfl (fun _ => ?_) (fun c11 => absurd (rfl) c11)
      refine x_iload_n (pc' := 25) rfl rfl rfl ?_
      refine x_i2l (pc' := 26) rfl rfl ?_
      refine x_lconst (pc' := 27) rfl rfl lconst_0 ?_
      refine x_ldc2 (pc' := 30) rfl rfl rfl ?_
      refine x_cS3i (d := 1) (pc' := 33) rfl rfl sX6_63 gX6_in ⟨Nat.le_of_ble_eq_true rfl, Nat.le_of_ble_eq_true rfl⟩ (Nat.le_of_ble_eq_true rfl) ⟨Nat.le_of_ble_eq_true rfl, Nat.le_of_ble_eq_true rfl⟩ ?_
      refine r_in (lo := 0) (hi := 9) (by decide) (by decide) (fun _ => ⟨_, rfl, ?_⟩) (fun q => absurd q e9)
      refine x_if_ne (tgt := 39) (pc' := 36) rfl rfl rfl (fun _ => ?_) (fun c33 => absurd c33 ((by decide)))
      refine x_iload_n (pc' := 40) rfl rfl rfl ?_
      refine x_iconst (pc' := 41) rfl rfl iconst_4 ?_
      refine x_icmp_ge (tgt := 76) (pc' := 44) rfl rfl rfl (fun _ => ?_) (fun c41 => absurd ((by decide)) c41)
      refine x_iload_n (pc' := 77) rfl rfl rfl ?_
      refine x_iconst (pc' := 78) rfl rfl iconst_4 ?_
      refine x_icmp_ne (tgt := 88) (pc' := 81) rfl rfl rfl (fun c78 => absurd ((by decide)) c78) (fun _ => ?_)
      refine x_aload_n (pc' := 82) rfl rfl rfl ?_
      refine x_get (pc' := 85) rfl rfl rfl (hM.1) rfl ?_
      refine x_eqi t7 ?_
      refine x_goto (tgt := 143) rfl rfl ?_
      exact x_ireturn rfl rfl rfl (Nat.le_of_ble_eq_true rfl) (Nat.le_of_ble_eq_true rfl) (h _ _ hM hA x_fr.rf)
    · rw [if_neg (by decide), if_neg (by decide), if_neg (by decide), if_neg (by decide), if_neg (by decide), if_pos (by decide)] at h
      refine x_iload_n (pc' := 1) rfl rfl rfl ?_
      refine x_i2l (pc' := 2) rfl rfl ?_
      refine x_ldc2 (pc' := 5) rfl rfl rfl ?_
      refine x_ldc2 (pc' := 8) rfl rfl rfl ?_
      refine x_cS3i (d := 1) (pc' := 11) rfl rfl sX6_63 gX6_in ⟨Nat.le_of_ble_eq_true rfl, Nat.le_of_ble_eq_true rfl⟩ (Nat.le_of_ble_eq_true rfl) ⟨Nat.le_of_ble_eq_true rfl, Nat.le_of_ble_eq_true rfl⟩ ?_
      refine r_in (lo := 11) (hi := 16) (by decide) (by decide) (fun q => absurd e16 q) (fun _ => ⟨_, rfl, ?_⟩)
      refine x_if_eq (tgt := 24) (pc' := 14) rfl rfl rfl (fun _ => ?_) (fun c11 => absurd (rfl) c11)
      refine x_iload_n (pc' := 25) rfl rfl rfl ?_
      refine x_i2l (pc' := 26) rfl rfl ?_
      refine x_lconst (pc' := 27) rfl rfl lconst_0 ?_
      refine x_ldc2 (pc' := 30) rfl rfl rfl ?_
      refine x_cS3i (d := 1) (pc' := 33) rfl rfl sX6_63 gX6_in ⟨Nat.le_of_ble_eq_true rfl, Nat.le_of_ble_eq_true rfl⟩ (Nat.le_of_ble_eq_true rfl) ⟨Nat.le_of_ble_eq_true rfl, Nat.le_of_ble_eq_true rfl⟩ ?_
      refine r_in (lo := 0) (hi := 9) (by decide) (by decide) (fun _ => ⟨_, rfl, ?_⟩) (fun q => absurd q e9)
      refine x_if_ne (tgt := 39) (pc' := 36) rfl rfl rfl (fun _ => ?_) (fun c33 => absurd c33 ((by decide)))
      refine x_iload_n (pc' := 40) rfl rfl rfl ?_
      refine x_iconst (pc' := 41) rfl rfl iconst_4 ?_
      refine x_icmp_ge (tgt := 76) (pc' := 44) rfl rfl rfl (fun _ => ?_) (fun c41 => absurd ((by decide)) c41)
      refine x_iload_n (pc' := 77) rfl rfl rfl ?_
      refine x_iconst (pc' := 78) rfl rfl iconst_4 ?_
      refine x_icmp_ne (tgt := 88) (pc' := 81) rfl rfl rfl (fun _ => ?_) (fun c78 => absurd c78 ((by decide)))
      refine x_iload_n (pc' := 89) rfl rfl rfl ?_
      refine x_iconst (pc' := 90) rfl rfl iconst_5 ?_
      refine x_icmp_ne (tgt := 100) (pc' := 93) rfl rfl rfl (fun c90 => absurd ((by decide)) c90) (fun _ => ?_)
      refine x_aload_n (pc' := 94) rfl rfl rfl ?_
      refine x_get (pc' := 97) rfl rfl rfl (hM.1) rfl ?_
      refine x_eqi b2 ?_
      refine x_goto (tgt := 143) rfl rfl ?_
      exact x_ireturn rfl rfl rfl (Nat.le_of_ble_eq_true rfl) (Nat.le_of_ble_eq_true rfl) (h _ _ hM hA x_fr.rf)
    · rw [if_neg (by decide), if_neg (by decide), if_neg (by decide), if_neg (by decide), if_neg (by decide), if_neg (by decide), if_pos (by decide)] at h
      refine x_iload_n (pc' := 1) rfl rfl rfl ?_
      refine x_i2l (pc' := 2) rfl rfl ?_
      refine x_ldc2 (pc' := 5) rfl rfl rfl ?_
      refine x_ldc2 (pc' := 8) rfl rfl rfl ?_
      refine x_cS3i (d := 1) (pc' := 11) rfl rfl sX6_63 gX6_in ⟨Nat.le_of_ble_eq_true rfl, Nat.le_of_ble_eq_true rfl⟩ (Nat.le_of_ble_eq_true rfl) ⟨Nat.le_of_ble_eq_true rfl, Nat.le_of_ble_eq_true rfl⟩ ?_
      refine r_in (lo := 11) (hi := 16) (by decide) (by decide) (fun q => absurd e16 q) (fun _ => ⟨_, rfl, ?_⟩)
      refine x_if_eq (tgt := 24) (pc' := 14) rfl rfl rfl (fun _ => ?_) (fun c11 => absurd (rfl) c11)
      refine x_iload_n (pc' := 25) rfl rfl rfl ?_
      refine x_i2l (pc' := 26) rfl rfl ?_
      refine x_lconst (pc' := 27) rfl rfl lconst_0 ?_
      refine x_ldc2 (pc' := 30) rfl rfl rfl ?_
      refine x_cS3i (d := 1) (pc' := 33) rfl rfl sX6_63 gX6_in ⟨Nat.le_of_ble_eq_true rfl, Nat.le_of_ble_eq_true rfl⟩ (Nat.le_of_ble_eq_true rfl) ⟨Nat.le_of_ble_eq_true rfl, Nat.le_of_ble_eq_true rfl⟩ ?_
      refine r_in (lo := 0) (hi := 9) (by decide) (by decide) (fun _ => ⟨_, rfl, ?_⟩) (fun q => absurd q e9)
      refine x_if_ne (tgt := 39) (pc' := 36) rfl rfl rfl (fun _ => ?_) (fun c33 => absurd c33 ((by decide)))
      refine x_iload_n (pc' := 40) rfl rfl rfl ?_
      refine x_iconst (pc' := 41) rfl rfl iconst_4 ?_
      refine x_icmp_ge (tgt := 76) (pc' := 44) rfl rfl rfl (fun _ => ?_) (fun c41 => absurd ((by decide)) c41)
      refine x_iload_n (pc' := 77) rfl rfl rfl ?_
      refine x_iconst (pc' := 78) rfl rfl iconst_4 ?_
      refine x_icmp_ne (tgt := 88) (pc' := 81) rfl rfl rfl (fun _ => ?_) (fun c78 => absurd c78 ((by decide)))
      refine x_iload_n (pc' := 89) rfl rfl rfl ?_
      refine x_iconst (pc' := 90) rfl rfl iconst_5 ?_
      refine x_icmp_ne (tgt := 100) (pc' := 93) rfl rfl rfl (fun _ => ?_) (fun c90 => absurd c90 ((by decide)))
      refine x_iload_n (pc' := 101) rfl rfl rfl ?_
      refine x_bipush (pc' := 103) rfl rfl bipush_6 ?_
      refine x_icmp_ne (tgt := 113) (pc' := 106) rfl rfl rfl (fun c103 => absurd ((by decide)) c103) (fun _ => ?_)
      refine x_aload_n (pc' := 107) rfl rfl rfl ?_
      refine x_get (pc' := 110) rfl rfl rfl (hM.1) rfl ?_
      refine x_eqi t5 ?_
      refine x_goto (tgt := 143) rfl rfl ?_
      exact x_ireturn rfl rfl rfl (Nat.le_of_ble_eq_true rfl) (Nat.le_of_ble_eq_true rfl) (h _ _ hM hA x_fr.rf)
    · rw [if_neg (by decide), if_neg (by decide), if_neg (by decide), if_neg (by decide), if_neg (by decide), if_neg (by decide), if_neg (by decide), if_pos (by decide)] at h
      refine x_iload_n (pc' := 1) rfl rfl rfl ?_
      refine x_i2l (pc' := 2) rfl rfl ?_
      refine x_ldc2 (pc' := 5) rfl rfl rfl ?_
      refine x_ldc2 (pc' := 8) rfl rfl rfl ?_
      refine x_cS3i (d := 1) (pc' := 11) rfl rfl sX6_63 gX6_in ⟨Nat.le_of_ble_eq_true rfl, Nat.le_of_ble_eq_true rfl⟩ (Nat.le_of_ble_eq_true rfl) ⟨Nat.le_of_ble_eq_true rfl, Nat.le_of_ble_eq_true rfl⟩ ?_
      refine r_in (lo := 11) (hi := 16) (by decide) (by decide) (fun q => absurd e16 q) (fun _ => ⟨_, rfl, ?_⟩)
      refine x_if_eq (tgt := 24) (pc' := 14) rfl rfl rfl (fun _ => ?_) (fun c11 => absurd (rfl) c11)
      refine x_iload_n (pc' := 25) rfl rfl rfl ?_
      refine x_i2l (pc' := 26) rfl rfl ?_
      refine x_lconst (pc' := 27) rfl rfl lconst_0 ?_
      refine x_ldc2 (pc' := 30) rfl rfl rfl ?_
      refine x_cS3i (d := 1) (pc' := 33) rfl rfl sX6_63 gX6_in ⟨Nat.le_of_ble_eq_true rfl, Nat.le_of_ble_eq_true rfl⟩ (Nat.le_of_ble_eq_true rfl) ⟨Nat.le_of_ble_eq_true rfl, Nat.le_of_ble_eq_true rfl⟩ ?_
      refine r_in (lo := 0) (hi := 9) (by decide) (by decide) (fun _ => ⟨_, rfl, ?_⟩) (fun q => absurd q e9)
      refine x_if_ne (tgt := 39) (pc' := 36) rfl rfl rfl (fun _ => ?_) (fun c33 => absurd c33 ((by decide)))
      refine x_iload_n (pc' := 40) rfl rfl rfl ?_
      refine x_iconst (pc' := 41) rfl rfl iconst_4 ?_
      refine x_icmp_ge (tgt := 76) (pc' := 44) rfl rfl rfl (fun _ => ?_) (fun c41 => absurd ((by decide)) c41)
      refine x_iload_n (pc' := 77) rfl rfl rfl ?_
      refine x_iconst (pc' := 78) rfl rfl iconst_4 ?_
      refine x_icmp_ne (tgt := 88) (pc' := 81) rfl rfl rfl (fun _ => ?_) (fun c78 => absurd c78 ((by decide)))
      refine x_iload_n (pc' := 89) rfl rfl rfl ?_
      refine x_iconst (pc' := 90) rfl rfl iconst_5 ?_
      refine x_icmp_ne (tgt := 100) (pc' := 93) rfl rfl rfl (fun _ => ?_) (fun c90 => absurd c90 ((by decide)))
      refine x_iload_n (pc' := 101) rfl rfl rfl ?_
      refine x_bipush (pc' := 103) rfl rfl bipush_6 ?_
      refine x_icmp_ne (tgt := 113) (pc' := 106) rfl rfl rfl (fun _ => ?_) (fun c103 => absurd c103 ((by decide)))
      refine x_iload_n (pc' := 114) rfl rfl rfl ?_
      refine x_bipush (pc' := 116) rfl rfl bipush_7 ?_
      refine x_icmp_ne (tgt := 126) (pc' := 119) rfl rfl rfl (fun c116 => absurd ((by decide)) c116) (fun _ => ?_)
      refine x_aload_n (pc' := 120) rfl rfl rfl ?_
      refine x_get (pc' := 123) rfl rfl rfl (hM.1) rfl ?_
      refine x_eqi t6 ?_
      refine x_goto (tgt := 143) rfl rfl ?_
      exact x_ireturn rfl rfl rfl (Nat.le_of_ble_eq_true rfl) (Nat.le_of_ble_eq_true rfl) (h _ _ hM hA x_fr.rf)
    · rw [if_neg (by decide), if_neg (by decide), if_neg (by decide), if_neg (by decide), if_neg (by decide), if_neg (by decide), if_neg (by decide), if_neg (by decide), if_pos (by decide)] at h
      refine x_iload_n (pc' := 1) rfl rfl rfl ?_
      refine x_i2l (pc' := 2) rfl rfl ?_
      refine x_ldc2 (pc' := 5) rfl rfl rfl ?_
      refine x_ldc2 (pc' := 8) rfl rfl rfl ?_
      refine x_cS3i (d := 1) (pc' := 11) rfl rfl sX6_63 gX6_in ⟨Nat.le_of_ble_eq_true rfl, Nat.le_of_ble_eq_true rfl⟩ (Nat.le_of_ble_eq_true rfl) ⟨Nat.le_of_ble_eq_true rfl, Nat.le_of_ble_eq_true rfl⟩ ?_
      refine r_in (lo := 11) (hi := 16) (by decide) (by decide) (fun q => absurd e16 q) (fun _ => ⟨_, rfl, ?_⟩)
      refine x_if_eq (tgt := 24) (pc' := 14) rfl rfl rfl (fun _ => ?_) (fun c11 => absurd (rfl) c11)
      refine x_iload_n (pc' := 25) rfl rfl rfl ?_
      refine x_i2l (pc' := 26) rfl rfl ?_
      refine x_lconst (pc' := 27) rfl rfl lconst_0 ?_
      refine x_ldc2 (pc' := 30) rfl rfl rfl ?_
      refine x_cS3i (d := 1) (pc' := 33) rfl rfl sX6_63 gX6_in ⟨Nat.le_of_ble_eq_true rfl, Nat.le_of_ble_eq_true rfl⟩ (Nat.le_of_ble_eq_true rfl) ⟨Nat.le_of_ble_eq_true rfl, Nat.le_of_ble_eq_true rfl⟩ ?_
      refine r_in (lo := 0) (hi := 9) (by decide) (by decide) (fun _ => ⟨_, rfl, ?_⟩) (fun q => absurd q e9)
      refine x_if_ne (tgt := 39) (pc' := 36) rfl rfl rfl (fun _ => ?_) (fun c33 => absurd c33 ((by decide)))
      refine x_iload_n (pc' := 40) rfl rfl rfl ?_
      refine x_iconst (pc' := 41) rfl rfl iconst_4 ?_
      refine x_icmp_ge (tgt := 76) (pc' := 44) rfl rfl rfl (fun _ => ?_) (fun c41 => absurd ((by decide)) c41)
      refine x_iload_n (pc' := 77) rfl rfl rfl ?_
      refine x_iconst (pc' := 78) rfl rfl iconst_4 ?_
      refine x_icmp_ne (tgt := 88) (pc' := 81) rfl rfl rfl (fun _ => ?_) (fun c78 => absurd c78 ((by decide)))
      refine x_iload_n (pc' := 89) rfl rfl rfl ?_
      refine x_iconst (pc' := 90) rfl rfl iconst_5 ?_
      refine x_icmp_ne (tgt := 100) (pc' := 93) rfl rfl rfl (fun _ => ?_) (fun c90 => absurd c90 ((by decide)))
      refine x_iload_n (pc' := 101) rfl rfl rfl ?_
      refine x_bipush (pc' := 103) rfl rfl bipush_6 ?_
      refine x_icmp_ne (tgt := 113) (pc' := 106) rfl rfl rfl (fun _ => ?_) (fun c103 => absurd c103 ((by decide)))
      refine x_iload_n (pc' := 114) rfl rfl rfl ?_
      refine x_bipush (pc' := 116) rfl rfl bipush_7 ?_
      refine x_icmp_ne (tgt := 126) (pc' := 119) rfl rfl rfl (fun _ => ?_) (fun c116 => absurd c116 ((by decide)))
      refine x_iload_n (pc' := 127) rfl rfl rfl ?_
      refine x_bipush (pc' := 129) rfl rfl bipush_8 ?_
      refine x_icmp_ne (tgt := 139) (pc' := 132) rfl rfl rfl (fun c129 => absurd ((by decide)) c129) (fun _ => ?_)
      refine x_aload_n (pc' := 133) rfl rfl rfl ?_
      refine x_get (pc' := 136) rfl rfl rfl (hM.1) rfl ?_
      refine x_eqi b7 ?_
      refine x_goto (tgt := 143) rfl rfl ?_
      exact x_ireturn rfl rfl rfl (Nat.le_of_ble_eq_true rfl) (Nat.le_of_ble_eq_true rfl) (h _ _ hM hA x_fr.rf)
    · rw [if_neg (by decide), if_neg (by decide), if_neg (by decide), if_neg (by decide), if_neg (by decide), if_neg (by decide), if_neg (by decide), if_neg (by decide), if_neg (by decide), if_pos (by decide)] at h
      refine x_iload_n (pc' := 1) rfl rfl rfl ?_
      refine x_i2l (pc' := 2) rfl rfl ?_
      refine x_ldc2 (pc' := 5) rfl rfl rfl ?_
      refine x_ldc2 (pc' := 8) rfl rfl rfl ?_
      refine x_cS3i (d := 1) (pc' := 11) rfl rfl sX6_63 gX6_in ⟨Nat.le_of_ble_eq_true rfl, Nat.le_of_ble_eq_true rfl⟩ (Nat.le_of_ble_eq_true rfl) ⟨Nat.le_of_ble_eq_true rfl, Nat.le_of_ble_eq_true rfl⟩ ?_
      refine r_in (lo := 11) (hi := 16) (by decide) (by decide) (fun q => absurd e16 q) (fun _ => ⟨_, rfl, ?_⟩)
      refine x_if_eq (tgt := 24) (pc' := 14) rfl rfl rfl (fun _ => ?_) (fun c11 => absurd (rfl) c11)
      refine x_iload_n (pc' := 25) rfl rfl rfl ?_
      refine x_i2l (pc' := 26) rfl rfl ?_
      refine x_lconst (pc' := 27) rfl rfl lconst_0 ?_
      refine x_ldc2 (pc' := 30) rfl rfl rfl ?_
      refine x_cS3i (d := 1) (pc' := 33) rfl rfl sX6_63 gX6_in ⟨Nat.le_of_ble_eq_true rfl, Nat.le_of_ble_eq_true rfl⟩ (Nat.le_of_ble_eq_true rfl) ⟨Nat.le_of_ble_eq_true rfl, Nat.le_of_ble_eq_true rfl⟩ ?_
      refine r_in (lo := 0) (hi := 9) (by decide) (by decide) (fun _ => ⟨_, rfl, ?_⟩) (fun q => absurd q e9)
      refine x_if_ne (tgt := 39) (pc' := 36) rfl rfl rfl (fun _ => ?_) (fun c33 => absurd c33 ((by decide)))
      refine x_iload_n (pc' := 40) rfl rfl rfl ?_
      refine x_iconst (pc' := 41) rfl rfl iconst_4 ?_
      refine x_icmp_ge (tgt := 76) (pc' := 44) rfl rfl rfl (fun _ => ?_) (fun c41 => absurd ((by decide)) c41)
      refine x_iload_n (pc' := 77) rfl rfl rfl ?_
      refine x_iconst (pc' := 78) rfl rfl iconst_4 ?_
      refine x_icmp_ne (tgt := 88) (pc' := 81) rfl rfl rfl (fun _ => ?_) (fun c78 => absurd c78 ((by decide)))
      refine x_iload_n (pc' := 89) rfl rfl rfl ?_
      refine x_iconst (pc' := 90) rfl rfl iconst_5 ?_
      refine x_icmp_ne (tgt := 100) (pc' := 93) rfl rfl rfl (fun _ => ?_) (fun c90 => absurd c90 ((by decide)))
      refine x_iload_n (pc' := 101) rfl rfl rfl ?_
      refine x_bipush (pc' := 103) rfl rfl bipush_6 ?_
      refine x_icmp_ne (tgt := 113) (pc' := 106) rfl rfl rfl (fun _ => ?_) (fun c103 => absurd c103 ((by decide)))
      refine x_iload_n (pc' := 114) rfl rfl rfl ?_
      refine x_bipush (pc' := 116) rfl rfl bipush_7 ?_
      refine x_icmp_ne (tgt := 126) (pc' := 119) rfl rfl rfl (fun _ => ?_) (fun c116 => absurd c116 ((by decide)))
      refine x_iload_n (pc' := 127) rfl rfl rfl ?_
      refine x_bipush (pc' := 129) rfl rfl bipush_8 ?_
      refine x_icmp_ne (tgt := 139) (pc' := 132) rfl rfl rfl (fun _ => ?_) (fun c129 => absurd c129 ((by decide)))
      refine x_aload_n (pc' := 140) rfl rfl rfl ?_
      refine x_get (pc' := 143) rfl rfl rfl (hM.1) rfl ?_
      refine x_eqi b5 ?_
      exact x_ireturn rfl rfl rfl (Nat.le_of_ble_eq_true rfl) (Nat.le_of_ble_eq_true rfl) (h _ _ hM hA x_fr.rf)
  · obtain ⟨k, hk, rfl⟩ := nI_of2 (n := 16) (M := 16) rfl (fun q => e16 (Or.inl (Int32.lt_trans q (by decide)))) (Int32.not_lt.mp (fun q => e16 (Or.inr q)))
    have hk11 : 11 ≤ k := by
      rcases Nat.lt_or_ge k 11 with q | q
      · exact absurd (Or.inl (nI_lt (a := k) (b := 11) q (by decide))) e16
      · exact q
    have hne : ∀ j : Nat, j < 11 → ¬ nI k = nI j := fun j hj q => by
      have := (nI_eq (by omega) (by omega)).mp q
      omega
    rw [if_neg (show ¬ nI k = 0 from hne 0 (by decide)), if_neg (show ¬ nI k = 1 from hne 1 (by decide)), if_neg (show ¬ nI k = 2 from hne 2 (by decide)), if_neg (show ¬ nI k = 3 from hne 3 (by decide)), if_neg (show ¬ nI k = 4 from hne 4 (by decide)), if_neg (show ¬ nI k = 5 from hne 5 (by decide)), if_neg (show ¬ nI k = 6 from hne 6 (by decide)), if_neg (show ¬ nI k = 7 from hne 7 (by decide)), if_neg (show ¬ nI k = 8 from hne 8 (by decide)), if_neg (show ¬ nI k = 9 from hne 9 (by decide)), if_pos ⟨fun q => e16 (Or.inl q), fun q => e16 (Or.inr q)⟩] at h
    refine x_iload_n (pc' := 1) rfl rfl rfl ?_
    refine x_i2l (pc' := 2) rfl rfl ?_
    refine x_ldc2 (pc' := 5) rfl rfl rfl ?_
    refine x_ldc2 (pc' := 8) rfl rfl rfl ?_
    refine x_cS3i (d := 1) (pc' := 11) rfl rfl sX6_63 gX6_in ⟨Nat.le_of_ble_eq_true rfl, Nat.le_of_ble_eq_true rfl⟩ (Nat.le_of_ble_eq_true rfl) ⟨Nat.le_of_ble_eq_true rfl, Nat.le_of_ble_eq_true rfl⟩ ?_
    refine r_in (lo := 11) (hi := 16) (by decide) (by decide) (fun _ => ⟨_, rfl, ?_⟩) (fun q => absurd q e16)
    refine x_if_eq (tgt := 24) (pc' := 14) rfl rfl rfl (fun c11 => absurd c11 ((by decide))) (fun _ => ?_)
    refine x_aload_n (pc' := 15) rfl rfl rfl ?_
    refine x_get (pc' := 18) rfl rfl rfl (hM.1) rfl ?_
    refine x_iload_n (pc' := 19) rfl rfl rfl ?_
    refine x_bipush (pc' := 21) rfl rfl bipush_11 ?_
    refine x_isub (pc' := 22) rfl rfl ?_
    refine x_eqi (show nI k - 11 = nI (k - 11) from pk_sub (a := k) (b := 11) hk11) ?_
    refine x_iaload (pc' := 23) rfl rfl (hM.2.1 3 (by decide)) (vp_in_nI (n := k - 11) (N := 6) (by omega) (by decide)) ?_
    refine x_eqi (show M.2.1 3 (nI (k - 11)).toNatClampNeg = a_no A ((nI k).toNatClampNeg - 10) from by rw [nI_clamp (by omega), nI_clamp (by omega), b9]; show a_no A (k - 11 + 1) = _; rw [show k - 11 + 1 = k - 10 by omega]) ?_
    exact x_ireturn rfl rfl rfl (Nat.le_of_ble_eq_true rfl) (Nat.le_of_ble_eq_true rfl) (h _ _ hM hA x_fr.rf)
end RD
