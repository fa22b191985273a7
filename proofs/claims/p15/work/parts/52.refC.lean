/-! The reference: the longest sowing, the picture, counts, lots. -/
theorem q_run_mono {κ : Nat → Nat} {n fu ln : Nat} : ∀ (k : Nat) (w : q_W), w.2.2.2.2.1 ≤ (q_run κ n fu ln k w).2.2.2.2.1
  | 0, w => Nat.le_refl _
  | k + 1, w => by
    by_cases hg : 0 < w.2.2.1 ∧ w.2.2.2.1 < n
    · rw [q_run_go hg]
      refine Nat.le_trans ?_ (q_run_mono k _)
      unfold q_st
      split
      · exact Nat.le_succ _
      · exact Nat.le_refl _
    · rw [q_run_stop hg]
      exact Nat.le_refl _
def q_it (n ln : Nat) : Nat → Nat → Nat
  | 0, p => p
  | j + 1, p => q_it n ln j (q_nx n ln p)
theorem q_it_9 : ∀ n, n < 10 → ∀ ln, ln < 2 → ∀ b, b < 10 → b < n → q_it n ln n b = b := by decide +kernel
theorem q_run_pos {κ : Nat → Nat} {n fu ln b : Nat} : ∀ (j K : Nat) (w : q_W), 0 < w.2.2.1 → w.2.2.2.1 + j = n → 0 < j → j ≤ K → q_it n ln j w.2.1 = b → q_tk κ w.1 fu b → 0 < (q_run κ n fu ln K w).2.2.2.2.1
  | 0, _, _, _, _, hj, _, _, _ => absurd hj (Nat.lt_irrefl 0)
  | j + 1, K, w, h0, hp, _, hK, hit, ht => by
    obtain ⟨K', rfl⟩ : ∃ K', K = K' + 1 := ⟨K - 1, by omega⟩
    rw [q_run_go ⟨h0, by omega⟩]
    by_cases hd : q_tk κ w.1 fu (q_nx n ln w.2.1)
    · refine Nat.lt_of_lt_of_le ?_ (q_run_mono K' _)
      unfold q_st
      rw [if_pos hd]
      exact Nat.succ_pos _
    · have hst : q_st κ n fu ln w = (w.1, q_nx n ln w.2.1, w.2.2.1, w.2.2.2.1 + 1, w.2.2.2.2.1, w.2.2.2.2.2) := by unfold q_st; rw [if_neg hd]
      rw [hst]
      by_cases hj : j = 0
      · subst hj
        exact absurd (show q_tk κ w.1 fu (q_nx n ln w.2.1) from by rw [show q_nx n ln w.2.1 = b from hit]; exact ht) hd
      · exact q_run_pos j K' _ h0 (by show w.2.2.2.1 + 1 + j = n; omega) (by omega) (by omega) hit ht
theorem q_hand_pos {κ β : Nat → Nat} {n fu ln b : Nat} {l : Option Nat} (hn : n ≤ 9) (hln : ln ≤ 1) (hb : b < n) (hf : 1 ≤ fu) (h0 : 0 < β b) : 0 < (q_hand κ n fu ln β b l).2.1 := by
  unfold q_hand
  refine q_run_pos (b := b) n 1000 _ h0 (Nat.zero_add n) (by omega) (by omega) (q_it_9 n (by omega) ln (by omega) b (by omega) hb) ?_
  show q_tk κ (q_up β b 0) fu b
  unfold q_tk
  rw [q_up_s]
  exact ⟨by decide, fun _ => hf⟩
theorem q_hands_mono {κ : Nat → Nat} {n fu ln : Nat} : ∀ (k : Nat) (β : Nat → Nat) (b hs s : Nat) (l : Option Nat), s ≤ (q_hands κ n fu ln k β b hs s l).2.2.1
  | 0, β, b, hs, s, l => Nat.le_refl _
  | k + 1, β, b, hs, s, l => by
    rw [q_hands]
    split
    · exact Nat.le_trans (Nat.le_add_right _ _) (q_hands_mono k _ _ _ _ _)
    · exact Nat.le_add_right _ _
theorem g_v_pos {C : Nat} {g : q_G} {b : Nat} (h : g_ok C g) (hc : g_can g b) : 0 < (g_v g b).2.2.1 := by
  unfold g_v q_mv
  rw [if_pos ⟨hc.1, hc.2.2⟩]
  have h1 := q_hand_pos (κ := g_κ g) (l := none) h.1 h.2.2.1 hc.2.1 h.2.1.1 hc.2.2
  rw [q_hands]
  split
  · exact Nat.lt_of_lt_of_le (by show 0 < 0 + _; omega) (q_hands_mono 59 _ _ _ _ _)
  · show 0 < 0 + _
    omega
theorem q_lng_0 {C : Nat} {g : q_G} (h : g_ok C g) : ∀ i, i ≤ 9 → ((q_lng g i).1 = -9 ∧ (q_lng g i).2 = 0) ∨ (¬ (q_lng g i).1 = -9)
  | 0, _ => Or.inl ⟨rfl, rfl⟩
  | i + 1, hi => by
    unfold q_lng
    split
    · refine Or.inr (fun q => ?_)
      have h2 : ¬ nI i < 0 := nI_pos (by omega)
      rw [show nI i = -9 from q] at h2
      exact h2 (by decide)
    · exact q_lng_0 h i (by omega)
/-- an array copied as far as k -/
def x_cpk (k : Nat) (s d : Nat → Int32) : Nat → Int32 := fun j => if j < k then s j else d j
theorem x_cpk_0 (s d : Nat → Int32) : x_cpk 0 s d = d := by
  funext j
  exact if_neg (Nat.not_lt_zero j)
theorem x_cpk_s (k : Nat) (s d : Nat → Int32) : upd (x_cpk k s d) k (s k) = x_cpk (k + 1) s d := by
  funext j
  unfold upd x_cpk
  by_cases h : j = k
  · rw [if_pos h, if_pos (by omega), h]
  · rw [if_neg h]
    by_cases h2 : j < k
    · rw [if_pos h2, if_pos (by omega)]
    · rw [if_neg h2, if_neg (by omega)]
theorem x_ua_ua (X : Nat → Nat → Int32) (j : Nat) (g h : Nat → Int32) : x_ua (x_ua X j g) j h = x_ua X j h := by
  funext i
  unfold x_ua
  split <;> rfl
theorem x_ua_id (X : Nat → Nat → Int32) (j : Nat) : x_ua X j (X j) = X := by
  funext i
  unfold x_ua
  split
  · rename_i h
    rw [h]
  · rfl
section RC
variable {E : x_E} {z : Nat} {f : x_H} {S : x_S} {M : x_N} {A : q_A} {post : Option Value → x_H → Prop} {a b : Int32} {g : q_G} {C : Nat}
theorem r_longestL (ho : a_ok A) (f0 : x_H) (M0 : x_N) (hA : r_is M0 A) (h : r_ends z f0 post (A, (q_lng (a_g A) (g_n (a_g A))).1)) : ∀ (k i : Nat) (f : x_H) (M : x_N), i + k = g_n (a_g A) → x_Mdl z f M → m_is M (a_g A) → r_sc M0 M → m_fr M 0 (a_g A) → x_fr (fun q => q < 59) f0 f → X E (x_rm 9 0 0) mX6_longest (x_QM E z 0 0 post) 12 [(3, .int (nI i)), (2, .int (nI (q_lng (a_g A) i).2)), (1, .int (q_lng (a_g A) i).1), (0, .ref 59)] [] z f 0 0 := by
  have hn9 := ho.1.1
  intro k
  induction k with
  | zero =>
    intro i f M hi hM hm hs hfr hF
    have hi2 : i = g_n (a_g A) := by omega
    subst hi2
    refine x_iload_n (pc' := 13) rfl rfl rfl ?_
    refine x_aload_n (pc' := 14) rfl rfl rfl ?_
    refine x_get (pc' := 17) rfl rfl rfl (hM.1) rfl ?_
    refine x_eqi hm.2.2.2.1 ?_
    refine x_icmp_ge (tgt := 65) (pc' := 20) rfl rfl rfl (fun _ => ?_) (fun c17 => absurd ((Int32.le_refl _)) c17)
    refine x_iload_n (pc' := 66) rfl rfl rfl ?_
    exact x_ireturn rfl rfl rfl (Nat.le_of_ble_eq_true rfl) (Nat.le_of_ble_eq_true rfl) (h _ _ hM (hA.sc hs hm) hF)
  | succ k ih =>
    intro i f M hi hM hm hs hfr hF
    have hA1 : r_is M A := hA.sc hs hm
    have hle := q_lng_le ho.1 (by decide) i
    have eq1 : q_lng (a_g A) (i + 1) = if g_can (a_g A) i ∧ (q_lng (a_g A) i).2 < (g_v (a_g A) i).2.2.1 then (nI i, (g_v (a_g A) i).2.2.1) else q_lng (a_g A) i := rfl
    refine x_iload_n (pc' := 13) rfl rfl rfl ?_
    refine x_aload_n (pc' := 14) rfl rfl rfl ?_
    refine x_get (pc' := 17) rfl rfl rfl (hM.1) rfl ?_
    refine x_eqi hm.2.2.2.1 ?_
    refine x_icmp_ge (tgt := 65) (pc' := 20) rfl rfl rfl (fun c17 => absurd c17 ((nI_ge (by omega) (by omega)))) (fun _ => ?_)
    refine x_aload_n (pc' := 21) rfl rfl rfl ?_
    refine x_iload_n (pc' := 22) rfl rfl rfl ?_
    refine x_cV1i (d := 3) (pc' := 25) rfl rfl sX6_135 gX6_canMove (hM.1) ⟨Nat.le_of_ble_eq_true rfl, Nat.le_of_ble_eq_true rfl⟩ (Nat.le_of_ble_eq_true rfl) ⟨Nat.le_of_ble_eq_true rfl, Nat.le_of_ble_eq_true rfl⟩ ?_
    refine m_can1 hM hm ho.1 (by decide) (by omega) (fun d2 => ⟨_, rfl, ?_⟩) (fun d2 => ⟨_, rfl, ?_⟩)
    · refine x_if_eq (tgt := 59) (pc' := 28) rfl rfl rfl (fun c25 => absurd c25 ((by decide))) (fun _ => ?_)
      refine x_aload_n (pc' := 29) rfl rfl rfl ?_
      refine x_iload_n (pc' := 30) rfl rfl rfl ?_
      refine x_cV1v (d := 4) (pc' := 33) rfl rfl sX6_141 gX6_moves (hM.1) ⟨Nat.le_of_ble_eq_true rfl, Nat.le_of_ble_eq_true rfl⟩ (Nat.le_of_ble_eq_true rfl) ⟨Nat.le_of_ble_eq_true rfl, Nat.le_of_ble_eq_true rfl⟩ ?_
      refine m_mv hM hm ho.1 (by decide) d2 hA1.2.2.1 (fun f1 M1 hM1 g1 k1 e14 e15 e16 e17 hF1 => ⟨rfl, ?_⟩)
      refine x_aload_n (pc' := 34) rfl rfl rfl ?_
      refine x_iconst (pc' := 35) rfl rfl iconst_0 ?_
      refine x_cV1v (d := 1) (pc' := 38) rfl rfl sX6_160 gX6_lays (hM1.1) ⟨Nat.le_of_ble_eq_true rfl, Nat.le_of_ble_eq_true rfl⟩ (Nat.le_of_ble_eq_true rfl) ⟨Nat.le_of_ble_eq_true rfl, Nat.le_of_ble_eq_true rfl⟩ ?_
      refine m_lays (l := 0) (g := a_g A) (by decide) hM1 g1 (hfr.eq (k1.1 6 (by decide) (by decide))) ho.1 (g_mv_ok ho.1 (by decide) (by decide) d2.2.1) (fun f3 M3 hM3 g3 e1 e2 e3 hF3 => ⟨rfl, ?_⟩)
      have hs3 : r_sc M0 M3 := (hs.trans k1.sc).trans (m_ly.sc e1 e2)
      have hF2 := (hF.trans hF1).trans hF3
      have hfr3 : m_fr M3 0 (a_g A) := hfr.eq ((e2 6 (by decide) (by decide)).trans (k1.1 6 (by decide) (by decide)))
      have hpos := g_v_pos ho.1 d2
      have hsle := g_v_s ho.1 (by decide) d2.2.1
      have e16' : M3.1 16 = nI (g_v (a_g A) i).2.2.1 := (e1 16 (by decide)).trans e16
      have h9 := ih (i + 1) f3 M3 (by omega) hM3 g3 hs3 hfr3 hF2
      refine x_iload_n (pc' := 39) rfl rfl rfl ?_
      refine x_bipush (pc' := 41) rfl rfl bipush_m9 ?_
      by_cases d3 : (q_lng (a_g A) i).2 < (g_v (a_g A) i).2.2.1
      · rw [if_pos ⟨d2, d3⟩] at eq1
        rw [eq1] at h9
        refine x_icmp_eq (tgt := 52) (pc' := 44) rfl rfl rfl (fun q => ?_) (fun q => ?_)
        · refine x_iload_n (pc' := 53) rfl rfl rfl ?_
          refine x_istore_n (pc' := 54) (lv' := [(1, _), (3, _), (2, _), (0, _)]) rfl rfl (Nat.le_of_ble_eq_true rfl) rfl ?_
          refine x_aload_n (pc' := 55) rfl rfl rfl ?_
          refine x_get (pc' := 58) rfl rfl rfl (hM3.1) rfl ?_
          refine x_eqi e16' ?_
          refine x_istore_n (pc' := 59) (lv' := [(2, _), (1, _), (3, _), (0, _)]) rfl rfl (Nat.le_of_ble_eq_true rfl) rfl ?_
          refine x_iinc (pc' := 62) (lv' := [(3, _), (2, _), (1, _), (0, _)]) rfl rfl (Nat.le_of_ble_eq_true rfl) rfl (nI_1 i) rfl ?_
          refine x_goto (tgt := 12) rfl rfl ?_
          refine x_lvp [0, 1, 2, 3] rfl ?_
          exact h9
        · refine x_aload_n (pc' := 45) rfl rfl rfl ?_
          refine x_get (pc' := 48) rfl rfl rfl (hM3.1) rfl ?_
          refine x_eqi e16' ?_
          refine x_iload_n (pc' := 49) rfl rfl rfl ?_
          refine x_icmp_le (tgt := 59) (pc' := 52) rfl rfl rfl (fun c49 => absurd c49 ((nI_ge d3 (by omega)))) (fun _ => ?_)
          refine x_iload_n (pc' := 53) rfl rfl rfl ?_
          refine x_istore_n (pc' := 54) (lv' := [(1, _), (3, _), (2, _), (0, _)]) rfl rfl (Nat.le_of_ble_eq_true rfl) rfl ?_
          refine x_aload_n (pc' := 55) rfl rfl rfl ?_
          refine x_get (pc' := 58) rfl rfl rfl (hM3.1) rfl ?_
          refine x_eqi e16' ?_
          refine x_istore_n (pc' := 59) (lv' := [(2, _), (1, _), (3, _), (0, _)]) rfl rfl (Nat.le_of_ble_eq_true rfl) rfl ?_
          refine x_iinc (pc' := 62) (lv' := [(3, _), (2, _), (1, _), (0, _)]) rfl rfl (Nat.le_of_ble_eq_true rfl) rfl (nI_1 i) rfl ?_
          refine x_goto (tgt := 12) rfl rfl ?_
          refine x_lvp [0, 1, 2, 3] rfl ?_
          exact h9
      · rw [if_neg (fun q => d3 q.2)] at eq1
        rw [eq1] at h9
        refine x_icmp_eq (tgt := 52) (pc' := 44) rfl rfl rfl (fun q => ?_) (fun q => ?_)
        · exfalso
          rcases q_lng_0 ho.1 i (by omega) with h0 | h0
          · rw [h0.2] at d3
            exact d3 hpos
          · exact h0 q
        · refine x_aload_n (pc' := 45) rfl rfl rfl ?_
          refine x_get (pc' := 48) rfl rfl rfl (hM3.1) rfl ?_
          refine x_eqi e16' ?_
          refine x_iload_n (pc' := 49) rfl rfl rfl ?_
          refine x_icmp_le (tgt := 59) (pc' := 52) rfl rfl rfl (fun _ => ?_) (fun c49 => absurd ((nI_le (by omega) (by omega))) c49)
          refine x_iinc (pc' := 62) (lv' := [(3, _), (2, _), (1, _), (0, _)]) rfl rfl (Nat.le_of_ble_eq_true rfl) rfl (nI_1 i) rfl ?_
          refine x_goto (tgt := 12) rfl rfl ?_
          exact h9
    · rw [if_neg (fun q => d2 q.1)] at eq1
      refine x_if_eq (tgt := 59) (pc' := 28) rfl rfl rfl (fun _ => ?_) (fun c25 => absurd (rfl) c25)
      refine x_iinc (pc' := 62) (lv' := [(3, _), (2, _), (1, _), (0, _)]) rfl rfl (Nat.le_of_ble_eq_true rfl) rfl (nI_1 i) rfl ?_
      refine x_goto (tgt := 12) rfl rfl ?_
      have h9 := ih (i + 1) f M (by omega) hM hm hs hfr hF
      rw [eq1] at h9
      exact h9
theorem r_longest (hM : x_Mdl z f M) (hA : r_is M A) (ho : a_ok A) (h : r_ends z f post (A, (q_lng (a_g A) (g_n (a_g A))).1)) : Y E 9 mX6_longest [.ref 59] z f 0 0 post := by
  refine Y.intro gX6_longest (lv := [(0, .ref 59)]) rfl (Nat.le_of_ble_eq_true rfl) ?_
  refine x_bipush (pc' := 2) rfl rfl bipush_m9 ?_
  refine x_istore_n (pc' := 3) (lv' := [(1, _), (0, _)]) rfl rfl (Nat.le_of_ble_eq_true rfl) rfl ?_
  refine x_iconst (pc' := 4) rfl rfl iconst_0 ?_
  refine x_istore_n (pc' := 5) (lv' := [(2, _), (1, _), (0, _)]) rfl rfl (Nat.le_of_ble_eq_true rfl) rfl ?_
  refine x_aload_n (pc' := 6) rfl rfl rfl ?_
  refine x_iconst (pc' := 7) rfl rfl iconst_0 ?_
  refine x_cV1v (d := 1) (pc' := 10) rfl rfl sX6_154 gX6_keeps (hM.1) ⟨Nat.le_of_ble_eq_true rfl, Nat.le_of_ble_eq_true rfl⟩ (Nat.le_of_ble_eq_true rfl) ⟨Nat.le_of_ble_eq_true rfl, Nat.le_of_ble_eq_true rfl⟩ ?_
  refine m_keeps (l := 0) (by decide) hM hA.1 (fun f1 M1 hM1 g1 k1 fr1 hF1 => ⟨rfl, ?_⟩)
  refine x_iconst (pc' := 11) rfl rfl iconst_0 ?_
  refine x_istore_n (pc' := 12) (lv' := [(3, _), (2, _), (1, _), (0, _)]) rfl rfl (Nat.le_of_ble_eq_true rfl) rfl ?_
  exact r_longestL ho f M hA h (g_n (a_g A)) 0 f1 M1 (by omega) hM1 g1 k1.sc fr1 hF1
-- the picture
theorem r_imgL1 (f0 : x_H) (M0 : x_N) (K : ∀ f' : x_H, x_Mdl z f' (M0.1, x_ua M0.2.1 9 (x_cpk 12 (M0.2.1 6) (M0.2.1 9)), M0.2.2) → x_fr (fun q => q < 59) f0 f' → X E (x_rm 9 0 0) mX6_image (x_QM E z 0 0 post) 31 [(1, .int (nI 12)), (0, .ref 59)] [] z f' 0 0) : ∀ (k i : Nat) (f : x_H), i + k = 12 → x_Mdl z f (M0.1, x_ua M0.2.1 9 (x_cpk i (M0.2.1 6) (M0.2.1 9)), M0.2.2) → x_fr (fun q => q < 59) f0 f → X E (x_rm 9 0 0) mX6_image (x_QM E z 0 0 post) 7 [(1, .int (nI i)), (0, .ref 59)] [] z f 0 0 := by
  intro k
  induction k with
  | zero =>
    intro i f hi hM hF
    have hi2 : i = 12 := by omega
    subst hi2
    refine x_iload_n (pc' := 8) rfl rfl rfl ?_
    refine x_bipush (pc' := 10) rfl rfl bipush_12 ?_
    refine x_icmp_ge (tgt := 31) (pc' := 13) rfl rfl rfl (fun _ => ?_) (fun c10 => absurd ((by decide : (12 : Int32) ≤ nI 12)) c10)
    exact K _ hM hF
  | succ k ih =>
    intro i f hi hM hF
    have hcl : (nI i).toNatClampNeg = i := nI_clamp (by omega)
    refine x_iload_n (pc' := 8) rfl rfl rfl ?_
    refine x_bipush (pc' := 10) rfl rfl bipush_12 ?_
    refine x_icmp_ge (tgt := 31) (pc' := 13) rfl rfl rfl (fun c10 => absurd c10 ((nI_ge (a := i) (b := 12) (by omega) (by decide)))) (fun _ => ?_)
    refine x_aload_n (pc' := 14) rfl rfl rfl ?_
    refine x_get (pc' := 17) rfl rfl rfl (hM.1) rfl ?_
    refine x_iload_n (pc' := 18) rfl rfl rfl ?_
    refine x_aload_n (pc' := 19) rfl rfl rfl ?_
    refine x_get (pc' := 22) rfl rfl rfl (hM.1) rfl ?_
    refine x_iload_n (pc' := 23) rfl rfl rfl ?_
    refine x_iaload (pc' := 24) rfl rfl (hM.2.1 6 (by decide)) (vp_in_nI (n := i) (N := 96) (by omega) (by decide)) ?_
    refine x_eqi (show M0.2.1 6 (nI i).toNatClampNeg = M0.2.1 6 i from by rw [hcl]) ?_
    refine x_iastore (pc' := 25) rfl rfl (hM.2.1 9 (by decide)) (vp_in_nI (n := i) (N := 12) (by omega) (by decide)) (fun f1 e1 => ?_)
    have hM1 := hM.arr 9 (by decide) e1
    have hF1 := hF.up e1 (by decide)
    refine x_iinc (pc' := 28) (lv' := [(1, _), (0, _)]) rfl rfl (Nat.le_of_ble_eq_true rfl) rfl (nI_1 i) rfl ?_
    refine x_goto (tgt := 7) rfl rfl ?_
    refine ih (i + 1) _ (by omega) ?_ hF1
    have e9 : x_ua (x_ua M0.2.1 9 (x_cpk i (M0.2.1 6) (M0.2.1 9))) 9 (upd (x_cpk i (M0.2.1 6) (M0.2.1 9)) (nI i).toNatClampNeg (M0.2.1 6 i)) = x_ua M0.2.1 9 (x_cpk (i + 1) (M0.2.1 6) (M0.2.1 9)) := by rw [x_ua_ua, hcl, x_cpk_s]
    rw [← e9]
    exact hM1
theorem r_imgL2 (f0 : x_H) (M0 : x_N) (K : ∀ f' : x_H, x_Mdl z f' (M0.1, x_ua M0.2.1 10 (x_cpk 9 (M0.2.1 0) (M0.2.1 10)), M0.2.2) → x_fr (fun q => q < 59) f0 f' → X E (x_rm 9 0 0) mX6_image (x_QM E z 0 0 post) 57 [(1, .int (nI 9)), (0, .ref 59)] [] z f' 0 0) : ∀ (k i : Nat) (f : x_H), i + k = 9 → x_Mdl z f (M0.1, x_ua M0.2.1 10 (x_cpk i (M0.2.1 0) (M0.2.1 10)), M0.2.2) → x_fr (fun q => q < 59) f0 f → X E (x_rm 9 0 0) mX6_image (x_QM E z 0 0 post) 33 [(1, .int (nI i)), (0, .ref 59)] [] z f 0 0 := by
  intro k
  induction k with
  | zero =>
    intro i f hi hM hF
    have hi2 : i = 9 := by omega
    subst hi2
    refine x_iload_n (pc' := 34) rfl rfl rfl ?_
    refine x_bipush (pc' := 36) rfl rfl bipush_9 ?_
    refine x_icmp_ge (tgt := 57) (pc' := 39) rfl rfl rfl (fun _ => ?_) (fun c36 => absurd ((by decide : (9 : Int32) ≤ nI 9)) c36)
    exact K _ hM hF
  | succ k ih =>
    intro i f hi hM hF
    have hcl : (nI i).toNatClampNeg = i := nI_clamp (by omega)
    refine x_iload_n (pc' := 34) rfl rfl rfl ?_
    refine x_bipush (pc' := 36) rfl rfl bipush_9 ?_
    refine x_icmp_ge (tgt := 57) (pc' := 39) rfl rfl rfl (fun c36 => absurd c36 ((nI_ge (a := i) (b := 9) (by omega) (by decide)))) (fun _ => ?_)
    refine x_aload_n (pc' := 40) rfl rfl rfl ?_
    refine x_get (pc' := 43) rfl rfl rfl (hM.1) rfl ?_
    refine x_iload_n (pc' := 44) rfl rfl rfl ?_
    refine x_aload_n (pc' := 45) rfl rfl rfl ?_
    refine x_get (pc' := 48) rfl rfl rfl (hM.1) rfl ?_
    refine x_iload_n (pc' := 49) rfl rfl rfl ?_
    refine x_iaload (pc' := 50) rfl rfl (hM.2.1 0 (by decide)) (vp_in_nI (n := i) (N := 9) (by omega) (by decide)) ?_
    refine x_eqi (show M0.2.1 0 (nI i).toNatClampNeg = M0.2.1 0 i from by rw [hcl]) ?_
    refine x_iastore (pc' := 51) rfl rfl (hM.2.1 10 (by decide)) (vp_in_nI (n := i) (N := 9) (by omega) (by decide)) (fun f1 e1 => ?_)
    have hM1 := hM.arr 10 (by decide) e1
    have hF1 := hF.up e1 (by decide)
    refine x_iinc (pc' := 54) (lv' := [(1, _), (0, _)]) rfl rfl (Nat.le_of_ble_eq_true rfl) rfl (nI_1 i) rfl ?_
    refine x_goto (tgt := 33) rfl rfl ?_
    refine ih (i + 1) _ (by omega) ?_ hF1
    have e9 : x_ua (x_ua M0.2.1 10 (x_cpk i (M0.2.1 0) (M0.2.1 10))) 10 (upd (x_cpk i (M0.2.1 0) (M0.2.1 10)) (nI i).toNatClampNeg (M0.2.1 0 i)) = x_ua M0.2.1 10 (x_cpk (i + 1) (M0.2.1 0) (M0.2.1 10)) := by rw [x_ua_ua, hcl, x_cpk_s]
    rw [← e9]
    exact hM1
theorem r_image (hM : x_Mdl z f M) (hA : r_is M A) (h : r_ends z f post (s_image A)) : Y E 9 mX6_image [.ref 59] z f 0 0 post := by
  refine Y.intro gX6_image (lv := [(0, .ref 59)]) rfl (Nat.le_of_ble_eq_true rfl) ?_
  obtain ⟨b1, b2, b3, b4, b5, b6, b7, b8, b9⟩ := id hA
  obtain ⟨t1, t2, t3, t4, t5, t6, t7⟩ := id b1
  refine x_aload_n (pc' := 1) rfl rfl rfl ?_
  refine x_iconst (pc' := 2) rfl rfl iconst_0 ?_
  refine x_cV1v (d := 1) (pc' := 5) rfl rfl sX6_154 gX6_keeps (hM.1) ⟨Nat.le_of_ble_eq_true rfl, Nat.le_of_ble_eq_true rfl⟩ (Nat.le_of_ble_eq_true rfl) ⟨Nat.le_of_ble_eq_true rfl, Nat.le_of_ble_eq_true rfl⟩ ?_
  refine m_keeps (l := 0) (by decide) hM b1 (fun f1 M1 hM1 g1 k1 fr1 hF1 => ⟨rfl, ?_⟩)
  refine x_iconst (pc' := 6) rfl rfl iconst_0 ?_
  refine x_istore_n (pc' := 7) (lv' := [(1, _), (0, _)]) rfl rfl (Nat.le_of_ble_eq_true rfl) rfl ?_
  refine r_imgL1 f M1 (fun f2 hM2 hF2 => ?_) 12 0 f1 (by omega) (by rw [x_cpk_0, x_ua_id]; exact hM1) hF1
  refine x_iconst (pc' := 32) rfl rfl iconst_0 ?_
  refine x_istore_n (pc' := 33) (lv' := [(1, _), (0, _)]) rfl rfl (Nat.le_of_ble_eq_true rfl) rfl ?_
  refine r_imgL2 f (M1.1, x_ua M1.2.1 9 (x_cpk 12 (M1.2.1 6) (M1.2.1 9)), M1.2.2) (fun f3 hM3 hF3 => ?_) 9 0 f2 (by omega) (by rw [x_cpk_0, x_ua_id]; exact hM2) hF2
  refine x_aload_n (pc' := 58) rfl rfl rfl ?_
  refine x_aload_n (pc' := 59) rfl rfl rfl ?_
  refine x_get (pc' := 62) rfl rfl rfl (hM3.1) rfl ?_
  refine x_eqi (show M1.1 3 = nI (g_n (a_g A)) from by rw [k1.1]; exact t4) ?_
  refine x_put (pc' := 65) rfl rfl rfl (hM3.1) (Nat.le_of_ble_eq_true rfl) rfl rfl rfl rfl (fun f1 e1 => ?_)
  have hM4 := hM3.num 28 e1 (x_mFs28 _ _)
  have hF4 := hF3.up e1 (by decide)
  refine x_aload_n (pc' := 66) rfl rfl rfl ?_
  refine x_aload_n (pc' := 67) rfl rfl rfl ?_
  refine x_get (pc' := 70) rfl rfl rfl (hM4.1) rfl ?_
  refine x_eqi (show M1.1 4 = nI (g_f (a_g A)) from by rw [k1.1]; exact t5) ?_
  refine x_put (pc' := 73) rfl rfl rfl (hM4.1) (Nat.le_of_ble_eq_true rfl) rfl rfl rfl rfl (fun f2 e2 => ?_)
  have hM5 := hM4.num 29 e2 (x_mFs29 _ _)
  have hF5 := hF4.up e2 (by decide)
  refine x_aload_n (pc' := 74) rfl rfl rfl ?_
  refine x_aload_n (pc' := 75) rfl rfl rfl ?_
  refine x_get (pc' := 78) rfl rfl rfl (hM5.1) rfl ?_
  refine x_eqi (show M1.1 5 = nI (g_l (a_g A)) from by rw [k1.1]; exact t6) ?_
  refine x_put (pc' := 81) rfl rfl rfl (hM5.1) (Nat.le_of_ble_eq_true rfl) rfl rfl rfl rfl (fun f3 e3 => ?_)
  have hM6 := hM5.num 30 e3 (x_mFs30 _ _)
  have hF6 := hF5.up e3 (by decide)
  refine x_aload_n (pc' := 82) rfl rfl rfl ?_
  refine x_aload_n (pc' := 83) rfl rfl rfl ?_
  refine x_get (pc' := 86) rfl rfl rfl (hM6.1) rfl ?_
  refine x_eqi (show M1.1 8 = nI (a_mv A) from by rw [k1.1]; exact b2) ?_
  refine x_put (pc' := 89) rfl rfl rfl (hM6.1) (Nat.le_of_ble_eq_true rfl) rfl rfl rfl rfl (fun f4 e4 => ?_)
  have hM7 := hM6.num 31 e4 (x_mFs31 _ _)
  have hF7 := hF6.up e4 (by decide)
  refine x_aload_n (pc' := 90) rfl rfl rfl ?_
  refine x_get (pc' := 93) rfl rfl rfl (hM7.1) rfl ?_
  refine x_eqi (show M1.1 8 = nI (a_mv A) from by rw [k1.1]; exact b2) ?_
  obtain ⟨u1, u2, u3, u4, u5, u6, u7⟩ := g1
  obtain ⟨w1, w2, w3, w4⟩ := fr1
  refine x_ireturn rfl rfl rfl (Nat.le_refl _) (Nat.le_refl _) (h _ _ hM7 ⟨⟨u1, u2, u3, u4, u5, u6, u7⟩, (by show M1.1 8 = _; rw [k1.1]; exact b2), (by show M1.1 18 = _; rw [k1.1]; exact b3), ⟨rfl, fun j hj => ?_, ?_, ?_, ?_, fun j hj => ?_, rfl, rfl, rfl⟩, (by show M1.1 11 = _; rw [k1.1]; exact b5), (by show M1.2.1 4 = _; rw [k1.2.1 4 (by decide)]; exact b6), (by show M1.1 13 = _; rw [k1.1]; exact b7), (by show M1.2.1 5 = _; rw [k1.2.1 5 (by decide)]; exact b8), (by show M1.2.1 3 = _; rw [k1.2.1 3 (by decide)]; exact b9)⟩ hF7)
  · show (if j < 12 then M1.2.1 6 j else _) = _
    rw [if_pos (by omega)]
    have := w1 j hj
    rw [show 12 * 0 + j = j by omega] at this
    exact this
  · exact w2
  · exact w3
  · exact w4
  · show (if j < 9 then M1.2.1 0 j else _) = _
    rw [if_pos hj, u1]
theorem r_onL1 (f0 : x_H) (M0 : x_N) (K : ∀ f' : x_H, x_Mdl z f' (M0.1, x_ua M0.2.1 6 (x_cpk 12 (M0.2.1 9) (M0.2.1 6)), M0.2.2) → x_fr (fun q => q < 59) f0 f' → X E (x_rm 9 0 0) mX6_on (x_QM E z 0 0 post) 40 [(1, .int (nI 12)), (0, .ref 59)] [] z f' 0 0) : ∀ (k i : Nat) (f : x_H), i + k = 12 → x_Mdl z f (M0.1, x_ua M0.2.1 6 (x_cpk i (M0.2.1 9) (M0.2.1 6)), M0.2.2) → x_fr (fun q => q < 59) f0 f → X E (x_rm 9 0 0) mX6_on (x_QM E z 0 0 post) 16 [(1, .int (nI i)), (0, .ref 59)] [] z f 0 0 := by
  intro k
  induction k with
  | zero =>
    intro i f hi hM hF
    have hi2 : i = 12 := by omega
    subst hi2
    refine x_iload_n (pc' := 17) rfl rfl rfl ?_
    refine x_bipush (pc' := 19) rfl rfl bipush_12 ?_
    refine x_icmp_ge (tgt := 40) (pc' := 22) rfl rfl rfl (fun _ => ?_) (fun c19 => absurd ((by decide : (12 : Int32) ≤ nI 12)) c19)
    exact K _ hM hF
  | succ k ih =>
    intro i f hi hM hF
    have hcl : (nI i).toNatClampNeg = i := nI_clamp (by omega)
    refine x_iload_n (pc' := 17) rfl rfl rfl ?_
    refine x_bipush (pc' := 19) rfl rfl bipush_12 ?_
    refine x_icmp_ge (tgt := 40) (pc' := 22) rfl rfl rfl (fun c19 => absurd c19 ((nI_ge (a := i) (b := 12) (by omega) (by decide)))) (fun _ => ?_)
    refine x_aload_n (pc' := 23) rfl rfl rfl ?_
    refine x_get (pc' := 26) rfl rfl rfl (hM.1) rfl ?_
    refine x_iload_n (pc' := 27) rfl rfl rfl ?_
    refine x_aload_n (pc' := 28) rfl rfl rfl ?_
    refine x_get (pc' := 31) rfl rfl rfl (hM.1) rfl ?_
    refine x_iload_n (pc' := 32) rfl rfl rfl ?_
    refine x_iaload (pc' := 33) rfl rfl (hM.2.1 9 (by decide)) (vp_in_nI (n := i) (N := 12) (by omega) (by decide)) ?_
    refine x_eqi (show M0.2.1 9 (nI i).toNatClampNeg = M0.2.1 9 i from by rw [hcl]) ?_
    refine x_iastore (pc' := 34) rfl rfl (hM.2.1 6 (by decide)) (vp_in_nI (n := i) (N := 96) (by omega) (by decide)) (fun f1 e1 => ?_)
    have hM1 := hM.arr 6 (by decide) e1
    have hF1 := hF.up e1 (by decide)
    refine x_iinc (pc' := 37) (lv' := [(1, _), (0, _)]) rfl rfl (Nat.le_of_ble_eq_true rfl) rfl (nI_1 i) rfl ?_
    refine x_goto (tgt := 16) rfl rfl ?_
    refine ih (i + 1) _ (by omega) ?_ hF1
    have e9 : x_ua (x_ua M0.2.1 6 (x_cpk i (M0.2.1 9) (M0.2.1 6))) 6 (upd (x_cpk i (M0.2.1 9) (M0.2.1 6)) (nI i).toNatClampNeg (M0.2.1 9 i)) = x_ua M0.2.1 6 (x_cpk (i + 1) (M0.2.1 9) (M0.2.1 6)) := by rw [x_ua_ua, hcl, x_cpk_s]
    rw [← e9]
    exact hM1
theorem r_onL2 (f0 : x_H) (M0 : x_N) (K : ∀ f' : x_H, x_Mdl z f' (M0.1, x_ua M0.2.1 0 (x_cpk 9 (M0.2.1 10) (M0.2.1 0)), M0.2.2) → x_fr (fun q => q < 59) f0 f' → X E (x_rm 9 0 0) mX6_on (x_QM E z 0 0 post) 71 [(1, .int (nI 9)), (0, .ref 59)] [] z f' 0 0) : ∀ (k i : Nat) (f : x_H), i + k = 9 → x_Mdl z f (M0.1, x_ua M0.2.1 0 (x_cpk i (M0.2.1 10) (M0.2.1 0)), M0.2.2) → x_fr (fun q => q < 59) f0 f → X E (x_rm 9 0 0) mX6_on (x_QM E z 0 0 post) 47 [(1, .int (nI i)), (0, .ref 59)] [] z f 0 0 := by
  intro k
  induction k with
  | zero =>
    intro i f hi hM hF
    have hi2 : i = 9 := by omega
    subst hi2
    refine x_iload_n (pc' := 48) rfl rfl rfl ?_
    refine x_bipush (pc' := 50) rfl rfl bipush_9 ?_
    refine x_icmp_ge (tgt := 71) (pc' := 53) rfl rfl rfl (fun _ => ?_) (fun c50 => absurd ((by decide : (9 : Int32) ≤ nI 9)) c50)
    exact K _ hM hF
  | succ k ih =>
    intro i f hi hM hF
    have hcl : (nI i).toNatClampNeg = i := nI_clamp (by omega)
    refine x_iload_n (pc' := 48) rfl rfl rfl ?_
    refine x_bipush (pc' := 50) rfl rfl bipush_9 ?_
    refine x_icmp_ge (tgt := 71) (pc' := 53) rfl rfl rfl (fun c50 => absurd c50 ((nI_ge (a := i) (b := 9) (by omega) (by decide)))) (fun _ => ?_)
    refine x_aload_n (pc' := 54) rfl rfl rfl ?_
    refine x_get (pc' := 57) rfl rfl rfl (hM.1) rfl ?_
    refine x_iload_n (pc' := 58) rfl rfl rfl ?_
    refine x_aload_n (pc' := 59) rfl rfl rfl ?_
    refine x_get (pc' := 62) rfl rfl rfl (hM.1) rfl ?_
    refine x_iload_n (pc' := 63) rfl rfl rfl ?_
    refine x_iaload (pc' := 64) rfl rfl (hM.2.1 10 (by decide)) (vp_in_nI (n := i) (N := 9) (by omega) (by decide)) ?_
    refine x_eqi (show M0.2.1 10 (nI i).toNatClampNeg = M0.2.1 10 i from by rw [hcl]) ?_
    refine x_iastore (pc' := 65) rfl rfl (hM.2.1 0 (by decide)) (vp_in_nI (n := i) (N := 9) (by omega) (by decide)) (fun f1 e1 => ?_)
    have hM1 := hM.arr 0 (by decide) e1
    have hF1 := hF.up e1 (by decide)
    refine x_iinc (pc' := 68) (lv' := [(1, _), (0, _)]) rfl rfl (Nat.le_of_ble_eq_true rfl) rfl (nI_1 i) rfl ?_
    refine x_goto (tgt := 47) rfl rfl ?_
    refine ih (i + 1) _ (by omega) ?_ hF1
    have e9 : x_ua (x_ua M0.2.1 0 (x_cpk i (M0.2.1 10) (M0.2.1 0))) 0 (upd (x_cpk i (M0.2.1 10) (M0.2.1 0)) (nI i).toNatClampNeg (M0.2.1 10 i)) = x_ua M0.2.1 0 (x_cpk (i + 1) (M0.2.1 10) (M0.2.1 0)) := by rw [x_ua_ua, hcl, x_cpk_s]
    rw [← e9]
    exact hM1
theorem r_on (hM : x_Mdl z f M) (hA : r_is M A) (ho : a_ok A) (h : r_ends z f post (s_on A)) : Y E 9 mX6_on [.ref 59] z f 0 0 post := by
  refine Y.intro gX6_on (lv := [(0, .ref 59)]) rfl (Nat.le_of_ble_eq_true rfl) ?_
  obtain ⟨b1, b2, b3, b4, b5, b6, b7, b8, b9⟩ := id hA
  rcases hp : a_pi A with _ | ⟨g, m⟩
  · rw [show s_on A = (s_no A 3, -3) from by unfold s_on; rw [hp]] at h
    rw [hp] at b4
    refine x_aload_n (pc' := 1) rfl rfl rfl ?_
    refine x_get (pc' := 4) rfl rfl rfl (hM.1) rfl ?_
    refine x_eqi (show M.1 28 = -1 from b4) ?_
    refine x_if_ge (tgt := 14) (pc' := 7) rfl rfl rfl (fun c4 => absurd c4 ((by decide))) (fun _ => ?_)
    refine x_aload_n (pc' := 8) rfl rfl rfl ?_
    refine x_bipush (pc' := 10) rfl rfl bipush_m3 ?_
    refine x_cV1i (d := 1) (pc' := 13) rfl rfl sX6_110 gX6_refuse (hM.1) ⟨Nat.le_of_ble_eq_true rfl, Nat.le_of_ble_eq_true rfl⟩ (Nat.le_of_ble_eq_true rfl) ⟨Nat.le_of_ble_eq_true rfl, Nat.le_of_ble_eq_true rfl⟩ ?_
    refine r_refuse (k := 2) (by decide) (by decide) hM hA (fun f1 M1 hM1 hA1 hF1 => ⟨_, rfl, ?_⟩)
    exact x_ireturn rfl rfl rfl (Nat.le_of_ble_eq_true rfl) (Nat.le_of_ble_eq_true rfl) (h _ _ hM1 hA1 hF1)
  · rw [show s_on A = (((g, m), A.2), nI m) from by unfold s_on; rw [hp]] at h
    have hb4 := b4
    rw [hp] at b4
    obtain ⟨p1, p2, p3, p4, p5, p6, p7, p8, p9⟩ := b4
    obtain ⟨og, om⟩ := ho.2.2.1 g m hp
    have hfr : m_fr (M.1, x_ua M.2.1 6 (x_cpk 12 (M.2.1 9) (M.2.1 6)), M.2.2) 0 g := by
      refine ⟨fun j hj => ?_, p3, p4, p5⟩
      show (if 12 * 0 + j < 12 then M.2.1 9 (12 * 0 + j) else _) = _
      rw [if_pos (by omega), show 12 * 0 + j = j by omega]
      exact p2 j hj
    refine x_aload_n (pc' := 1) rfl rfl rfl ?_
    refine x_get (pc' := 4) rfl rfl rfl (hM.1) rfl ?_
    refine x_eqi p1 ?_
    refine x_if_ge (tgt := 14) (pc' := 7) rfl rfl rfl (fun _ => ?_) (fun c4 => absurd ((nI_pos' (by have := og.1; omega))) c4)
    refine x_iconst (pc' := 15) rfl rfl iconst_0 ?_
    refine x_istore_n (pc' := 16) (lv' := [(1, _), (0, _)]) rfl rfl (Nat.le_of_ble_eq_true rfl) rfl ?_
    refine r_onL1 f M (fun f1 hM1 hF1 => ?_) 12 0 f (by omega) (by rw [x_cpk_0, x_ua_id]; exact hM) x_fr.rf
    refine x_aload_n (pc' := 41) rfl rfl rfl ?_
    refine x_iconst (pc' := 42) rfl rfl iconst_0 ?_
    refine x_cV1v (d := 1) (pc' := 45) rfl rfl sX6_160 gX6_lays (hM1.1) ⟨Nat.le_of_ble_eq_true rfl, Nat.le_of_ble_eq_true rfl⟩ (Nat.le_of_ble_eq_true rfl) ⟨Nat.le_of_ble_eq_true rfl, Nat.le_of_ble_eq_true rfl⟩ ?_
    refine m_lays (l := 0) (g := g) (g' := a_g A) (by decide) hM1 b1 hfr og ho.1 (fun f2 M2 hM2 g2 y1 y2 y3 hF2 => ⟨rfl, ?_⟩)
    refine x_iconst (pc' := 46) rfl rfl iconst_0 ?_
    refine x_istore_n (pc' := 47) (lv' := [(1, _), (0, _)]) rfl rfl (Nat.le_of_ble_eq_true rfl) rfl ?_
    refine r_onL2 f M2 (fun f3 hM3 hF3 => ?_) 9 0 f2 (by omega) (by rw [x_cpk_0, x_ua_id]; exact hM2) (hF1.trans hF2)
    refine x_aload_n (pc' := 72) rfl rfl rfl ?_
    refine x_aload_n (pc' := 73) rfl rfl rfl ?_
    refine x_get (pc' := 76) rfl rfl rfl (hM3.1) rfl ?_
    refine x_eqi (show M2.1 28 = nI (g_n g) from (y1 28 (by decide)).trans p1) ?_
    refine x_put (pc' := 79) rfl rfl rfl (hM3.1) (Nat.le_of_ble_eq_true rfl) rfl rfl rfl rfl (fun f1 e1 => ?_)
    have hM4 := hM3.num 3 e1 (x_mFs3 _ _)
    have hF4 := hF3.up e1 (by decide)
    refine x_aload_n (pc' := 80) rfl rfl rfl ?_
    refine x_aload_n (pc' := 81) rfl rfl rfl ?_
    refine x_get (pc' := 84) rfl rfl rfl (hM4.1) rfl ?_
    refine x_eqi (show M2.1 29 = nI (g_f g) from (y1 29 (by decide)).trans p7) ?_
    refine x_put (pc' := 87) rfl rfl rfl (hM4.1) (Nat.le_of_ble_eq_true rfl) rfl rfl rfl rfl (fun f2 e2 => ?_)
    have hM5 := hM4.num 4 e2 (x_mFs4 _ _)
    have hF5 := hF4.up e2 (by decide)
    refine x_aload_n (pc' := 88) rfl rfl rfl ?_
    refine x_aload_n (pc' := 89) rfl rfl rfl ?_
    refine x_get (pc' := 92) rfl rfl rfl (hM5.1) rfl ?_
    refine x_eqi (show M2.1 30 = nI (g_l g) from (y1 30 (by decide)).trans p8) ?_
    refine x_put (pc' := 95) rfl rfl rfl (hM5.1) (Nat.le_of_ble_eq_true rfl) rfl rfl rfl rfl (fun f3 e3 => ?_)
    have hM6 := hM5.num 5 e3 (x_mFs5 _ _)
    have hF6 := hF5.up e3 (by decide)
    refine x_aload_n (pc' := 96) rfl rfl rfl ?_
    refine x_aload_n (pc' := 97) rfl rfl rfl ?_
    refine x_get (pc' := 100) rfl rfl rfl (hM6.1) rfl ?_
    refine x_eqi (show M2.1 31 = nI m from (y1 31 (by decide)).trans p9) ?_
    refine x_put (pc' := 103) rfl rfl rfl (hM6.1) (Nat.le_of_ble_eq_true rfl) rfl rfl rfl rfl (fun f4 e4 => ?_)
    have hM7 := hM6.num 8 e4 (x_mFs8 _ _)
    have hF7 := hF6.up e4 (by decide)
    refine x_aload_n (pc' := 104) rfl rfl rfl ?_
    refine x_get (pc' := 107) rfl rfl rfl (hM7.1) rfl ?_
    obtain ⟨u1, u2, u3, u4, u5, u6, u7⟩ := g2
    have hk0 : x_cpk 9 (M2.2.1 10) (M2.2.1 0) = fun i => nI (g_κ g i) := by
      funext j
      unfold x_cpk
      by_cases hj : j < 9
      · rw [if_pos hj, y2 10 (by decide) (by decide)]
        exact p6 j hj
      · rw [if_neg hj, u1]
        show nI (g_κ (a_g A) j) = nI (g_κ g j)
        rw [(og.2.2.2.2.2.2.2.1 j (by omega)).1, (ho.1.2.2.2.2.2.2.2.1 j (by omega)).1]
    refine x_ireturn rfl rfl rfl (Nat.le_refl _) (Nat.le_refl _) (h _ _ hM7 ⟨⟨hk0, u2, u3, rfl, rfl, rfl, u7⟩, rfl, (y1 18 (by decide)).trans b3, ?_, (y1 11 (by decide)).trans b5, (y2 4 (by decide) (by decide)).trans b6, (y1 13 (by decide)).trans b7, (y2 5 (by decide) (by decide)).trans b8, (y2 3 (by decide) (by decide)).trans b9⟩ hF7)
    exact hb4.eq (fun i hi => ((pk_un (by omega)).trans ((pk_un (by omega)).trans ((pk_un (by omega)).trans (pk_un (by omega))))).trans (y1 i (by omega))) (y2 9 (by decide) (by decide)) (y2 10 (by decide) (by decide))
end RC
