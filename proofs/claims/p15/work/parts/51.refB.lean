/-! The reference's calls that make moves in mind. -/
def s_lost (A : q_A) : q_A × Int32 := (A, if (∀ i, i < g_n (a_g A) → ¬ g_can (a_g A) i) then 1 else 0)
section RB
variable {E : x_E} {z : Nat} {f : x_H} {S : x_S} {M : x_N} {A : q_A} {post : Option Value → x_H → Prop} {a b : Int32} {g : q_G} {C : Nat}
theorem m_ly.kp {M M' : x_N} (h1 : ∀ i, i ≠ 7 → M'.1 i = M.1 i) (h2 : ∀ j, j ≠ 1 → j ≠ 2 → M'.2.1 j = M.2.1 j) (h3 : M'.2.2 = M.2.2) : m_kp M M' := ⟨h2, h3, fun i i1 _ _ _ _ => h1 i i1⟩
theorem m_kp.no18 {M M' : x_N} (h : m_kp M M') : M'.1 18 = M.1 18 := h.2.2 18 (by decide) (by decide) (by decide) (by decide) (by decide)
theorem m_allL {n : Nat} {β : Nat → Nat} (hM : x_Mdl z f M) (hn : M.1 3 = nI n) (hn9 : n ≤ 9) (hβ : M.2.1 1 = fun i => nI (β i)) (h : post (some (.int (nI (q_sum β n)))) f) : ∀ (k i : Nat), i + k = n → X E (x_rm 1 0 0) mX6_all (x_QM E z 0 0 post) 4 [(2, .int (nI i)), (1, .int (nI (q_sum β i))), (0, .ref 59)] [] z f 0 0 := by
  intro k
  induction k with
  | zero =>
    intro i hi
    have hi2 : i = n := by omega
    subst hi2
    refine x_iload_n (pc' := 5) rfl rfl rfl ?_
    refine x_aload_n (pc' := 6) rfl rfl rfl ?_
    refine x_get (pc' := 9) rfl rfl rfl (hM.1) rfl ?_
    refine x_eqi hn ?_
    refine x_icmp_ge (tgt := 27) (pc' := 12) rfl rfl rfl (fun _ => ?_) (fun c9 => absurd ((Int32.le_refl _)) c9)
    refine x_iload_n (pc' := 28) rfl rfl rfl ?_
    exact x_ireturn rfl rfl rfl (Nat.le_of_ble_eq_true rfl) (Nat.le_of_ble_eq_true rfl) (h)
  | succ k ih =>
    intro i hi
    refine x_iload_n (pc' := 5) rfl rfl rfl ?_
    refine x_aload_n (pc' := 6) rfl rfl rfl ?_
    refine x_get (pc' := 9) rfl rfl rfl (hM.1) rfl ?_
    refine x_eqi hn ?_
    refine x_icmp_ge (tgt := 27) (pc' := 12) rfl rfl rfl (fun c9 => absurd c9 ((nI_ge (by omega) (by omega)))) (fun _ => ?_)
    refine x_iload_n (pc' := 13) rfl rfl rfl ?_
    refine x_aload_n (pc' := 14) rfl rfl rfl ?_
    refine x_get (pc' := 17) rfl rfl rfl (hM.1) rfl ?_
    refine x_iload_n (pc' := 18) rfl rfl rfl ?_
    refine x_iaload (pc' := 19) rfl rfl (hM.2.1 1 (by decide)) (vp_in_nI (n := i) (N := 9) (by omega) (by decide)) ?_
    refine x_eqi (show M.2.1 1 (nI i).toNatClampNeg = nI (β i) from by rw [nI_clamp (by omega), hβ]) ?_
    refine x_iadd (pc' := 20) rfl rfl ?_
    refine x_eqi (nI_add _ _) ?_
    refine x_istore_n (pc' := 21) (lv' := [(1, _), (2, _), (0, _)]) rfl rfl (Nat.le_of_ble_eq_true rfl) rfl ?_
    refine x_iinc (pc' := 24) (lv' := [(2, _), (1, _), (0, _)]) rfl rfl (Nat.le_of_ble_eq_true rfl) rfl (nI_1 i) rfl ?_
    refine x_goto (tgt := 4) rfl rfl ?_
    exact ih (i + 1) (by omega)
theorem m_all {n : Nat} {β : Nat → Nat} (hM : x_Mdl z f M) (hn : M.1 3 = nI n) (hn9 : n ≤ 9) (hβ : M.2.1 1 = fun i => nI (β i)) (h : post (some (.int (nI (q_sum β n)))) f) : Y E 1 mX6_all [.ref 59] z f 0 0 post := by
  refine Y.intro gX6_all (lv := [(0, .ref 59)]) rfl (Nat.le_of_ble_eq_true rfl) ?_
  refine x_iconst (pc' := 1) rfl rfl iconst_0 ?_
  refine x_istore_n (pc' := 2) (lv' := [(1, _), (0, _)]) rfl rfl (Nat.le_of_ble_eq_true rfl) rfl ?_
  refine x_iconst (pc' := 3) rfl rfl iconst_0 ?_
  refine x_istore_n (pc' := 4) (lv' := [(2, _), (1, _), (0, _)]) rfl rfl (Nat.le_of_ble_eq_true rfl) rfl ?_
  exact m_allL hM hn hn9 hβ h n 0 (by omega)
theorem r_by (hM : x_Mdl z f M) (hA : r_is M A) (ho : a_ok A) (h : r_ends z f post (s_by A a b)) : Y E 9 mX6_by [.ref 59, .int a, .int b] z f 0 0 post := by
  refine Y.intro gX6_by (lv := [(0, .ref 59), (1, .int a), (2, .int b)]) rfl (Nat.le_of_ble_eq_true rfl) ?_
  obtain ⟨b1, b2, b3, b4, b5, b6, b7, b8, b9⟩ := id hA
  by_cases d1 : q_in (g_n (a_g A)) a
  · obtain ⟨k, hk, hk2, rfl, hcl⟩ := q_in_k d1
    rw [show s_by A (nI k) b = _ from if_pos d1, hcl] at h
    by_cases e9 : b < 0 ∨ 4 < b
    · rw [if_pos e9] at h
      refine x_aload_n (pc' := 1) rfl rfl rfl ?_
      refine x_iload_n (pc' := 2) rfl rfl rfl ?_
      refine x_cV1i (d := 2) (pc' := 5) rfl rfl sX6_103 gX6_isBowl (hM.1) ⟨Nat.le_of_ble_eq_true rfl, Nat.le_of_ble_eq_true rfl⟩ (Nat.le_of_ble_eq_true rfl) ⟨Nat.le_of_ble_eq_true rfl, Nat.le_of_ble_eq_true rfl⟩ ?_
      refine r_bowl hM hA ho (fun _ => ⟨_, rfl, ?_⟩) (fun q => absurd d1 q)
      refine x_if_ne (tgt := 14) (pc' := 8) rfl rfl rfl (fun _ => ?_) (fun c5 => absurd c5 ((by decide)))
      refine x_iload_n (pc' := 15) rfl rfl rfl ?_
      refine x_i2l (pc' := 16) rfl rfl ?_
      refine x_lconst (pc' := 17) rfl rfl lconst_0 ?_
      refine x_ldc2 (pc' := 20) rfl rfl rfl ?_
      refine x_cS3i (d := 1) (pc' := 23) rfl rfl sX6_63 gX6_in ⟨Nat.le_of_ble_eq_true rfl, Nat.le_of_ble_eq_true rfl⟩ (Nat.le_of_ble_eq_true rfl) ⟨Nat.le_of_ble_eq_true rfl, Nat.le_of_ble_eq_true rfl⟩ ?_
      refine r_in (lo := 0) (hi := 4) (by decide) (by decide) (fun q => absurd e9 q) (fun _ => ⟨_, rfl, ?_⟩)
      refine x_if_ne (tgt := 33) (pc' := 26) rfl rfl rfl (fun c23 => absurd (rfl) c23) (fun _ => ?_)
      refine x_aload_n (pc' := 27) rfl rfl rfl ?_
      refine x_bipush (pc' := 29) rfl rfl bipush_m2 ?_
      refine x_cV1i (d := 1) (pc' := 32) rfl rfl sX6_110 gX6_refuse (hM.1) ⟨Nat.le_of_ble_eq_true rfl, Nat.le_of_ble_eq_true rfl⟩ (Nat.le_of_ble_eq_true rfl) ⟨Nat.le_of_ble_eq_true rfl, Nat.le_of_ble_eq_true rfl⟩ ?_
      refine r_refuse (k := 1) (by decide) (by decide) hM hA (fun f1 M1 hM1 hA1 hF1 => ⟨_, rfl, ?_⟩)
      exact x_ireturn rfl rfl rfl (Nat.le_of_ble_eq_true rfl) (Nat.le_of_ble_eq_true rfl) (h _ _ hM1 hA1 hF1)
    rw [if_neg e9] at h
    obtain ⟨kb, hkb, rfl⟩ := nI_of2 (n := 4) (M := 4) rfl (fun q => e9 (Or.inl q)) (Int32.not_lt.mp (fun q => e9 (Or.inr q)))
    have hkb5 : kb = 0 ∨ kb = 1 ∨ kb = 2 ∨ kb = 3 ∨ kb = 4 := by omega
    refine x_aload_n (pc' := 1) rfl rfl rfl ?_
    refine x_iload_n (pc' := 2) rfl rfl rfl ?_
    refine x_cV1i (d := 2) (pc' := 5) rfl rfl sX6_103 gX6_isBowl (hM.1) ⟨Nat.le_of_ble_eq_true rfl, Nat.le_of_ble_eq_true rfl⟩ (Nat.le_of_ble_eq_true rfl) ⟨Nat.le_of_ble_eq_true rfl, Nat.le_of_ble_eq_true rfl⟩ ?_
    refine r_bowl hM hA ho (fun _ => ⟨_, rfl, ?_⟩) (fun q => absurd d1 q)
    refine x_if_ne (tgt := 14) (pc' := 8) rfl rfl rfl (fun _ => ?_) (fun c5 => absurd c5 ((by decide)))
    refine x_iload_n (pc' := 15) rfl rfl rfl ?_
    refine x_i2l (pc' := 16) rfl rfl ?_
    refine x_lconst (pc' := 17) rfl rfl lconst_0 ?_
    refine x_ldc2 (pc' := 20) rfl rfl rfl ?_
    refine x_cS3i (d := 1) (pc' := 23) rfl rfl sX6_63 gX6_in ⟨Nat.le_of_ble_eq_true rfl, Nat.le_of_ble_eq_true rfl⟩ (Nat.le_of_ble_eq_true rfl) ⟨Nat.le_of_ble_eq_true rfl, Nat.le_of_ble_eq_true rfl⟩ ?_
    refine r_in (lo := 0) (hi := 4) (by decide) (by decide) (fun _ => ⟨_, rfl, ?_⟩) (fun q => absurd q e9)
    refine x_if_ne (tgt := 33) (pc' := 26) rfl rfl rfl (fun _ => ?_) (fun c23 => absurd c23 ((by decide)))
    refine x_aload_n (pc' := 34) rfl rfl rfl ?_
    refine x_iload_n (pc' := 35) rfl rfl rfl ?_
    refine x_cV1i (d := 3) (pc' := 38) rfl rfl sX6_135 gX6_canMove (hM.1) ⟨Nat.le_of_ble_eq_true rfl, Nat.le_of_ble_eq_true rfl⟩ (Nat.le_of_ble_eq_true rfl) ⟨Nat.le_of_ble_eq_true rfl, Nat.le_of_ble_eq_true rfl⟩ ?_
    refine m_can1 hM b1 ho.1 (by decide) hk2 (fun d2 => ⟨_, rfl, ?_⟩) (fun d2 => ⟨_, rfl, ?_⟩)
    · rw [if_pos ⟨d2.1, d2.2.2⟩] at h
      refine x_if_ne (tgt := 48) (pc' := 41) rfl rfl rfl (fun _ => ?_) (fun c38 => absurd c38 ((by decide)))
      refine x_aload_n (pc' := 49) rfl rfl rfl ?_
      refine x_iconst (pc' := 50) rfl rfl iconst_0 ?_
      refine x_cV1v (d := 1) (pc' := 53) rfl rfl sX6_154 gX6_keeps (hM.1) ⟨Nat.le_of_ble_eq_true rfl, Nat.le_of_ble_eq_true rfl⟩ (Nat.le_of_ble_eq_true rfl) ⟨Nat.le_of_ble_eq_true rfl, Nat.le_of_ble_eq_true rfl⟩ ?_
      refine m_keeps (l := 0) (by decide) hM b1 (fun f1 M1 hM1 g1 k1 fr1 hF1 => ⟨rfl, ?_⟩)
      refine x_aload_n (pc' := 54) rfl rfl rfl ?_
      refine x_iload_n (pc' := 55) rfl rfl rfl ?_
      refine x_cV1v (d := 4) (pc' := 58) rfl rfl sX6_141 gX6_moves (hM1.1) ⟨Nat.le_of_ble_eq_true rfl, Nat.le_of_ble_eq_true rfl⟩ (Nat.le_of_ble_eq_true rfl) ⟨Nat.le_of_ble_eq_true rfl, Nat.le_of_ble_eq_true rfl⟩ ?_
      refine m_mv hM1 g1 ho.1 (by decide) d2 (by rw [k1.1]; exact b3) (fun f2 M2 hM2 g2 k2 e14 e15 e16 e17 hF2 => ⟨rfl, ?_⟩)
      refine x_aload_n (pc' := 59) rfl rfl rfl ?_
      refine x_cV0i (d := 1) (pc' := 62) rfl rfl sX6_169 gX6_all (hM2.1) ⟨Nat.le_of_ble_eq_true rfl, Nat.le_of_ble_eq_true rfl⟩ (Nat.le_of_ble_eq_true rfl) ⟨Nat.le_of_ble_eq_true rfl, Nat.le_of_ble_eq_true rfl⟩ ?_
      refine m_all hM2 g2.2.2.2.1 ho.1.1 g2.2.1 ⟨_, rfl, ?_⟩
      refine x_istore_n (pc' := 63) (lv' := [(3, _), (0, _), (1, _), (2, _)]) rfl rfl (Nat.le_of_ble_eq_true rfl) rfl ?_
      refine x_aload_n (pc' := 64) rfl rfl rfl ?_
      refine x_iconst (pc' := 65) rfl rfl iconst_0 ?_
      refine x_cV1v (d := 1) (pc' := 68) rfl rfl sX6_160 gX6_lays (hM2.1) ⟨Nat.le_of_ble_eq_true rfl, Nat.le_of_ble_eq_true rfl⟩ (Nat.le_of_ble_eq_true rfl) ⟨Nat.le_of_ble_eq_true rfl, Nat.le_of_ble_eq_true rfl⟩ ?_
      refine m_lays (l := 0) (g := a_g A) (by decide) hM2 g2 (fr1.eq (k2.1 6 (by decide) (by decide))) ho.1 (g_mv_ok ho.1 (by decide) (by decide) d2.2.1) (fun f3 M3 hM3 g3 e1 e2 e3 hF3 => ⟨rfl, ?_⟩)
      have hA3 : r_is M3 A := hA.sc ((k1.sc.trans k2.sc).trans (m_ly.sc e1 e2)) g3
      have hF := (hF1.trans hF2).trans hF3
      rcases hkb5 with rfl | rfl | rfl | rfl | rfl
      · rw [if_pos (by decide)] at h
        refine x_iload_n (pc' := 69) rfl rfl rfl ?_
        refine x_if_ne (tgt := 79) (pc' := 72) rfl rfl rfl (fun c69 => absurd (rfl) c69) (fun _ => ?_)
        refine x_aload_n (pc' := 73) rfl rfl rfl ?_
        refine x_get (pc' := 76) rfl rfl rfl (hM3.1) rfl ?_
        refine x_eqi ((e1 14 (by decide)).trans e14) ?_
        refine x_goto (tgt := 116) rfl rfl ?_
        exact x_ireturn rfl rfl rfl (Nat.le_of_ble_eq_true rfl) (Nat.le_of_ble_eq_true rfl) (h _ _ hM3 hA3 hF)
      · rw [if_neg (by decide), if_pos (by decide)] at h
        refine x_iload_n (pc' := 69) rfl rfl rfl ?_
        refine x_if_ne (tgt := 79) (pc' := 72) rfl rfl rfl (fun _ => ?_) (fun c69 => absurd c69 ((by decide)))
        refine x_iload_n (pc' := 80) rfl rfl rfl ?_
        refine x_iconst (pc' := 81) rfl rfl iconst_1 ?_
        refine x_icmp_ne (tgt := 91) (pc' := 84) rfl rfl rfl (fun c81 => absurd (rfl) c81) (fun _ => ?_)
        refine x_aload_n (pc' := 85) rfl rfl rfl ?_
        refine x_get (pc' := 88) rfl rfl rfl (hM3.1) rfl ?_
        refine x_eqi ((e1 15 (by decide)).trans e15) ?_
        refine x_goto (tgt := 116) rfl rfl ?_
        exact x_ireturn rfl rfl rfl (Nat.le_of_ble_eq_true rfl) (Nat.le_of_ble_eq_true rfl) (h _ _ hM3 hA3 hF)
      · rw [if_neg (by decide), if_neg (by decide), if_pos (by decide)] at h
        refine x_iload_n (pc' := 69) rfl rfl rfl ?_
        refine x_if_ne (tgt := 79) (pc' := 72) rfl rfl rfl (fun _ => ?_) (fun c69 => absurd c69 ((by decide)))
        refine x_iload_n (pc' := 80) rfl rfl rfl ?_
        refine x_iconst (pc' := 81) rfl rfl iconst_1 ?_
        refine x_icmp_ne (tgt := 91) (pc' := 84) rfl rfl rfl (fun _ => ?_) (fun c81 => absurd c81 ((by decide)))
        refine x_iload_n (pc' := 92) rfl rfl rfl ?_
        refine x_iconst (pc' := 93) rfl rfl iconst_2 ?_
        refine x_icmp_ne (tgt := 103) (pc' := 96) rfl rfl rfl (fun c93 => absurd (rfl) c93) (fun _ => ?_)
        refine x_aload_n (pc' := 97) rfl rfl rfl ?_
        refine x_get (pc' := 100) rfl rfl rfl (hM3.1) rfl ?_
        refine x_eqi ((e1 16 (by decide)).trans e16) ?_
        refine x_goto (tgt := 116) rfl rfl ?_
        exact x_ireturn rfl rfl rfl (Nat.le_of_ble_eq_true rfl) (Nat.le_of_ble_eq_true rfl) (h _ _ hM3 hA3 hF)
      · rw [if_neg (by decide), if_neg (by decide), if_neg (by decide), if_pos (by decide)] at h
        refine x_iload_n (pc' := 69) rfl rfl rfl ?_
        refine x_if_ne (tgt := 79) (pc' := 72) rfl rfl rfl (fun _ => ?_) (fun c69 => absurd c69 ((by decide)))
        refine x_iload_n (pc' := 80) rfl rfl rfl ?_
        refine x_iconst (pc' := 81) rfl rfl iconst_1 ?_
        refine x_icmp_ne (tgt := 91) (pc' := 84) rfl rfl rfl (fun _ => ?_) (fun c81 => absurd c81 ((by decide)))
        refine x_iload_n (pc' := 92) rfl rfl rfl ?_
        refine x_iconst (pc' := 93) rfl rfl iconst_2 ?_
        refine x_icmp_ne (tgt := 103) (pc' := 96) rfl rfl rfl (fun _ => ?_) (fun c93 => absurd c93 ((by decide)))
        refine x_iload_n (pc' := 104) rfl rfl rfl ?_
        refine x_iconst (pc' := 105) rfl rfl iconst_3 ?_
        refine x_icmp_ne (tgt := 115) (pc' := 108) rfl rfl rfl (fun c105 => absurd (rfl) c105) (fun _ => ?_)
        refine x_aload_n (pc' := 109) rfl rfl rfl ?_
        refine x_get (pc' := 112) rfl rfl rfl (hM3.1) rfl ?_
        refine x_eqi ((e1 17 (by decide)).trans e17) ?_
        refine x_goto (tgt := 116) rfl rfl ?_
        exact x_ireturn rfl rfl rfl (Nat.le_of_ble_eq_true rfl) (Nat.le_of_ble_eq_true rfl) (h _ _ hM3 hA3 hF)
      · rw [if_neg (by decide), if_neg (by decide), if_neg (by decide), if_neg (by decide)] at h
        refine x_iload_n (pc' := 69) rfl rfl rfl ?_
        refine x_if_ne (tgt := 79) (pc' := 72) rfl rfl rfl (fun _ => ?_) (fun c69 => absurd c69 ((by decide)))
        refine x_iload_n (pc' := 80) rfl rfl rfl ?_
        refine x_iconst (pc' := 81) rfl rfl iconst_1 ?_
        refine x_icmp_ne (tgt := 91) (pc' := 84) rfl rfl rfl (fun _ => ?_) (fun c81 => absurd c81 ((by decide)))
        refine x_iload_n (pc' := 92) rfl rfl rfl ?_
        refine x_iconst (pc' := 93) rfl rfl iconst_2 ?_
        refine x_icmp_ne (tgt := 103) (pc' := 96) rfl rfl rfl (fun _ => ?_) (fun c93 => absurd c93 ((by decide)))
        refine x_iload_n (pc' := 104) rfl rfl rfl ?_
        refine x_iconst (pc' := 105) rfl rfl iconst_3 ?_
        refine x_icmp_ne (tgt := 115) (pc' := 108) rfl rfl rfl (fun _ => ?_) (fun c105 => absurd c105 ((by decide)))
        refine x_iload_n (pc' := 116) rfl rfl rfl ?_
        exact x_ireturn rfl rfl rfl (Nat.le_of_ble_eq_true rfl) (Nat.le_of_ble_eq_true rfl) (h _ _ hM3 hA3 hF)
    · rw [if_neg (fun q => d2 ⟨q.1, hk, q.2⟩)] at h
      refine x_if_ne (tgt := 48) (pc' := 41) rfl rfl rfl (fun c38 => absurd (rfl) c38) (fun _ => ?_)
      refine x_aload_n (pc' := 42) rfl rfl rfl ?_
      refine x_bipush (pc' := 44) rfl rfl bipush_m3 ?_
      refine x_cV1i (d := 1) (pc' := 47) rfl rfl sX6_110 gX6_refuse (hM.1) ⟨Nat.le_of_ble_eq_true rfl, Nat.le_of_ble_eq_true rfl⟩ (Nat.le_of_ble_eq_true rfl) ⟨Nat.le_of_ble_eq_true rfl, Nat.le_of_ble_eq_true rfl⟩ ?_
      refine r_refuse (k := 2) (by decide) (by decide) hM hA (fun f1 M1 hM1 hA1 hF1 => ⟨_, rfl, ?_⟩)
      exact x_ireturn rfl rfl rfl (Nat.le_of_ble_eq_true rfl) (Nat.le_of_ble_eq_true rfl) (h _ _ hM1 hA1 hF1)
  · rw [show s_by A a b = _ from if_neg d1] at h
    refine x_aload_n (pc' := 1) rfl rfl rfl ?_
    refine x_iload_n (pc' := 2) rfl rfl rfl ?_
    refine x_cV1i (d := 2) (pc' := 5) rfl rfl sX6_103 gX6_isBowl (hM.1) ⟨Nat.le_of_ble_eq_true rfl, Nat.le_of_ble_eq_true rfl⟩ (Nat.le_of_ble_eq_true rfl) ⟨Nat.le_of_ble_eq_true rfl, Nat.le_of_ble_eq_true rfl⟩ ?_
    refine r_bowl hM hA ho (fun q => absurd q d1) (fun _ => ⟨_, rfl, ?_⟩)
    refine x_if_ne (tgt := 14) (pc' := 8) rfl rfl rfl (fun c5 => absurd (rfl) c5) (fun _ => ?_)
    refine x_aload_n (pc' := 9) rfl rfl rfl ?_
    refine x_iconst (pc' := 10) rfl rfl iconst_m1 ?_
    refine x_cV1i (d := 1) (pc' := 13) rfl rfl sX6_110 gX6_refuse (hM.1) ⟨Nat.le_of_ble_eq_true rfl, Nat.le_of_ble_eq_true rfl⟩ (Nat.le_of_ble_eq_true rfl) ⟨Nat.le_of_ble_eq_true rfl, Nat.le_of_ble_eq_true rfl⟩ ?_
    refine r_refuse (k := 0) (by decide) (by decide) hM hA (fun f1 M1 hM1 hA1 hF1 => ⟨_, rfl, ?_⟩)
    exact x_ireturn rfl rfl rfl (Nat.le_of_ble_eq_true rfl) (Nat.le_of_ble_eq_true rfl) (h _ _ hM1 hA1 hF1)
theorem r_behind (hM : x_Mdl z f M) (hA : r_is M A) (ho : a_ok A) (h : r_ends z f post (s_behind A a b)) : Y E 9 mX6_behind [.ref 59, .int a, .int b] z f 0 0 post := by
  refine Y.intro gX6_behind (lv := [(0, .ref 59), (1, .int a), (2, .int b)]) rfl (Nat.le_of_ble_eq_true rfl) ?_
  obtain ⟨b1, b2, b3, b4, b5, b6, b7, b8, b9⟩ := id hA
  by_cases d1 : q_in (g_n (a_g A)) a
  · obtain ⟨k, hk, hk2, rfl, hcl⟩ := q_in_k d1
    by_cases d2 : q_in (g_n (a_g A)) b
    · obtain ⟨j, hj, hj2, rfl, hcl2⟩ := q_in_k d2
      have hn9 := ho.1.1
      rw [show s_behind A (nI k) (nI j) = _ from if_pos ⟨d1, d2⟩, hcl, hcl2] at h
      refine x_aload_n (pc' := 1) rfl rfl rfl ?_
      refine x_iload_n (pc' := 2) rfl rfl rfl ?_
      refine x_cV1i (d := 2) (pc' := 5) rfl rfl sX6_103 gX6_isBowl (hM.1) ⟨Nat.le_of_ble_eq_true rfl, Nat.le_of_ble_eq_true rfl⟩ (Nat.le_of_ble_eq_true rfl) ⟨Nat.le_of_ble_eq_true rfl, Nat.le_of_ble_eq_true rfl⟩ ?_
      refine r_bowl hM hA ho (fun _ => ⟨_, rfl, ?_⟩) (fun q => absurd d1 q)
      refine x_if_eq (tgt := 16) (pc' := 8) rfl rfl rfl (fun c5 => absurd c5 ((by decide))) (fun _ => ?_)
      refine x_aload_n (pc' := 9) rfl rfl rfl ?_
      refine x_iload_n (pc' := 10) rfl rfl rfl ?_
      refine x_cV1i (d := 2) (pc' := 13) rfl rfl sX6_103 gX6_isBowl (hM.1) ⟨Nat.le_of_ble_eq_true rfl, Nat.le_of_ble_eq_true rfl⟩ (Nat.le_of_ble_eq_true rfl) ⟨Nat.le_of_ble_eq_true rfl, Nat.le_of_ble_eq_true rfl⟩ ?_
      refine r_bowl hM hA ho (fun _ => ⟨_, rfl, ?_⟩) (fun q => absurd d2 q)
      refine x_if_ne (tgt := 22) (pc' := 16) rfl rfl rfl (fun _ => ?_) (fun c13 => absurd c13 ((by decide)))
      refine x_aload_n (pc' := 23) rfl rfl rfl ?_
      refine x_iload_n (pc' := 24) rfl rfl rfl ?_
      refine x_cV1i (d := 3) (pc' := 27) rfl rfl sX6_135 gX6_canMove (hM.1) ⟨Nat.le_of_ble_eq_true rfl, Nat.le_of_ble_eq_true rfl⟩ (Nat.le_of_ble_eq_true rfl) ⟨Nat.le_of_ble_eq_true rfl, Nat.le_of_ble_eq_true rfl⟩ ?_
      refine m_can1 hM b1 ho.1 (by decide) hk2 (fun d2 => ⟨_, rfl, ?_⟩) (fun d2 => ⟨_, rfl, ?_⟩)
      · rw [if_pos ⟨d2.1, d2.2.2⟩] at h
        refine x_if_ne (tgt := 37) (pc' := 30) rfl rfl rfl (fun _ => ?_) (fun c27 => absurd c27 ((by decide)))
        refine x_aload_n (pc' := 38) rfl rfl rfl ?_
        refine x_iconst (pc' := 39) rfl rfl iconst_0 ?_
        refine x_cV1v (d := 1) (pc' := 42) rfl rfl sX6_154 gX6_keeps (hM.1) ⟨Nat.le_of_ble_eq_true rfl, Nat.le_of_ble_eq_true rfl⟩ (Nat.le_of_ble_eq_true rfl) ⟨Nat.le_of_ble_eq_true rfl, Nat.le_of_ble_eq_true rfl⟩ ?_
        refine m_keeps (l := 0) (by decide) hM b1 (fun f1 M1 hM1 g1 k1 fr1 hF1 => ⟨rfl, ?_⟩)
        refine x_aload_n (pc' := 43) rfl rfl rfl ?_
        refine x_iload_n (pc' := 44) rfl rfl rfl ?_
        refine x_cV1v (d := 4) (pc' := 47) rfl rfl sX6_141 gX6_moves (hM1.1) ⟨Nat.le_of_ble_eq_true rfl, Nat.le_of_ble_eq_true rfl⟩ (Nat.le_of_ble_eq_true rfl) ⟨Nat.le_of_ble_eq_true rfl, Nat.le_of_ble_eq_true rfl⟩ ?_
        refine m_mv hM1 g1 ho.1 (by decide) d2 (by rw [k1.1]; exact b3) (fun f2 M2 hM2 g2 k2 e14 e15 e16 e17 hF2 => ⟨rfl, ?_⟩)
        refine x_aload_n (pc' := 48) rfl rfl rfl ?_
        refine x_get (pc' := 51) rfl rfl rfl (hM2.1) rfl ?_
        refine x_iload_n (pc' := 52) rfl rfl rfl ?_
        refine x_iaload (pc' := 53) rfl rfl (hM2.2.1 1 (by decide)) (vp_in_nI (n := j) (N := 9) (by omega) (by decide)) ?_
        refine x_eqi (show M2.2.1 1 (nI j).toNatClampNeg = nI (g_β (g_mv (a_g A) k) j) from by rw [hcl2, g2.2.1]) ?_
        refine x_istore_n (pc' := 54) (lv' := [(3, _), (0, _), (1, _), (2, _)]) rfl rfl (Nat.le_of_ble_eq_true rfl) rfl ?_
        refine x_aload_n (pc' := 55) rfl rfl rfl ?_
        refine x_iconst (pc' := 56) rfl rfl iconst_0 ?_
        refine x_cV1v (d := 1) (pc' := 59) rfl rfl sX6_160 gX6_lays (hM2.1) ⟨Nat.le_of_ble_eq_true rfl, Nat.le_of_ble_eq_true rfl⟩ (Nat.le_of_ble_eq_true rfl) ⟨Nat.le_of_ble_eq_true rfl, Nat.le_of_ble_eq_true rfl⟩ ?_
        refine m_lays (l := 0) (g := a_g A) (by decide) hM2 g2 (fr1.eq (k2.1 6 (by decide) (by decide))) ho.1 (g_mv_ok ho.1 (by decide) (by decide) d2.2.1) (fun f3 M3 hM3 g3 e1 e2 e3 hF3 => ⟨rfl, ?_⟩)
        have hA3 : r_is M3 A := hA.sc ((k1.sc.trans k2.sc).trans (m_ly.sc e1 e2)) g3
        have hF := (hF1.trans hF2).trans hF3
        refine x_iload_n (pc' := 60) rfl rfl rfl ?_
        exact x_ireturn rfl rfl rfl (Nat.le_of_ble_eq_true rfl) (Nat.le_of_ble_eq_true rfl) (h _ _ hM3 hA3 hF)
      · rw [if_neg (fun q => d2 ⟨q.1, hk, q.2⟩)] at h
        refine x_if_ne (tgt := 37) (pc' := 30) rfl rfl rfl (fun c27 => absurd (rfl) c27) (fun _ => ?_)
        refine x_aload_n (pc' := 31) rfl rfl rfl ?_
        refine x_bipush (pc' := 33) rfl rfl bipush_m3 ?_
        refine x_cV1i (d := 1) (pc' := 36) rfl rfl sX6_110 gX6_refuse (hM.1) ⟨Nat.le_of_ble_eq_true rfl, Nat.le_of_ble_eq_true rfl⟩ (Nat.le_of_ble_eq_true rfl) ⟨Nat.le_of_ble_eq_true rfl, Nat.le_of_ble_eq_true rfl⟩ ?_
        refine r_refuse (k := 2) (by decide) (by decide) hM hA (fun f1 M1 hM1 hA1 hF1 => ⟨_, rfl, ?_⟩)
        exact x_ireturn rfl rfl rfl (Nat.le_of_ble_eq_true rfl) (Nat.le_of_ble_eq_true rfl) (h _ _ hM1 hA1 hF1)
    · rw [show s_behind A (nI k) b = _ from if_neg (fun q => d2 q.2)] at h
      refine x_aload_n (pc' := 1) rfl rfl rfl ?_
      refine x_iload_n (pc' := 2) rfl rfl rfl ?_
      refine x_cV1i (d := 2) (pc' := 5) rfl rfl sX6_103 gX6_isBowl (hM.1) ⟨Nat.le_of_ble_eq_true rfl, Nat.le_of_ble_eq_true rfl⟩ (Nat.le_of_ble_eq_true rfl) ⟨Nat.le_of_ble_eq_true rfl, Nat.le_of_ble_eq_true rfl⟩ ?_
      refine r_bowl hM hA ho (fun _ => ⟨_, rfl, ?_⟩) (fun q => absurd d1 q)
      refine x_if_eq (tgt := 16) (pc' := 8) rfl rfl rfl (fun c5 => absurd c5 ((by decide))) (fun _ => ?_)
      refine x_aload_n (pc' := 9) rfl rfl rfl ?_
      refine x_iload_n (pc' := 10) rfl rfl rfl ?_
      refine x_cV1i (d := 2) (pc' := 13) rfl rfl sX6_103 gX6_isBowl (hM.1) ⟨Nat.le_of_ble_eq_true rfl, Nat.le_of_ble_eq_true rfl⟩ (Nat.le_of_ble_eq_true rfl) ⟨Nat.le_of_ble_eq_true rfl, Nat.le_of_ble_eq_true rfl⟩ ?_
      refine r_bowl hM hA ho (fun q => absurd q d2) (fun _ => ⟨_, rfl, ?_⟩)
      refine x_if_ne (tgt := 22) (pc' := 16) rfl rfl rfl (fun c13 => absurd (rfl) c13) (fun _ => ?_)
      refine x_aload_n (pc' := 17) rfl rfl rfl ?_
      refine x_iconst (pc' := 18) rfl rfl iconst_m1 ?_
      refine x_cV1i (d := 1) (pc' := 21) rfl rfl sX6_110 gX6_refuse (hM.1) ⟨Nat.le_of_ble_eq_true rfl, Nat.le_of_ble_eq_true rfl⟩ (Nat.le_of_ble_eq_true rfl) ⟨Nat.le_of_ble_eq_true rfl, Nat.le_of_ble_eq_true rfl⟩ ?_
      refine r_refuse (k := 0) (by decide) (by decide) hM hA (fun f1 M1 hM1 hA1 hF1 => ⟨_, rfl, ?_⟩)
      exact x_ireturn rfl rfl rfl (Nat.le_of_ble_eq_true rfl) (Nat.le_of_ble_eq_true rfl) (h _ _ hM1 hA1 hF1)
  · rw [show s_behind A a b = _ from if_neg (fun q => d1 q.1)] at h
    refine x_aload_n (pc' := 1) rfl rfl rfl ?_
    refine x_iload_n (pc' := 2) rfl rfl rfl ?_
    refine x_cV1i (d := 2) (pc' := 5) rfl rfl sX6_103 gX6_isBowl (hM.1) ⟨Nat.le_of_ble_eq_true rfl, Nat.le_of_ble_eq_true rfl⟩ (Nat.le_of_ble_eq_true rfl) ⟨Nat.le_of_ble_eq_true rfl, Nat.le_of_ble_eq_true rfl⟩ ?_
    refine r_bowl hM hA ho (fun q => absurd q d1) (fun _ => ⟨_, rfl, ?_⟩)
    refine x_if_eq (tgt := 16) (pc' := 8) rfl rfl rfl (fun _ => ?_) (fun c5 => absurd (rfl) c5)
    refine x_aload_n (pc' := 17) rfl rfl rfl ?_
    refine x_iconst (pc' := 18) rfl rfl iconst_m1 ?_
    refine x_cV1i (d := 1) (pc' := 21) rfl rfl sX6_110 gX6_refuse (hM.1) ⟨Nat.le_of_ble_eq_true rfl, Nat.le_of_ble_eq_true rfl⟩ (Nat.le_of_ble_eq_true rfl) ⟨Nat.le_of_ble_eq_true rfl, Nat.le_of_ble_eq_true rfl⟩ ?_
    refine r_refuse (k := 0) (by decide) (by decide) hM hA (fun f1 M1 hM1 hA1 hF1 => ⟨_, rfl, ?_⟩)
    exact x_ireturn rfl rfl rfl (Nat.le_of_ble_eq_true rfl) (Nat.le_of_ble_eq_true rfl) (h _ _ hM1 hA1 hF1)
theorem r_emptiesL {n : Nat} {β : Nat → Nat} (hM : x_Mdl z f M) (hn : M.1 3 = nI n) (hn9 : n ≤ 9) (hβ : M.2.1 1 = fun i => nI (β i)) (hβ5 : ∀ i, β i ≤ 100) (K : X E (x_rm 9 0 0) mX6_empties (x_QM E z 0 0 post) 76 [(3, .int (nI n)), (2, .int (q_bits β n)), (0, .ref 59), (1, .int a)] [] z f 0 0) : ∀ (k i : Nat), i + k = n → X E (x_rm 9 0 0) mX6_empties (x_QM E z 0 0 post) 43 [(3, .int (nI i)), (2, .int (q_bits β i)), (0, .ref 59), (1, .int a)] [] z f 0 0 := by
  intro k
  induction k with
  | zero =>
    intro i hi
    have hi2 : i = n := by omega
    subst hi2
    refine x_iload_n (pc' := 44) rfl rfl rfl ?_
    refine x_aload_n (pc' := 45) rfl rfl rfl ?_
    refine x_get (pc' := 48) rfl rfl rfl (hM.1) rfl ?_
    refine x_eqi hn ?_
    refine x_icmp_ge (tgt := 76) (pc' := 51) rfl rfl rfl (fun _ => ?_) (fun c48 => absurd ((Int32.le_refl _)) c48)
    exact K
  | succ k ih =>
    intro i hi
    have hb := hβ5 i
    have e1 : q_bits β (i + 1) = if β i = 0 then q_bits β i ||| ((1 : Int32) <<< (nI i &&& 31)) else q_bits β i := rfl
    have h9 := ih (i + 1) (by omega)
    refine x_iload_n (pc' := 44) rfl rfl rfl ?_
    refine x_aload_n (pc' := 45) rfl rfl rfl ?_
    refine x_get (pc' := 48) rfl rfl rfl (hM.1) rfl ?_
    refine x_eqi hn ?_
    refine x_icmp_ge (tgt := 76) (pc' := 51) rfl rfl rfl (fun c48 => absurd c48 ((nI_ge (by omega) (by omega)))) (fun _ => ?_)
    refine x_iload_n (pc' := 52) rfl rfl rfl ?_
    refine x_aload_n (pc' := 53) rfl rfl rfl ?_
    refine x_get (pc' := 56) rfl rfl rfl (hM.1) rfl ?_
    refine x_iload_n (pc' := 57) rfl rfl rfl ?_
    refine x_iaload (pc' := 58) rfl rfl (hM.2.1 1 (by decide)) (vp_in_nI (n := i) (N := 9) (by omega) (by decide)) ?_
    refine x_eqi (show M.2.1 1 (nI i).toNatClampNeg = nI (β i) from by rw [nI_clamp (by omega), hβ]) ?_
    by_cases d : β i = 0
    · rw [if_pos d] at e1
      refine x_if_ne (tgt := 65) (pc' := 61) rfl rfl rfl (fun q => absurd (show nI (β i) = 0 by rw [d]; rfl) q) (fun _ => ?_)
      refine x_iconst (pc' := 62) rfl rfl iconst_1 ?_
      refine x_goto (tgt := 66) rfl rfl ?_
      refine x_iload_n (pc' := 67) rfl rfl rfl ?_
      refine x_ishl (pc' := 68) rfl rfl ?_
      refine x_ior (pc' := 69) rfl rfl ?_
      refine x_istore_n (pc' := 70) (lv' := [(2, _), (3, _), (0, _), (1, _)]) rfl rfl (Nat.le_of_ble_eq_true rfl) rfl ?_
      refine x_iinc (pc' := 73) (lv' := [(3, _), (2, _), (0, _), (1, _)]) rfl rfl (Nat.le_of_ble_eq_true rfl) rfl (nI_1 i) rfl ?_
      refine x_goto (tgt := 43) rfl rfl ?_
      rw [e1] at h9
      exact h9
    · rw [if_neg d] at e1
      refine x_if_ne (tgt := 65) (pc' := 61) rfl rfl rfl (fun _ => ?_) (fun q => absurd q (nI_ne0 (by omega) (by omega)))
      refine x_iconst (pc' := 66) rfl rfl iconst_0 ?_
      refine x_iload_n (pc' := 67) rfl rfl rfl ?_
      refine x_ishl (pc' := 68) rfl rfl ?_
      refine x_ior (pc' := 69) rfl rfl ?_
      refine x_eqi (show q_bits β i ||| ((0 : Int32) <<< (nI i &&& 31)) = q_bits β i from by rw [Int32.zero_shiftLeft, Int32.or_zero]) ?_
      refine x_istore_n (pc' := 70) (lv' := [(2, _), (3, _), (0, _), (1, _)]) rfl rfl (Nat.le_of_ble_eq_true rfl) rfl ?_
      refine x_iinc (pc' := 73) (lv' := [(3, _), (2, _), (0, _), (1, _)]) rfl rfl (Nat.le_of_ble_eq_true rfl) rfl (nI_1 i) rfl ?_
      refine x_goto (tgt := 43) rfl rfl ?_
      rw [e1] at h9
      exact h9
theorem r_empties (hM : x_Mdl z f M) (hA : r_is M A) (ho : a_ok A) (h : r_ends z f post (s_empties A a)) : Y E 9 mX6_empties [.ref 59, .int a] z f 0 0 post := by
  refine Y.intro gX6_empties (lv := [(0, .ref 59), (1, .int a)]) rfl (Nat.le_of_ble_eq_true rfl) ?_
  obtain ⟨b1, b2, b3, b4, b5, b6, b7, b8, b9⟩ := id hA
  by_cases d1 : q_in (g_n (a_g A)) a
  · obtain ⟨k, hk, hk2, rfl, hcl⟩ := q_in_k d1
    rw [show s_empties A (nI k) = _ from if_pos d1, hcl] at h
    refine x_aload_n (pc' := 1) rfl rfl rfl ?_
    refine x_iload_n (pc' := 2) rfl rfl rfl ?_
    refine x_cV1i (d := 2) (pc' := 5) rfl rfl sX6_103 gX6_isBowl (hM.1) ⟨Nat.le_of_ble_eq_true rfl, Nat.le_of_ble_eq_true rfl⟩ (Nat.le_of_ble_eq_true rfl) ⟨Nat.le_of_ble_eq_true rfl, Nat.le_of_ble_eq_true rfl⟩ ?_
    refine r_bowl hM hA ho (fun _ => ⟨_, rfl, ?_⟩) (fun q => absurd d1 q)
    refine x_if_ne (tgt := 14) (pc' := 8) rfl rfl rfl (fun _ => ?_) (fun c5 => absurd c5 ((by decide)))
    refine x_aload_n (pc' := 15) rfl rfl rfl ?_
    refine x_iload_n (pc' := 16) rfl rfl rfl ?_
    refine x_cV1i (d := 3) (pc' := 19) rfl rfl sX6_135 gX6_canMove (hM.1) ⟨Nat.le_of_ble_eq_true rfl, Nat.le_of_ble_eq_true rfl⟩ (Nat.le_of_ble_eq_true rfl) ⟨Nat.le_of_ble_eq_true rfl, Nat.le_of_ble_eq_true rfl⟩ ?_
    refine m_can1 hM b1 ho.1 (by decide) hk2 (fun d2 => ⟨_, rfl, ?_⟩) (fun d2 => ⟨_, rfl, ?_⟩)
    · rw [if_pos ⟨d2.1, d2.2.2⟩] at h
      refine x_if_ne (tgt := 29) (pc' := 22) rfl rfl rfl (fun _ => ?_) (fun c19 => absurd c19 ((by decide)))
      refine x_aload_n (pc' := 30) rfl rfl rfl ?_
      refine x_iconst (pc' := 31) rfl rfl iconst_0 ?_
      refine x_cV1v (d := 1) (pc' := 34) rfl rfl sX6_154 gX6_keeps (hM.1) ⟨Nat.le_of_ble_eq_true rfl, Nat.le_of_ble_eq_true rfl⟩ (Nat.le_of_ble_eq_true rfl) ⟨Nat.le_of_ble_eq_true rfl, Nat.le_of_ble_eq_true rfl⟩ ?_
      refine m_keeps (l := 0) (by decide) hM b1 (fun f1 M1 hM1 g1 k1 fr1 hF1 => ⟨rfl, ?_⟩)
      refine x_aload_n (pc' := 35) rfl rfl rfl ?_
      refine x_iload_n (pc' := 36) rfl rfl rfl ?_
      refine x_cV1v (d := 4) (pc' := 39) rfl rfl sX6_141 gX6_moves (hM1.1) ⟨Nat.le_of_ble_eq_true rfl, Nat.le_of_ble_eq_true rfl⟩ (Nat.le_of_ble_eq_true rfl) ⟨Nat.le_of_ble_eq_true rfl, Nat.le_of_ble_eq_true rfl⟩ ?_
      refine m_mv hM1 g1 ho.1 (by decide) d2 (by rw [k1.1]; exact b3) (fun f2 M2 hM2 g2 k2 e14 e15 e16 e17 hF2 => ⟨rfl, ?_⟩)
      refine x_iconst (pc' := 40) rfl rfl iconst_0 ?_
      refine x_istore_n (pc' := 41) (lv' := [(2, _), (0, _), (1, _)]) rfl rfl (Nat.le_of_ble_eq_true rfl) rfl ?_
      refine x_iconst (pc' := 42) rfl rfl iconst_0 ?_
      refine x_istore_n (pc' := 43) (lv' := [(3, _), (2, _), (0, _), (1, _)]) rfl rfl (Nat.le_of_ble_eq_true rfl) rfl ?_
      refine r_emptiesL (n := g_n (a_g A)) (β := g_β (g_mv (a_g A) k)) hM2 g2.2.2.2.1 ho.1.1 g2.2.1 (fun i => (g_mv_ok (ho.1.mono (by decide : 99 ≤ 100)) (by decide) (by decide) d2.2.1).2.2.2.2.2.1 i) ?_ (g_n (a_g A)) 0 (by omega)
      refine x_aload_n (pc' := 77) rfl rfl rfl ?_
      refine x_iconst (pc' := 78) rfl rfl iconst_0 ?_
      refine x_cV1v (d := 1) (pc' := 81) rfl rfl sX6_160 gX6_lays (hM2.1) ⟨Nat.le_of_ble_eq_true rfl, Nat.le_of_ble_eq_true rfl⟩ (Nat.le_of_ble_eq_true rfl) ⟨Nat.le_of_ble_eq_true rfl, Nat.le_of_ble_eq_true rfl⟩ ?_
      refine m_lays (l := 0) (g := a_g A) (by decide) hM2 g2 (fr1.eq (k2.1 6 (by decide) (by decide))) ho.1 (g_mv_ok ho.1 (by decide) (by decide) d2.2.1) (fun f3 M3 hM3 g3 e1 e2 e3 hF3 => ⟨rfl, ?_⟩)
      have hA3 : r_is M3 A := hA.sc ((k1.sc.trans k2.sc).trans (m_ly.sc e1 e2)) g3
      have hF := (hF1.trans hF2).trans hF3
      refine x_iload_n (pc' := 82) rfl rfl rfl ?_
      exact x_ireturn rfl rfl rfl (Nat.le_of_ble_eq_true rfl) (Nat.le_of_ble_eq_true rfl) (h _ _ hM3 hA3 hF)
    · rw [if_neg (fun q => d2 ⟨q.1, hk, q.2⟩)] at h
      refine x_if_ne (tgt := 29) (pc' := 22) rfl rfl rfl (fun c19 => absurd (rfl) c19) (fun _ => ?_)
      refine x_aload_n (pc' := 23) rfl rfl rfl ?_
      refine x_bipush (pc' := 25) rfl rfl bipush_m3 ?_
      refine x_cV1i (d := 1) (pc' := 28) rfl rfl sX6_110 gX6_refuse (hM.1) ⟨Nat.le_of_ble_eq_true rfl, Nat.le_of_ble_eq_true rfl⟩ (Nat.le_of_ble_eq_true rfl) ⟨Nat.le_of_ble_eq_true rfl, Nat.le_of_ble_eq_true rfl⟩ ?_
      refine r_refuse (k := 2) (by decide) (by decide) hM hA (fun f1 M1 hM1 hA1 hF1 => ⟨_, rfl, ?_⟩)
      exact x_ireturn rfl rfl rfl (Nat.le_of_ble_eq_true rfl) (Nat.le_of_ble_eq_true rfl) (h _ _ hM1 hA1 hF1)
  · rw [show s_empties A a = _ from if_neg d1] at h
    refine x_aload_n (pc' := 1) rfl rfl rfl ?_
    refine x_iload_n (pc' := 2) rfl rfl rfl ?_
    refine x_cV1i (d := 2) (pc' := 5) rfl rfl sX6_103 gX6_isBowl (hM.1) ⟨Nat.le_of_ble_eq_true rfl, Nat.le_of_ble_eq_true rfl⟩ (Nat.le_of_ble_eq_true rfl) ⟨Nat.le_of_ble_eq_true rfl, Nat.le_of_ble_eq_true rfl⟩ ?_
    refine r_bowl hM hA ho (fun q => absurd q d1) (fun _ => ⟨_, rfl, ?_⟩)
    refine x_if_ne (tgt := 14) (pc' := 8) rfl rfl rfl (fun c5 => absurd (rfl) c5) (fun _ => ?_)
    refine x_aload_n (pc' := 9) rfl rfl rfl ?_
    refine x_iconst (pc' := 10) rfl rfl iconst_m1 ?_
    refine x_cV1i (d := 1) (pc' := 13) rfl rfl sX6_110 gX6_refuse (hM.1) ⟨Nat.le_of_ble_eq_true rfl, Nat.le_of_ble_eq_true rfl⟩ (Nat.le_of_ble_eq_true rfl) ⟨Nat.le_of_ble_eq_true rfl, Nat.le_of_ble_eq_true rfl⟩ ?_
    refine r_refuse (k := 0) (by decide) (by decide) hM hA (fun f1 M1 hM1 hA1 hF1 => ⟨_, rfl, ?_⟩)
    exact x_ireturn rfl rfl rfl (Nat.le_of_ble_eq_true rfl) (Nat.le_of_ble_eq_true rfl) (h _ _ hM1 hA1 hF1)
theorem r_lostL (hM : x_Mdl z f M) (hA : r_is M A) (ho : a_ok A) (h : r_ends z f post (s_lost A)) : ∀ (k i : Nat), i + k = g_n (a_g A) → (∀ j, j < i → ¬ g_can (a_g A) j) → X E (x_rm 9 0 0) mX6_lost (x_QM E z 0 0 post) 2 [(1, .int (nI i)), (0, .ref 59)] [] z f 0 0 := by
  have hn9 := ho.1.1
  have hn := hA.1.2.2.2.1
  intro k
  induction k with
  | zero =>
    intro i hi hj
    rw [show s_lost A = (A, 1) from by unfold s_lost; rw [if_pos (fun j hj2 => hj j (by omega))]] at h
    refine x_iload_n (pc' := 3) rfl rfl rfl ?_
    refine x_aload_n (pc' := 4) rfl rfl rfl ?_
    refine x_get (pc' := 7) rfl rfl rfl (hM.1) rfl ?_
    refine x_eqi hn ?_
    refine x_icmp_ge (tgt := 26) (pc' := 10) rfl rfl rfl (fun _ => ?_) (fun c7 => absurd ((nI_le (by omega) (by omega))) c7)
    refine x_iconst (pc' := 27) rfl rfl iconst_1 ?_
    exact x_ireturn rfl rfl rfl (Nat.le_of_ble_eq_true rfl) (Nat.le_of_ble_eq_true rfl) (h _ _ hM hA x_fr.rf)
  | succ k ih =>
    intro i hi hj
    refine x_iload_n (pc' := 3) rfl rfl rfl ?_
    refine x_aload_n (pc' := 4) rfl rfl rfl ?_
    refine x_get (pc' := 7) rfl rfl rfl (hM.1) rfl ?_
    refine x_eqi hn ?_
    refine x_icmp_ge (tgt := 26) (pc' := 10) rfl rfl rfl (fun c7 => absurd c7 ((nI_ge (by omega) (by omega)))) (fun _ => ?_)
    refine x_aload_n (pc' := 11) rfl rfl rfl ?_
    refine x_iload_n (pc' := 12) rfl rfl rfl ?_
    refine x_cV1i (d := 3) (pc' := 15) rfl rfl sX6_135 gX6_canMove (hM.1) ⟨Nat.le_of_ble_eq_true rfl, Nat.le_of_ble_eq_true rfl⟩ (Nat.le_of_ble_eq_true rfl) ⟨Nat.le_of_ble_eq_true rfl, Nat.le_of_ble_eq_true rfl⟩ ?_
    refine m_can1 hM hA.1 ho.1 (by decide) (by omega) (fun d2 => ⟨_, rfl, ?_⟩) (fun d2 => ⟨_, rfl, ?_⟩)
    · rw [show s_lost A = (A, 0) from by unfold s_lost; rw [if_neg (fun q => q i (by omega) d2)]] at h
      refine x_if_eq (tgt := 20) (pc' := 18) rfl rfl rfl (fun c15 => absurd c15 ((by decide))) (fun _ => ?_)
      refine x_iconst (pc' := 19) rfl rfl iconst_0 ?_
      exact x_ireturn rfl rfl rfl (Nat.le_of_ble_eq_true rfl) (Nat.le_of_ble_eq_true rfl) (h _ _ hM hA x_fr.rf)
    · refine x_if_eq (tgt := 20) (pc' := 18) rfl rfl rfl (fun _ => ?_) (fun c15 => absurd (rfl) c15)
      refine x_iinc (pc' := 23) (lv' := [(1, _), (0, _)]) rfl rfl (Nat.le_of_ble_eq_true rfl) rfl (nI_1 i) rfl ?_
      refine x_goto (tgt := 2) rfl rfl ?_
      refine ih (i + 1) (by omega) (fun j hj2 => ?_)
      by_cases h9 : j = i
      · rw [h9]
        exact d2
      · exact hj j (by omega)
theorem r_lost (hM : x_Mdl z f M) (hA : r_is M A) (ho : a_ok A) (h : r_ends z f post (s_lost A)) : Y E 9 mX6_lost [.ref 59] z f 0 0 post := by
  refine Y.intro gX6_lost (lv := [(0, .ref 59)]) rfl (Nat.le_of_ble_eq_true rfl) ?_
  refine x_iconst (pc' := 1) rfl rfl iconst_0 ?_
  refine x_istore_n (pc' := 2) (lv' := [(1, _), (0, _)]) rfl rfl (Nat.le_of_ble_eq_true rfl) rfl ?_
  exact r_lostL hM hA ho h (g_n (a_g A)) 0 (by omega) (fun j hj => absurd hj (Nat.not_lt_zero j))
theorem c_lostM (hS : x_Sys z f S) (hA : c_is S A) (ho : a_ok A) (h : c_ends z f post (s_lost A)) : ∀ (k i : Nat), i + k = g_n (a_g A) → (∀ j, j < i → ¬ g_can (a_g A) j) → X E (x_rm 9 0 0) mX5_lost (x_QM E z 0 0 post) 2 [(1, .int (nI i)), (0, .ref 0)] [] z f 0 0 := by
  have hn9 := ho.1.1
  have hT := hS.2.1 0 (by decide)
  intro k
  induction k with
  | zero =>
    intro i hi hj
    rw [show s_lost A = (A, 1) from by unfold s_lost; rw [if_pos (fun j hj2 => hj j (by omega))]] at h
    refine x_iload_n (pc' := 3) rfl rfl rfl ?_
    refine x_aload_n (pc' := 4) rfl rfl rfl ?_
    refine x_get (pc' := 7) rfl rfl rfl (hS.1) rfl ?_
    refine x_get (pc' := 10) rfl rfl rfl (hT.1) rfl ?_
    refine x_icmp_ge (tgt := 32) (pc' := 13) rfl rfl rfl (fun _ => ?_) (fun c10 => absurd ((by rw [hA.1.2.2.2.1]; exact nI_le (by omega) (by omega))) c10)
    refine x_iconst (pc' := 33) rfl rfl iconst_1 ?_
    exact x_ireturn rfl rfl rfl (Nat.le_of_ble_eq_true rfl) (Nat.le_of_ble_eq_true rfl) (h _ _ hS hA x_fr.rf)
  | succ k ih =>
    intro i hi hj
    refine x_iload_n (pc' := 3) rfl rfl rfl ?_
    refine x_aload_n (pc' := 4) rfl rfl rfl ?_
    refine x_get (pc' := 7) rfl rfl rfl (hS.1) rfl ?_
    refine x_get (pc' := 10) rfl rfl rfl (hT.1) rfl ?_
    refine x_icmp_ge (tgt := 32) (pc' := 13) rfl rfl rfl (fun c10 => absurd c10 ((by rw [hA.1.2.2.2.1]; exact Int32.not_le.mpr (nI_lt (by omega) (by omega))))) (fun _ => ?_)
    refine x_aload_n (pc' := 14) rfl rfl rfl ?_
    refine x_get (pc' := 17) rfl rfl rfl (hS.1) rfl ?_
    refine x_iload_n (pc' := 18) rfl rfl rfl ?_
    refine x_cV1i (d := 2) (pc' := 21) rfl rfl sX5_118 gX3_canMove (hT.1) ⟨Nat.le_of_ble_eq_true rfl, Nat.le_of_ble_eq_true rfl⟩ (Nat.le_of_ble_eq_true rfl) ⟨Nat.le_of_ble_eq_true rfl, Nat.le_of_ble_eq_true rfl⟩ ?_
    refine w_can hT hA.1 ho.1 (by decide) (by omega) (fun d2 => ⟨_, rfl, ?_⟩) (fun d2 => ⟨_, rfl, ?_⟩)
    · rw [show s_lost A = (A, 0) from by unfold s_lost; rw [if_neg (fun q => q i (by omega) d2)]] at h
      refine x_if_eq (tgt := 26) (pc' := 24) rfl rfl rfl (fun c21 => absurd c21 ((by decide))) (fun _ => ?_)
      refine x_iconst (pc' := 25) rfl rfl iconst_0 ?_
      exact x_ireturn rfl rfl rfl (Nat.le_of_ble_eq_true rfl) (Nat.le_of_ble_eq_true rfl) (h _ _ hS hA x_fr.rf)
    · refine x_if_eq (tgt := 26) (pc' := 24) rfl rfl rfl (fun _ => ?_) (fun c21 => absurd (rfl) c21)
      refine x_iinc (pc' := 29) (lv' := [(1, _), (0, _)]) rfl rfl (Nat.le_of_ble_eq_true rfl) rfl (nI_1 i) rfl ?_
      refine x_goto (tgt := 2) rfl rfl ?_
      refine ih (i + 1) (by omega) (fun j hj2 => ?_)
      by_cases h9 : j = i
      · rw [h9]
        exact d2
      · exact hj j (by omega)
theorem c_lostS (hS : x_Sys z f S) (hA : c_is S A) (ho : a_ok A) (h : c_ends z f post (s_lost A)) : Y E 9 mX5_lost [.ref 0] z f 0 0 post := by
  refine Y.intro gX5_lost (lv := [(0, .ref 0)]) rfl (Nat.le_of_ble_eq_true rfl) ?_
  refine x_iconst (pc' := 1) rfl rfl iconst_0 ?_
  refine x_istore_n (pc' := 2) (lv' := [(1, _), (0, _)]) rfl rfl (Nat.le_of_ble_eq_true rfl) rfl ?_
  exact c_lostM hS hA ho h (g_n (a_g A)) 0 (by omega) (fun j hj => absurd hj (Nat.not_lt_zero j))
-- the row
theorem m_playL (ho : a_ok A) (f0 : x_H) (M0 : x_N) (hA : r_is M0 A) (h : ∀ (f' : x_H) (M' : x_N), x_Mdl z f' M' → m_is M' (a_plays A).2 → m_kp M0 M' → x_fr (fun q => q < 59) f0 f' → post (some (.int (nI (a_plays A).1))) f') : ∀ (k i : Nat) (g : q_G) (f : x_H) (M : x_N), i + k = a_rc A → g_ok 99 g → q_plays (a_rf A) k i g = a_plays A → x_Mdl z f M → m_is M g → m_kp M0 M → x_fr (fun q => q < 59) f0 f → X E (x_rm 5 0 0) mX6_plays (x_QM E z 0 0 post) 2 [(1, .int (nI i)), (0, .ref 59)] [] z f 0 0 := by
  have hrc := ho.2.2.2.2.2.1
  obtain ⟨b1, b2, b3, b4, b5, b6, b7, b8, b9⟩ := id hA
  intro k
  induction k with
  | zero =>
    intro i g f M hi hg he hM hm hk hF
    rw [← he] at h
    have e7 : M.1 13 = nI (a_rc A) := (hk.sc.1 13 (by omega)).trans b7
    refine x_iload_n (pc' := 3) rfl rfl rfl ?_
    refine x_aload_n (pc' := 4) rfl rfl rfl ?_
    refine x_get (pc' := 7) rfl rfl rfl (hM.1) rfl ?_
    refine x_eqi e7 ?_
    refine x_icmp_ge (tgt := 39) (pc' := 10) rfl rfl rfl (fun _ => ?_) (fun c7 => absurd ((nI_le (by omega) (by omega))) c7)
    refine x_iload_n (pc' := 40) rfl rfl rfl ?_
    exact x_ireturn rfl rfl rfl (Nat.le_of_ble_eq_true rfl) (Nat.le_of_ble_eq_true rfl) (h _ _ hM hm hk hF)
  | succ k ih =>
    intro i g f M hi hg he hM hm hk hF
    have e7 : M.1 13 = nI (a_rc A) := (hk.sc.1 13 (by omega)).trans b7
    have e8 : M.2.1 5 (nI i).toNatClampNeg = nI (a_rf A i) := by rw [nI_clamp (by omega), (hk.sc.2 5 (by omega)).trans b8]
    have hr9 := ho.2.2.2.2.2.2 i
    have hv : vp_in (nI i) 12 := vp_in_nI (by omega) (by decide)
    replace he : (if g_can g (a_rf A i) then q_plays (a_rf A) k (i + 1) (g_mv g (a_rf A i)) else (i, g)) = a_plays A := he
    refine x_iload_n (pc' := 3) rfl rfl rfl ?_
    refine x_aload_n (pc' := 4) rfl rfl rfl ?_
    refine x_get (pc' := 7) rfl rfl rfl (hM.1) rfl ?_
    refine x_eqi e7 ?_
    refine x_icmp_ge (tgt := 39) (pc' := 10) rfl rfl rfl (fun c7 => absurd c7 ((nI_ge (by omega) (by omega)))) (fun _ => ?_)
    refine x_aload_n (pc' := 11) rfl rfl rfl ?_
    refine x_aload_n (pc' := 12) rfl rfl rfl ?_
    refine x_get (pc' := 15) rfl rfl rfl (hM.1) rfl ?_
    refine x_iload_n (pc' := 16) rfl rfl rfl ?_
    refine x_iaload (pc' := 17) rfl rfl (hM.2.1 5 (by decide)) (hv) ?_
    refine x_eqi e8 ?_
    refine x_cV1i (d := 3) (pc' := 20) rfl rfl sX6_135 gX6_canMove (hM.1) ⟨Nat.le_of_ble_eq_true rfl, Nat.le_of_ble_eq_true rfl⟩ (Nat.le_of_ble_eq_true rfl) ⟨Nat.le_of_ble_eq_true rfl, Nat.le_of_ble_eq_true rfl⟩ ?_
    refine m_can1 hM hm hg (by decide) (by omega) (fun d2 => ⟨_, rfl, ?_⟩) (fun d2 => ⟨_, rfl, ?_⟩)
    · rw [if_pos d2] at he
      refine x_if_eq (tgt := 39) (pc' := 23) rfl rfl rfl (fun c20 => absurd c20 ((by decide))) (fun _ => ?_)
      refine x_aload_n (pc' := 24) rfl rfl rfl ?_
      refine x_aload_n (pc' := 25) rfl rfl rfl ?_
      refine x_get (pc' := 28) rfl rfl rfl (hM.1) rfl ?_
      refine x_iload_n (pc' := 29) rfl rfl rfl ?_
      refine x_iaload (pc' := 30) rfl rfl (hM.2.1 5 (by decide)) (hv) ?_
      refine x_eqi e8 ?_
      refine x_cV1v (d := 4) (pc' := 33) rfl rfl sX6_141 gX6_moves (hM.1) ⟨Nat.le_of_ble_eq_true rfl, Nat.le_of_ble_eq_true rfl⟩ (Nat.le_of_ble_eq_true rfl) ⟨Nat.le_of_ble_eq_true rfl, Nat.le_of_ble_eq_true rfl⟩ ?_
      refine m_mv hM hm hg (by decide) d2 (hk.no18.trans b3) (fun f1 M1 hM1 g1 k1 e14 e15 e16 e17 hF1 => ⟨rfl, ?_⟩)
      refine x_iinc (pc' := 36) (lv' := [(1, _), (0, _)]) rfl rfl (Nat.le_of_ble_eq_true rfl) rfl (nI_1 i) rfl ?_
      refine x_goto (tgt := 2) rfl rfl ?_
      exact ih (i + 1) _ _ _ (by omega) (g_mv_ok hg (by decide) (by decide) d2.2.1) he hM1 g1 (hk.trans k1) (hF.trans hF1)
    · rw [if_neg d2] at he
      rw [← he] at h
      refine x_if_eq (tgt := 39) (pc' := 23) rfl rfl rfl (fun _ => ?_) (fun c20 => absurd (rfl) c20)
      refine x_iload_n (pc' := 40) rfl rfl rfl ?_
      exact x_ireturn rfl rfl rfl (Nat.le_of_ble_eq_true rfl) (Nat.le_of_ble_eq_true rfl) (h _ _ hM hm hk hF)
theorem m_plays (hM : x_Mdl z f M) (hA : r_is M A) (ho : a_ok A) (h : ∀ (f' : x_H) (M' : x_N), x_Mdl z f' M' → m_is M' (a_plays A).2 → m_kp M M' → x_fr (fun q => q < 59) f f' → post (some (.int (nI (a_plays A).1))) f') : Y E 5 mX6_plays [.ref 59] z f 0 0 post := by
  refine Y.intro gX6_plays (lv := [(0, .ref 59)]) rfl (Nat.le_of_ble_eq_true rfl) ?_
  refine x_iconst (pc' := 1) rfl rfl iconst_0 ?_
  refine x_istore_n (pc' := 2) (lv' := [(1, _), (0, _)]) rfl rfl (Nat.le_of_ble_eq_true rfl) rfl ?_
  exact m_playL ho f M hA h (a_rc A) 0 (a_g A) f M (by omega) ho.1 rfl hM hA.1 m_kp.rf x_fr.rf
theorem a_plays_ok (ho : a_ok A) : g_ok 99 (a_plays A).2 ∧ (a_plays A).1 ≤ a_rc A := by
  have h := q_plays_ok (rf := a_rf A) (by decide : 99 ≤ 99) (by decide) (a_rc A) 0 (a_g A) ho.1
  have h2 : (a_plays A).1 ≤ 0 + a_rc A := h.2.2
  exact ⟨h.1, by omega⟩
theorem q_plays_st (rf : Nat → Nat) : ∀ (k i : Nat) (g : q_G), (q_plays rf k i g).2.1 = g.1 ∧ g_n (q_plays rf k i g).2 = g_n g ∧ g_f (q_plays rf k i g).2 = g_f g ∧ g_l (q_plays rf k i g).2 = g_l g
  | 0, i, g => ⟨rfl, rfl, rfl, rfl⟩
  | k + 1, i, g => by
    unfold q_plays
    split
    · exact q_plays_st rf k (i + 1) (g_mv g (rf i))
    · exact ⟨rfl, rfl, rfl, rfl⟩
theorem a_plays_ly : g_ly (a_g A) (a_plays A).2 = a_g A := by
  obtain ⟨h1, h2, h3, h4⟩ := q_plays_st (a_rf A) (a_rc A) 0 (a_g A)
  show (g_κ (a_plays A).2, g_β (a_g A), g_π (a_g A), g_n (a_plays A).2, g_f (a_plays A).2, g_l (a_plays A).2, g_t (a_g A)) = _
  rw [show g_κ (a_plays A).2 = g_κ (a_g A) from h1, h2, h3, h4]
theorem r_judge (hM : x_Mdl z f M) (hA : r_is M A) (ho : a_ok A) (h : r_ends z f post (s_judge A)) : Y E 9 mX6_judge [.ref 59] z f 0 0 post := by
  refine Y.intro gX6_judge (lv := [(0, .ref 59)]) rfl (Nat.le_of_ble_eq_true rfl) ?_
  obtain ⟨b1, b2, b3, b4, b5, b6, b7, b8, b9⟩ := id hA
  have hrc := ho.2.2.2.2.2.1
  obtain ⟨o1, o2⟩ := a_plays_ok ho
  unfold s_judge at h
  refine x_aload_n (pc' := 1) rfl rfl rfl ?_
  refine x_iconst (pc' := 2) rfl rfl iconst_0 ?_
  refine x_cV1v (d := 1) (pc' := 5) rfl rfl sX6_154 gX6_keeps (hM.1) ⟨Nat.le_of_ble_eq_true rfl, Nat.le_of_ble_eq_true rfl⟩ (Nat.le_of_ble_eq_true rfl) ⟨Nat.le_of_ble_eq_true rfl, Nat.le_of_ble_eq_true rfl⟩ ?_
  refine m_keeps (l := 0) (by decide) hM b1 (fun f1 M1 hM1 g1 k1 fr1 hF1 => ⟨rfl, ?_⟩)
  have hA1 : r_is M1 A := hA.sc k1.sc g1
  refine x_aload_n (pc' := 6) rfl rfl rfl ?_
  refine x_cV0i (d := 5) (pc' := 9) rfl rfl sX6_215 gX6_plays (hM1.1) ⟨Nat.le_of_ble_eq_true rfl, Nat.le_of_ble_eq_true rfl⟩ (Nat.le_of_ble_eq_true rfl) ⟨Nat.le_of_ble_eq_true rfl, Nat.le_of_ble_eq_true rfl⟩ ?_
  refine m_plays hM1 hA1 ho (fun f2 M2 hM2 g2 k2 hF2 => ⟨_, rfl, ?_⟩)
  refine x_istore_n (pc' := 10) (lv' := [(1, _), (0, _)]) rfl rfl (Nat.le_of_ble_eq_true rfl) rfl ?_
  refine x_aload_n (pc' := 11) rfl rfl rfl ?_
  refine x_iconst (pc' := 12) rfl rfl iconst_0 ?_
  refine x_cV1v (d := 1) (pc' := 15) rfl rfl sX6_160 gX6_lays (hM2.1) ⟨Nat.le_of_ble_eq_true rfl, Nat.le_of_ble_eq_true rfl⟩ (Nat.le_of_ble_eq_true rfl) ⟨Nat.le_of_ble_eq_true rfl, Nat.le_of_ble_eq_true rfl⟩ ?_
  refine m_lays (l := 0) (g := a_g A) (by decide) hM2 g2 (fr1.eq (k2.1 6 (by decide) (by decide))) ho.1 o1 (fun f3 M3 hM3 g3 e1 e2 e3 hF3 => ⟨rfl, ?_⟩)
  rw [a_plays_ly] at g3
  have hA3 : r_is M3 A := hA.sc ((k1.sc.trans k2.sc).trans (m_ly.sc e1 e2)) g3
  have hF := (hF1.trans hF2).trans hF3
  refine x_iload_n (pc' := 16) rfl rfl rfl ?_
  refine x_aload_n (pc' := 17) rfl rfl rfl ?_
  refine x_get (pc' := 20) rfl rfl rfl (hM3.1) rfl ?_
  refine x_eqi hA3.2.2.2.2.2.2.1 ?_
  refine x_icmp_ge (tgt := 27) (pc' := 23) rfl rfl rfl (fun c20 => ?_) (fun c20 => ?_)
  · rw [if_neg (fun q => absurd c20 (nI_ge q (by omega)))] at h
    refine x_bipush (pc' := 29) rfl rfl bipush_m9 ?_
    refine x_istore_n (pc' := 30) (lv' := [(2, _), (1, _), (0, _)]) rfl rfl (Nat.le_of_ble_eq_true rfl) rfl ?_
    refine x_aload_n (pc' := 31) rfl rfl rfl ?_
    refine x_iconst (pc' := 32) rfl rfl iconst_0 ?_
    refine x_put (pc' := 35) rfl rfl rfl (hM3.1) (Nat.le_of_ble_eq_true rfl) rfl rfl rfl rfl (fun f1 e1 => ?_)
    have hM4 := hM3.num 13 e1 (x_mFs13 _ _)
    have hF4 := hF.up e1 (by decide)
    refine x_iload_n (pc' := 36) rfl rfl rfl ?_
    obtain ⟨a1, a2, a3, a4, a5, a6, a7, a8, a9⟩ := id hA3
    exact x_ireturn rfl rfl rfl (Nat.le_refl _) (Nat.le_refl _) (h _ _ hM4 ⟨a1, a2, a3, a4.eq (fun i hi => pk_un (by omega)) rfl rfl, a5, a6, rfl, a8, a9⟩ hF4)
  · rw [if_pos (Nat.not_le.mp (fun q => c20 (nI_le q (by omega))))] at h
    refine x_iload_n (pc' := 24) rfl rfl rfl ?_
    refine x_goto (tgt := 29) rfl rfl ?_
    refine x_istore_n (pc' := 30) (lv' := [(2, _), (1, _), (0, _)]) rfl rfl (Nat.le_of_ble_eq_true rfl) rfl ?_
    refine x_aload_n (pc' := 31) rfl rfl rfl ?_
    refine x_iconst (pc' := 32) rfl rfl iconst_0 ?_
    refine x_put (pc' := 35) rfl rfl rfl (hM3.1) (Nat.le_of_ble_eq_true rfl) rfl rfl rfl rfl (fun f2 e2 => ?_)
    have hM4 := hM3.num 13 e2 (x_mFs13 _ _)
    have hF4 := hF.up e2 (by decide)
    refine x_iload_n (pc' := 36) rfl rfl rfl ?_
    obtain ⟨a1, a2, a3, a4, a5, a6, a7, a8, a9⟩ := id hA3
    exact x_ireturn rfl rfl rfl (Nat.le_refl _) (Nat.le_refl _) (h _ _ hM4 ⟨a1, a2, a3, a4.eq (fun i hi => pk_un (by omega)) rfl rfl, a5, a6, rfl, a8, a9⟩ hF4)
theorem r_played (hM : x_Mdl z f M) (hA : r_is M A) (ho : a_ok A) (h : r_ends z f post (s_played A a)) : Y E 9 mX6_played [.ref 59, .int a] z f 0 0 post := by
  refine Y.intro gX6_played (lv := [(0, .ref 59), (1, .int a)]) rfl (Nat.le_of_ble_eq_true rfl) ?_
  obtain ⟨b1, b2, b3, b4, b5, b6, b7, b8, b9⟩ := id hA
  obtain ⟨o1, o2⟩ := a_plays_ok ho
  by_cases d0 : a < 0 ∨ 1 < a
  · rw [show s_played A a = _ from if_pos d0] at h
    refine x_iload_n (pc' := 1) rfl rfl rfl ?_
    refine x_i2l (pc' := 2) rfl rfl ?_
    refine x_lconst (pc' := 3) rfl rfl lconst_0 ?_
    refine x_lconst (pc' := 4) rfl rfl lconst_1 ?_
    refine x_cS3i (d := 1) (pc' := 7) rfl rfl sX6_63 gX6_in ⟨Nat.le_of_ble_eq_true rfl, Nat.le_of_ble_eq_true rfl⟩ (Nat.le_of_ble_eq_true rfl) ⟨Nat.le_of_ble_eq_true rfl, Nat.le_of_ble_eq_true rfl⟩ ?_
    refine r_in (lo := 0) (hi := 1) (by decide) (by decide) (fun q => absurd d0 q) (fun _ => ⟨_, rfl, ?_⟩)
    refine x_if_ne (tgt := 17) (pc' := 10) rfl rfl rfl (fun c7 => absurd (rfl) c7) (fun _ => ?_)
    refine x_aload_n (pc' := 11) rfl rfl rfl ?_
    refine x_bipush (pc' := 13) rfl rfl bipush_m2 ?_
    refine x_cV1i (d := 1) (pc' := 16) rfl rfl sX6_110 gX6_refuse (hM.1) ⟨Nat.le_of_ble_eq_true rfl, Nat.le_of_ble_eq_true rfl⟩ (Nat.le_of_ble_eq_true rfl) ⟨Nat.le_of_ble_eq_true rfl, Nat.le_of_ble_eq_true rfl⟩ ?_
    refine r_refuse (k := 1) (by decide) (by decide) hM hA (fun f1 M1 hM1 hA1 hF1 => ⟨_, rfl, ?_⟩)
    exact x_ireturn rfl rfl rfl (Nat.le_of_ble_eq_true rfl) (Nat.le_of_ble_eq_true rfl) (h _ _ hM1 hA1 hF1)
  rw [show s_played A a = _ from if_neg d0] at h
  obtain ⟨ka, hka, rfl⟩ := nI_of2 (n := 1) (M := 1) rfl (fun q => d0 (Or.inl q)) (Int32.not_lt.mp (fun q => d0 (Or.inr q)))
  refine x_iload_n (pc' := 1) rfl rfl rfl ?_
  refine x_i2l (pc' := 2) rfl rfl ?_
  refine x_lconst (pc' := 3) rfl rfl lconst_0 ?_
  refine x_lconst (pc' := 4) rfl rfl lconst_1 ?_
  refine x_cS3i (d := 1) (pc' := 7) rfl rfl sX6_63 gX6_in ⟨Nat.le_of_ble_eq_true rfl, Nat.le_of_ble_eq_true rfl⟩ (Nat.le_of_ble_eq_true rfl) ⟨Nat.le_of_ble_eq_true rfl, Nat.le_of_ble_eq_true rfl⟩ ?_
  refine r_in (lo := 0) (hi := 1) (by decide) (by decide) (fun _ => ⟨_, rfl, ?_⟩) (fun q => absurd q d0)
  refine x_if_ne (tgt := 17) (pc' := 10) rfl rfl rfl (fun _ => ?_) (fun c7 => absurd c7 ((by decide)))
  refine x_aload_n (pc' := 18) rfl rfl rfl ?_
  refine x_iconst (pc' := 19) rfl rfl iconst_0 ?_
  refine x_cV1v (d := 1) (pc' := 22) rfl rfl sX6_154 gX6_keeps (hM.1) ⟨Nat.le_of_ble_eq_true rfl, Nat.le_of_ble_eq_true rfl⟩ (Nat.le_of_ble_eq_true rfl) ⟨Nat.le_of_ble_eq_true rfl, Nat.le_of_ble_eq_true rfl⟩ ?_
  refine m_keeps (l := 0) (by decide) hM b1 (fun f1 M1 hM1 g1 k1 fr1 hF1 => ⟨rfl, ?_⟩)
  have hA1 : r_is M1 A := hA.sc k1.sc g1
  refine x_aload_n (pc' := 23) rfl rfl rfl ?_
  refine x_cV0i (d := 5) (pc' := 26) rfl rfl sX6_215 gX6_plays (hM1.1) ⟨Nat.le_of_ble_eq_true rfl, Nat.le_of_ble_eq_true rfl⟩ (Nat.le_of_ble_eq_true rfl) ⟨Nat.le_of_ble_eq_true rfl, Nat.le_of_ble_eq_true rfl⟩ ?_
  refine m_plays hM1 hA1 ho (fun f2 M2 hM2 g2 k2 hF2 => ⟨_, rfl, ?_⟩)
  refine x_pop (pc' := 27) rfl rfl rfl ?_
  refine x_aload_n (pc' := 28) rfl rfl rfl ?_
  refine x_get (pc' := 31) rfl rfl rfl (hM2.1) rfl ?_
  refine x_iload_n (pc' := 32) rfl rfl rfl ?_
  refine x_iaload (pc' := 33) rfl rfl (hM2.2.1 2 (by decide)) (vp_in_nI (n := ka) (N := 2) (by omega) (by decide)) ?_
  refine x_eqi (show M2.2.1 2 (nI ka).toNatClampNeg = nI (g_π (a_plays A).2 (nI ka).toNatClampNeg) from by rw [g2.2.2.1]) ?_
  refine x_istore_n (pc' := 34) (lv' := [(2, _), (0, _), (1, _)]) rfl rfl (Nat.le_of_ble_eq_true rfl) rfl ?_
  refine x_aload_n (pc' := 35) rfl rfl rfl ?_
  refine x_iconst (pc' := 36) rfl rfl iconst_0 ?_
  refine x_cV1v (d := 1) (pc' := 39) rfl rfl sX6_160 gX6_lays (hM2.1) ⟨Nat.le_of_ble_eq_true rfl, Nat.le_of_ble_eq_true rfl⟩ (Nat.le_of_ble_eq_true rfl) ⟨Nat.le_of_ble_eq_true rfl, Nat.le_of_ble_eq_true rfl⟩ ?_
  refine m_lays (l := 0) (g := a_g A) (by decide) hM2 g2 (fr1.eq (k2.1 6 (by decide) (by decide))) ho.1 o1 (fun f3 M3 hM3 g3 e1 e2 e3 hF3 => ⟨rfl, ?_⟩)
  rw [a_plays_ly] at g3
  have hA3 : r_is M3 A := hA.sc ((k1.sc.trans k2.sc).trans (m_ly.sc e1 e2)) g3
  have hF := (hF1.trans hF2).trans hF3
  refine x_iload_n (pc' := 40) rfl rfl rfl ?_
  exact x_ireturn rfl rfl rfl (Nat.le_of_ble_eq_true rfl) (Nat.le_of_ble_eq_true rfl) (h _ _ hM3 hA3 hF)
end RB
