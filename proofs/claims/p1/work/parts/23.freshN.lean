/-! The reference's first answers, the rest. -/
section FRESHN
variable {E : x_E} {z : Nat} {f : x_H} {M : x_N} {post : Option Value → x_H → Prop}
theorem i64_n (n : Nat) (h : n < 2 ^ 31) : lN n = (nI n).toInt64 := (nI_l h).symm
theorem m_set {a b : Int32} (hM : x_Mdl z f x_M0) (h : x_R post (a_set a b)) : Y E 9 mX6_set [.ref 59, .int a, .int b] z f 0 0 post := by
  refine Y.intro gX6_set (lv := [(0, .ref 59), (1, .int a), (2, .int b)]) rfl (Nat.le_of_ble_eq_true rfl) ?_
  have i2 : (2 : Int64) = (2 : Int32).toInt64 := by decide
  by_cases d0 : a < 0 ∨ 2 < a
  · have e : a_set a b = -2 := by simp only [a_set, if_pos d0]
    rw [e] at h
    refine x_iload_n (pc' := 1) rfl rfl rfl ?_
    refine x_i2l (pc' := 2) rfl rfl ?_
    refine x_lconst (pc' := 3) rfl rfl lconst_0 ?_
    refine x_ldc2 (pc' := 6) rfl rfl rfl ?_
    refine x_cS3i (d := 1) (pc' := 9) rfl rfl sX6_63 gX6_in ⟨Nat.le_of_ble_eq_true rfl, Nat.le_of_ble_eq_true rfl⟩ (Nat.le_of_ble_eq_true rfl) ⟨Nat.le_of_ble_eq_true rfl, Nat.le_of_ble_eq_true rfl⟩ ?_
    refine w_in (fun q => absurd q (by rw [i64_0, i2, i64_lt, i64_lt]; exact fun q => d0.elim q.1 q.2)) (fun q => ⟨_, rfl, ?_⟩)
    refine x_if_ne (tgt := 19) (pc' := 12) rfl rfl rfl (fun c9 => absurd ((by decide)) c9) (fun _ => ?_)
    refine x_aload_n (pc' := 13) rfl rfl rfl ?_
    refine x_bipush (pc' := 15) rfl rfl bipush_m2 ?_
    refine x_cV1i (d := 1) (pc' := 18) rfl rfl sX6_110 gX6_refuse (hM.1) ⟨Nat.le_of_ble_eq_true rfl, Nat.le_of_ble_eq_true rfl⟩ (Nat.le_of_ble_eq_true rfl) ⟨Nat.le_of_ble_eq_true rfl, Nat.le_of_ble_eq_true rfl⟩ ?_
    refine w_mRefuse (k := 1) (by decide) (by decide) hM (fun f1 hM1 hF1 => ⟨_, rfl, ?_⟩)
    exact x_ireturn rfl rfl rfl (Nat.le_of_ble_eq_true rfl) (Nat.le_of_ble_eq_true rfl) (h _)
  · have d1 : ¬ a < 0 := fun q => d0 (Or.inl q)
    have d2 : ¬ 2 < a := fun q => d0 (Or.inr q)
    obtain ⟨n, hn, rfl⟩ := nI_of2 (M := 2) (n := 2) (by decide) d1 (Int32.not_lt.mp d2)
    have hn3 : n = 0 ∨ n = 1 ∨ n = 2 := by omega
    rcases hn3 with rfl | rfl | rfl
    · by_cases d3 : b < 1
      · have e : a_set (nI 0) b = -4 := by simp only [a_set, if_neg d0, if_pos (by decide : nI 0 = (0 : Int32)), if_pos d3]
        rw [e] at h
        refine x_iload_n (pc' := 1) rfl rfl rfl ?_
        refine x_i2l (pc' := 2) rfl rfl ?_
        refine x_lconst (pc' := 3) rfl rfl lconst_0 ?_
        refine x_ldc2 (pc' := 6) rfl rfl rfl ?_
        refine x_cS3i (d := 1) (pc' := 9) rfl rfl sX6_63 gX6_in ⟨Nat.le_of_ble_eq_true rfl, Nat.le_of_ble_eq_true rfl⟩ (Nat.le_of_ble_eq_true rfl) ⟨Nat.le_of_ble_eq_true rfl, Nat.le_of_ble_eq_true rfl⟩ ?_
        refine w_in (fun _ => ⟨_, rfl, ?_⟩) (fun q => absurd (by decide) q)
        refine x_if_ne (tgt := 19) (pc' := 12) rfl rfl rfl (fun _ => ?_) (fun c9 => absurd c9 ((by decide)))
        refine x_iload_n (pc' := 20) rfl rfl rfl ?_
        refine x_iload_n (pc' := 21) rfl rfl rfl ?_
        refine x_if_ne (tgt := 28) (pc' := 24) rfl rfl rfl (fun c21 => absurd (rfl) c21) (fun _ => ?_)
        refine x_iconst (pc' := 25) rfl rfl iconst_1 ?_
        refine x_goto (tgt := 29) rfl rfl ?_
        refine x_icmp_ge (tgt := 39) (pc' := 32) rfl rfl rfl (fun c29 => absurd c29 (Int32.not_le.mpr d3)) (fun _ => ?_)
        refine x_aload_n (pc' := 33) rfl rfl rfl ?_
        refine x_bipush (pc' := 35) rfl rfl bipush_m4 ?_
        refine x_cV1i (d := 1) (pc' := 38) rfl rfl sX6_110 gX6_refuse (hM.1) ⟨Nat.le_of_ble_eq_true rfl, Nat.le_of_ble_eq_true rfl⟩ (Nat.le_of_ble_eq_true rfl) ⟨Nat.le_of_ble_eq_true rfl, Nat.le_of_ble_eq_true rfl⟩ ?_
        refine w_mRefuse (k := 3) (by decide) (by decide) hM (fun f1 hM1 hF1 => ⟨_, rfl, ?_⟩)
        exact x_ireturn rfl rfl rfl (Nat.le_of_ble_eq_true rfl) (Nat.le_of_ble_eq_true rfl) (h _)
      · by_cases d4 : 9 < b
        · have e : a_set (nI 0) b = -6 := by simp only [a_set, if_neg d0, if_pos (by decide : nI 0 = (0 : Int32)), if_neg d3, if_pos d4]
          rw [e] at h
          refine x_iload_n (pc' := 1) rfl rfl rfl ?_
          refine x_i2l (pc' := 2) rfl rfl ?_
          refine x_lconst (pc' := 3) rfl rfl lconst_0 ?_
          refine x_ldc2 (pc' := 6) rfl rfl rfl ?_
          refine x_cS3i (d := 1) (pc' := 9) rfl rfl sX6_63 gX6_in ⟨Nat.le_of_ble_eq_true rfl, Nat.le_of_ble_eq_true rfl⟩ (Nat.le_of_ble_eq_true rfl) ⟨Nat.le_of_ble_eq_true rfl, Nat.le_of_ble_eq_true rfl⟩ ?_
          refine w_in (fun _ => ⟨_, rfl, ?_⟩) (fun q => absurd (by decide) q)
          refine x_if_ne (tgt := 19) (pc' := 12) rfl rfl rfl (fun _ => ?_) (fun c9 => absurd c9 ((by decide)))
          refine x_iload_n (pc' := 20) rfl rfl rfl ?_
          refine x_iload_n (pc' := 21) rfl rfl rfl ?_
          refine x_if_ne (tgt := 28) (pc' := 24) rfl rfl rfl (fun c21 => absurd (rfl) c21) (fun _ => ?_)
          refine x_iconst (pc' := 25) rfl rfl iconst_1 ?_
          refine x_goto (tgt := 29) rfl rfl ?_
          refine x_icmp_ge (tgt := 39) (pc' := 32) rfl rfl rfl (fun _ => ?_) (fun c29 => absurd (Int32.not_lt.mp d3) c29)
          refine x_iload_n (pc' := 40) rfl rfl rfl ?_
          refine x_iload_n (pc' := 41) rfl rfl rfl ?_
          refine x_if_ne (tgt := 49) (pc' := 44) rfl rfl rfl (fun c41 => absurd (rfl) c41) (fun _ => ?_)
          refine x_bipush (pc' := 46) rfl rfl bipush_9 ?_
          refine x_goto (tgt := 50) rfl rfl ?_
          refine x_icmp_le (tgt := 60) (pc' := 53) rfl rfl rfl (fun c50 => absurd c50 (Int32.not_le.mpr d4)) (fun _ => ?_)
          refine x_aload_n (pc' := 54) rfl rfl rfl ?_
          refine x_bipush (pc' := 56) rfl rfl bipush_m6 ?_
          refine x_cV1i (d := 1) (pc' := 59) rfl rfl sX6_110 gX6_refuse (hM.1) ⟨Nat.le_of_ble_eq_true rfl, Nat.le_of_ble_eq_true rfl⟩ (Nat.le_of_ble_eq_true rfl) ⟨Nat.le_of_ble_eq_true rfl, Nat.le_of_ble_eq_true rfl⟩ ?_
          refine w_mRefuse (k := 5) (by decide) (by decide) hM (fun f1 hM1 hF1 => ⟨_, rfl, ?_⟩)
          exact x_ireturn rfl rfl rfl (Nat.le_of_ble_eq_true rfl) (Nat.le_of_ble_eq_true rfl) (h _)
        · have e : a_set (nI 0) b = 4 := by simp only [a_set, if_neg d0, if_pos (by decide : nI 0 = (0 : Int32)), if_neg d3, if_neg d4]
          rw [e] at h
          refine x_iload_n (pc' := 1) rfl rfl rfl ?_
          refine x_i2l (pc' := 2) rfl rfl ?_
          refine x_lconst (pc' := 3) rfl rfl lconst_0 ?_
          refine x_ldc2 (pc' := 6) rfl rfl rfl ?_
          refine x_cS3i (d := 1) (pc' := 9) rfl rfl sX6_63 gX6_in ⟨Nat.le_of_ble_eq_true rfl, Nat.le_of_ble_eq_true rfl⟩ (Nat.le_of_ble_eq_true rfl) ⟨Nat.le_of_ble_eq_true rfl, Nat.le_of_ble_eq_true rfl⟩ ?_
          refine w_in (fun _ => ⟨_, rfl, ?_⟩) (fun q => absurd (by decide) q)
          refine x_if_ne (tgt := 19) (pc' := 12) rfl rfl rfl (fun _ => ?_) (fun c9 => absurd c9 ((by decide)))
          refine x_iload_n (pc' := 20) rfl rfl rfl ?_
          refine x_iload_n (pc' := 21) rfl rfl rfl ?_
          refine x_if_ne (tgt := 28) (pc' := 24) rfl rfl rfl (fun c21 => absurd (rfl) c21) (fun _ => ?_)
          refine x_iconst (pc' := 25) rfl rfl iconst_1 ?_
          refine x_goto (tgt := 29) rfl rfl ?_
          refine x_icmp_ge (tgt := 39) (pc' := 32) rfl rfl rfl (fun _ => ?_) (fun c29 => absurd (Int32.not_lt.mp d3) c29)
          refine x_iload_n (pc' := 40) rfl rfl rfl ?_
          refine x_iload_n (pc' := 41) rfl rfl rfl ?_
          refine x_if_ne (tgt := 49) (pc' := 44) rfl rfl rfl (fun c41 => absurd (rfl) c41) (fun _ => ?_)
          refine x_bipush (pc' := 46) rfl rfl bipush_9 ?_
          refine x_goto (tgt := 50) rfl rfl ?_
          refine x_icmp_le (tgt := 60) (pc' := 53) rfl rfl rfl (fun _ => ?_) (fun c50 => absurd (Int32.not_lt.mp d4) c50)
          refine x_iload_n (pc' := 61) rfl rfl rfl ?_
          refine x_if_ne (tgt := 71) (pc' := 64) rfl rfl rfl (fun c61 => absurd (rfl) c61) (fun _ => ?_)
          refine x_aload_n (pc' := 65) rfl rfl rfl ?_
          refine x_get (pc' := 68) rfl rfl rfl (hM.1) rfl ?_
          refine x_goto (tgt := 87) rfl rfl ?_
          refine x_istore_n (pc' := 88) (lv' := [(3, _), (0, _), (1, _), (2, _)]) rfl rfl (Nat.le_of_ble_eq_true rfl) rfl ?_
          refine x_iload_n (pc' := 89) rfl rfl rfl ?_
          refine x_if_ne (tgt := 100) (pc' := 92) rfl rfl rfl (fun c89 => absurd (rfl) c89) (fun _ => ?_)
          refine x_aload_n (pc' := 93) rfl rfl rfl ?_
          refine x_iload_n (pc' := 94) rfl rfl rfl ?_
          refine x_put (pc' := 97) rfl rfl rfl (hM.1) (Nat.le_of_ble_eq_true rfl) rfl rfl rfl rfl (fun f1 e1 => ?_)
          refine x_goto (tgt := 118) rfl rfl ?_
          refine x_iload_n (pc' := 119) rfl rfl rfl ?_
          exact x_ireturn rfl rfl rfl (Nat.le_of_ble_eq_true rfl) (Nat.le_of_ble_eq_true rfl) (h _)
    · by_cases d3 : b < 0
      · have e : a_set (nI 1) b = -4 := by simp only [a_set, if_neg d0, if_neg (by decide : ¬ nI 1 = (0 : Int32)), if_pos d3]
        rw [e] at h
        refine x_iload_n (pc' := 1) rfl rfl rfl ?_
        refine x_i2l (pc' := 2) rfl rfl ?_
        refine x_lconst (pc' := 3) rfl rfl lconst_0 ?_
        refine x_ldc2 (pc' := 6) rfl rfl rfl ?_
        refine x_cS3i (d := 1) (pc' := 9) rfl rfl sX6_63 gX6_in ⟨Nat.le_of_ble_eq_true rfl, Nat.le_of_ble_eq_true rfl⟩ (Nat.le_of_ble_eq_true rfl) ⟨Nat.le_of_ble_eq_true rfl, Nat.le_of_ble_eq_true rfl⟩ ?_
        refine w_in (fun _ => ⟨_, rfl, ?_⟩) (fun q => absurd (by decide) q)
        refine x_if_ne (tgt := 19) (pc' := 12) rfl rfl rfl (fun _ => ?_) (fun c9 => absurd c9 ((by decide)))
        refine x_iload_n (pc' := 20) rfl rfl rfl ?_
        refine x_iload_n (pc' := 21) rfl rfl rfl ?_
        refine x_if_ne (tgt := 28) (pc' := 24) rfl rfl rfl (fun _ => ?_) (fun c21 => absurd c21 ((by decide : ¬ nI 1 = 0)))
        refine x_iconst (pc' := 29) rfl rfl iconst_0 ?_
        refine x_icmp_ge (tgt := 39) (pc' := 32) rfl rfl rfl (fun c29 => absurd c29 (Int32.not_le.mpr d3)) (fun _ => ?_)
        refine x_aload_n (pc' := 33) rfl rfl rfl ?_
        refine x_bipush (pc' := 35) rfl rfl bipush_m4 ?_
        refine x_cV1i (d := 1) (pc' := 38) rfl rfl sX6_110 gX6_refuse (hM.1) ⟨Nat.le_of_ble_eq_true rfl, Nat.le_of_ble_eq_true rfl⟩ (Nat.le_of_ble_eq_true rfl) ⟨Nat.le_of_ble_eq_true rfl, Nat.le_of_ble_eq_true rfl⟩ ?_
        refine w_mRefuse (k := 3) (by decide) (by decide) hM (fun f1 hM1 hF1 => ⟨_, rfl, ?_⟩)
        exact x_ireturn rfl rfl rfl (Nat.le_of_ble_eq_true rfl) (Nat.le_of_ble_eq_true rfl) (h _)
      · by_cases d4 : 1 < b
        · have e : a_set (nI 1) b = -6 := by simp only [a_set, if_neg d0, if_neg (by decide : ¬ nI 1 = (0 : Int32)), if_neg d3, if_pos d4]
          rw [e] at h
          refine x_iload_n (pc' := 1) rfl rfl rfl ?_
          refine x_i2l (pc' := 2) rfl rfl ?_
          refine x_lconst (pc' := 3) rfl rfl lconst_0 ?_
          refine x_ldc2 (pc' := 6) rfl rfl rfl ?_
          refine x_cS3i (d := 1) (pc' := 9) rfl rfl sX6_63 gX6_in ⟨Nat.le_of_ble_eq_true rfl, Nat.le_of_ble_eq_true rfl⟩ (Nat.le_of_ble_eq_true rfl) ⟨Nat.le_of_ble_eq_true rfl, Nat.le_of_ble_eq_true rfl⟩ ?_
          refine w_in (fun _ => ⟨_, rfl, ?_⟩) (fun q => absurd (by decide) q)
          refine x_if_ne (tgt := 19) (pc' := 12) rfl rfl rfl (fun _ => ?_) (fun c9 => absurd c9 ((by decide)))
          refine x_iload_n (pc' := 20) rfl rfl rfl ?_
          refine x_iload_n (pc' := 21) rfl rfl rfl ?_
          refine x_if_ne (tgt := 28) (pc' := 24) rfl rfl rfl (fun _ => ?_) (fun c21 => absurd c21 ((by decide : ¬ nI 1 = 0)))
          refine x_iconst (pc' := 29) rfl rfl iconst_0 ?_
          refine x_icmp_ge (tgt := 39) (pc' := 32) rfl rfl rfl (fun _ => ?_) (fun c29 => absurd (Int32.not_lt.mp d3) c29)
          refine x_iload_n (pc' := 40) rfl rfl rfl ?_
          refine x_iload_n (pc' := 41) rfl rfl rfl ?_
          refine x_if_ne (tgt := 49) (pc' := 44) rfl rfl rfl (fun _ => ?_) (fun c41 => absurd c41 ((by decide : ¬ nI 1 = 0)))
          refine x_iconst (pc' := 50) rfl rfl iconst_1 ?_
          refine x_icmp_le (tgt := 60) (pc' := 53) rfl rfl rfl (fun c50 => absurd c50 (Int32.not_le.mpr d4)) (fun _ => ?_)
          refine x_aload_n (pc' := 54) rfl rfl rfl ?_
          refine x_bipush (pc' := 56) rfl rfl bipush_m6 ?_
          refine x_cV1i (d := 1) (pc' := 59) rfl rfl sX6_110 gX6_refuse (hM.1) ⟨Nat.le_of_ble_eq_true rfl, Nat.le_of_ble_eq_true rfl⟩ (Nat.le_of_ble_eq_true rfl) ⟨Nat.le_of_ble_eq_true rfl, Nat.le_of_ble_eq_true rfl⟩ ?_
          refine w_mRefuse (k := 5) (by decide) (by decide) hM (fun f1 hM1 hF1 => ⟨_, rfl, ?_⟩)
          exact x_ireturn rfl rfl rfl (Nat.le_of_ble_eq_true rfl) (Nat.le_of_ble_eq_true rfl) (h _)
        · have e : a_set (nI 1) b = 0 := by simp only [a_set, if_neg d0, if_neg (by decide : ¬ nI 1 = (0 : Int32)), if_neg d3, if_neg d4]
          rw [e] at h
          refine x_iload_n (pc' := 1) rfl rfl rfl ?_
          refine x_i2l (pc' := 2) rfl rfl ?_
          refine x_lconst (pc' := 3) rfl rfl lconst_0 ?_
          refine x_ldc2 (pc' := 6) rfl rfl rfl ?_
          refine x_cS3i (d := 1) (pc' := 9) rfl rfl sX6_63 gX6_in ⟨Nat.le_of_ble_eq_true rfl, Nat.le_of_ble_eq_true rfl⟩ (Nat.le_of_ble_eq_true rfl) ⟨Nat.le_of_ble_eq_true rfl, Nat.le_of_ble_eq_true rfl⟩ ?_
          refine w_in (fun _ => ⟨_, rfl, ?_⟩) (fun q => absurd (by decide) q)
          refine x_if_ne (tgt := 19) (pc' := 12) rfl rfl rfl (fun _ => ?_) (fun c9 => absurd c9 ((by decide)))
          refine x_iload_n (pc' := 20) rfl rfl rfl ?_
          refine x_iload_n (pc' := 21) rfl rfl rfl ?_
          refine x_if_ne (tgt := 28) (pc' := 24) rfl rfl rfl (fun _ => ?_) (fun c21 => absurd c21 ((by decide : ¬ nI 1 = 0)))
          refine x_iconst (pc' := 29) rfl rfl iconst_0 ?_
          refine x_icmp_ge (tgt := 39) (pc' := 32) rfl rfl rfl (fun _ => ?_) (fun c29 => absurd (Int32.not_lt.mp d3) c29)
          refine x_iload_n (pc' := 40) rfl rfl rfl ?_
          refine x_iload_n (pc' := 41) rfl rfl rfl ?_
          refine x_if_ne (tgt := 49) (pc' := 44) rfl rfl rfl (fun _ => ?_) (fun c41 => absurd c41 ((by decide : ¬ nI 1 = 0)))
          refine x_iconst (pc' := 50) rfl rfl iconst_1 ?_
          refine x_icmp_le (tgt := 60) (pc' := 53) rfl rfl rfl (fun _ => ?_) (fun c50 => absurd (Int32.not_lt.mp d4) c50)
          refine x_iload_n (pc' := 61) rfl rfl rfl ?_
          refine x_if_ne (tgt := 71) (pc' := 64) rfl rfl rfl (fun _ => ?_) (fun c61 => absurd c61 ((by decide : ¬ nI 1 = 0)))
          refine x_iload_n (pc' := 72) rfl rfl rfl ?_
          refine x_iconst (pc' := 73) rfl rfl iconst_1 ?_
          refine x_icmp_ne (tgt := 83) (pc' := 76) rfl rfl rfl (fun c73 => absurd (rfl) c73) (fun _ => ?_)
          refine x_aload_n (pc' := 77) rfl rfl rfl ?_
          refine x_get (pc' := 80) rfl rfl rfl (hM.1) rfl ?_
          refine x_goto (tgt := 87) rfl rfl ?_
          refine x_istore_n (pc' := 88) (lv' := [(3, _), (0, _), (1, _), (2, _)]) rfl rfl (Nat.le_of_ble_eq_true rfl) rfl ?_
          refine x_iload_n (pc' := 89) rfl rfl rfl ?_
          refine x_if_ne (tgt := 100) (pc' := 92) rfl rfl rfl (fun _ => ?_) (fun c89 => absurd c89 ((by decide : ¬ nI 1 = 0)))
          refine x_iload_n (pc' := 101) rfl rfl rfl ?_
          refine x_iconst (pc' := 102) rfl rfl iconst_1 ?_
          refine x_icmp_ne (tgt := 113) (pc' := 105) rfl rfl rfl (fun c102 => absurd (rfl) c102) (fun _ => ?_)
          refine x_aload_n (pc' := 106) rfl rfl rfl ?_
          refine x_iload_n (pc' := 107) rfl rfl rfl ?_
          refine x_put (pc' := 110) rfl rfl rfl (hM.1) (Nat.le_of_ble_eq_true rfl) rfl rfl rfl rfl (fun f1 e1 => ?_)
          refine x_goto (tgt := 118) rfl rfl ?_
          refine x_iload_n (pc' := 119) rfl rfl rfl ?_
          exact x_ireturn rfl rfl rfl (Nat.le_of_ble_eq_true rfl) (Nat.le_of_ble_eq_true rfl) (h _)
    · by_cases d3 : b < 0
      · have e : a_set (nI 2) b = -4 := by simp only [a_set, if_neg d0, if_neg (by decide : ¬ nI 2 = (0 : Int32)), if_pos d3]
        rw [e] at h
        refine x_iload_n (pc' := 1) rfl rfl rfl ?_
        refine x_i2l (pc' := 2) rfl rfl ?_
        refine x_lconst (pc' := 3) rfl rfl lconst_0 ?_
        refine x_ldc2 (pc' := 6) rfl rfl rfl ?_
        refine x_cS3i (d := 1) (pc' := 9) rfl rfl sX6_63 gX6_in ⟨Nat.le_of_ble_eq_true rfl, Nat.le_of_ble_eq_true rfl⟩ (Nat.le_of_ble_eq_true rfl) ⟨Nat.le_of_ble_eq_true rfl, Nat.le_of_ble_eq_true rfl⟩ ?_
        refine w_in (fun _ => ⟨_, rfl, ?_⟩) (fun q => absurd (by decide) q)
        refine x_if_ne (tgt := 19) (pc' := 12) rfl rfl rfl (fun _ => ?_) (fun c9 => absurd c9 ((by decide)))
        refine x_iload_n (pc' := 20) rfl rfl rfl ?_
        refine x_iload_n (pc' := 21) rfl rfl rfl ?_
        refine x_if_ne (tgt := 28) (pc' := 24) rfl rfl rfl (fun _ => ?_) (fun c21 => absurd c21 ((by decide : ¬ nI 2 = 0)))
        refine x_iconst (pc' := 29) rfl rfl iconst_0 ?_
        refine x_icmp_ge (tgt := 39) (pc' := 32) rfl rfl rfl (fun c29 => absurd c29 (Int32.not_le.mpr d3)) (fun _ => ?_)
        refine x_aload_n (pc' := 33) rfl rfl rfl ?_
        refine x_bipush (pc' := 35) rfl rfl bipush_m4 ?_
        refine x_cV1i (d := 1) (pc' := 38) rfl rfl sX6_110 gX6_refuse (hM.1) ⟨Nat.le_of_ble_eq_true rfl, Nat.le_of_ble_eq_true rfl⟩ (Nat.le_of_ble_eq_true rfl) ⟨Nat.le_of_ble_eq_true rfl, Nat.le_of_ble_eq_true rfl⟩ ?_
        refine w_mRefuse (k := 3) (by decide) (by decide) hM (fun f1 hM1 hF1 => ⟨_, rfl, ?_⟩)
        exact x_ireturn rfl rfl rfl (Nat.le_of_ble_eq_true rfl) (Nat.le_of_ble_eq_true rfl) (h _)
      · by_cases d4 : 1 < b
        · have e : a_set (nI 2) b = -6 := by simp only [a_set, if_neg d0, if_neg (by decide : ¬ nI 2 = (0 : Int32)), if_neg d3, if_pos d4]
          rw [e] at h
          refine x_iload_n (pc' := 1) rfl rfl rfl ?_
          refine x_i2l (pc' := 2) rfl rfl ?_
          refine x_lconst (pc' := 3) rfl rfl lconst_0 ?_
          refine x_ldc2 (pc' := 6) rfl rfl rfl ?_
          refine x_cS3i (d := 1) (pc' := 9) rfl rfl sX6_63 gX6_in ⟨Nat.le_of_ble_eq_true rfl, Nat.le_of_ble_eq_true rfl⟩ (Nat.le_of_ble_eq_true rfl) ⟨Nat.le_of_ble_eq_true rfl, Nat.le_of_ble_eq_true rfl⟩ ?_
          refine w_in (fun _ => ⟨_, rfl, ?_⟩) (fun q => absurd (by decide) q)
          refine x_if_ne (tgt := 19) (pc' := 12) rfl rfl rfl (fun _ => ?_) (fun c9 => absurd c9 ((by decide)))
          refine x_iload_n (pc' := 20) rfl rfl rfl ?_
          refine x_iload_n (pc' := 21) rfl rfl rfl ?_
          refine x_if_ne (tgt := 28) (pc' := 24) rfl rfl rfl (fun _ => ?_) (fun c21 => absurd c21 ((by decide : ¬ nI 2 = 0)))
          refine x_iconst (pc' := 29) rfl rfl iconst_0 ?_
          refine x_icmp_ge (tgt := 39) (pc' := 32) rfl rfl rfl (fun _ => ?_) (fun c29 => absurd (Int32.not_lt.mp d3) c29)
          refine x_iload_n (pc' := 40) rfl rfl rfl ?_
          refine x_iload_n (pc' := 41) rfl rfl rfl ?_
          refine x_if_ne (tgt := 49) (pc' := 44) rfl rfl rfl (fun _ => ?_) (fun c41 => absurd c41 ((by decide : ¬ nI 2 = 0)))
          refine x_iconst (pc' := 50) rfl rfl iconst_1 ?_
          refine x_icmp_le (tgt := 60) (pc' := 53) rfl rfl rfl (fun c50 => absurd c50 (Int32.not_le.mpr d4)) (fun _ => ?_)
          refine x_aload_n (pc' := 54) rfl rfl rfl ?_
          refine x_bipush (pc' := 56) rfl rfl bipush_m6 ?_
          refine x_cV1i (d := 1) (pc' := 59) rfl rfl sX6_110 gX6_refuse (hM.1) ⟨Nat.le_of_ble_eq_true rfl, Nat.le_of_ble_eq_true rfl⟩ (Nat.le_of_ble_eq_true rfl) ⟨Nat.le_of_ble_eq_true rfl, Nat.le_of_ble_eq_true rfl⟩ ?_
          refine w_mRefuse (k := 5) (by decide) (by decide) hM (fun f1 hM1 hF1 => ⟨_, rfl, ?_⟩)
          exact x_ireturn rfl rfl rfl (Nat.le_of_ble_eq_true rfl) (Nat.le_of_ble_eq_true rfl) (h _)
        · have e : a_set (nI 2) b = 0 := by simp only [a_set, if_neg d0, if_neg (by decide : ¬ nI 2 = (0 : Int32)), if_neg d3, if_neg d4]
          rw [e] at h
          refine x_iload_n (pc' := 1) rfl rfl rfl ?_
          refine x_i2l (pc' := 2) rfl rfl ?_
          refine x_lconst (pc' := 3) rfl rfl lconst_0 ?_
          refine x_ldc2 (pc' := 6) rfl rfl rfl ?_
          refine x_cS3i (d := 1) (pc' := 9) rfl rfl sX6_63 gX6_in ⟨Nat.le_of_ble_eq_true rfl, Nat.le_of_ble_eq_true rfl⟩ (Nat.le_of_ble_eq_true rfl) ⟨Nat.le_of_ble_eq_true rfl, Nat.le_of_ble_eq_true rfl⟩ ?_
          refine w_in (fun _ => ⟨_, rfl, ?_⟩) (fun q => absurd (by decide) q)
          refine x_if_ne (tgt := 19) (pc' := 12) rfl rfl rfl (fun _ => ?_) (fun c9 => absurd c9 ((by decide)))
          refine x_iload_n (pc' := 20) rfl rfl rfl ?_
          refine x_iload_n (pc' := 21) rfl rfl rfl ?_
          refine x_if_ne (tgt := 28) (pc' := 24) rfl rfl rfl (fun _ => ?_) (fun c21 => absurd c21 ((by decide : ¬ nI 2 = 0)))
          refine x_iconst (pc' := 29) rfl rfl iconst_0 ?_
          refine x_icmp_ge (tgt := 39) (pc' := 32) rfl rfl rfl (fun _ => ?_) (fun c29 => absurd (Int32.not_lt.mp d3) c29)
          refine x_iload_n (pc' := 40) rfl rfl rfl ?_
          refine x_iload_n (pc' := 41) rfl rfl rfl ?_
          refine x_if_ne (tgt := 49) (pc' := 44) rfl rfl rfl (fun _ => ?_) (fun c41 => absurd c41 ((by decide : ¬ nI 2 = 0)))
          refine x_iconst (pc' := 50) rfl rfl iconst_1 ?_
          refine x_icmp_le (tgt := 60) (pc' := 53) rfl rfl rfl (fun _ => ?_) (fun c50 => absurd (Int32.not_lt.mp d4) c50)
          refine x_iload_n (pc' := 61) rfl rfl rfl ?_
          refine x_if_ne (tgt := 71) (pc' := 64) rfl rfl rfl (fun _ => ?_) (fun c61 => absurd c61 ((by decide : ¬ nI 2 = 0)))
          refine x_iload_n (pc' := 72) rfl rfl rfl ?_
          refine x_iconst (pc' := 73) rfl rfl iconst_1 ?_
          refine x_icmp_ne (tgt := 83) (pc' := 76) rfl rfl rfl (fun _ => ?_) (fun c73 => absurd c73 ((by decide : ¬ nI 2 = 1)))
          refine x_aload_n (pc' := 84) rfl rfl rfl ?_
          refine x_get (pc' := 87) rfl rfl rfl (hM.1) rfl ?_
          refine x_istore_n (pc' := 88) (lv' := [(3, _), (0, _), (1, _), (2, _)]) rfl rfl (Nat.le_of_ble_eq_true rfl) rfl ?_
          refine x_iload_n (pc' := 89) rfl rfl rfl ?_
          refine x_if_ne (tgt := 100) (pc' := 92) rfl rfl rfl (fun _ => ?_) (fun c89 => absurd c89 ((by decide : ¬ nI 2 = 0)))
          refine x_iload_n (pc' := 101) rfl rfl rfl ?_
          refine x_iconst (pc' := 102) rfl rfl iconst_1 ?_
          refine x_icmp_ne (tgt := 113) (pc' := 105) rfl rfl rfl (fun _ => ?_) (fun c102 => absurd c102 ((by decide : ¬ nI 2 = 1)))
          refine x_aload_n (pc' := 114) rfl rfl rfl ?_
          refine x_iload_n (pc' := 115) rfl rfl rfl ?_
          refine x_put (pc' := 118) rfl rfl rfl (hM.1) (Nat.le_of_ble_eq_true rfl) rfl rfl rfl rfl (fun f1 e1 => ?_)
          refine x_iload_n (pc' := 119) rfl rfl rfl ?_
          exact x_ireturn rfl rfl rfl (Nat.le_of_ble_eq_true rfl) (Nat.le_of_ble_eq_true rfl) (h _)
theorem x_pick9 {n : Nat} (h : n < 9) : n < 96 := by omega
theorem m_ways0 {n : Nat} (hn : n ≤ 40) (hM : x_Mdl z f M) (h3 : M.1 3 = 0) (h : ∀ f' : x_H, post (some (.int (if n = 0 then 1 else 0))) f') : ∀ (k i : Nat) (g : x_H) (M' : x_N), i + k = 41 → x_Mdl z g M' → M'.1 = M.1 → (∀ j, j < i → M'.2.2 0 j = if j = 0 then 1 else 0) → X E (x_rm 3 0 0) mX6_waysOf (x_QM E z 0 0 post) 2 [(2, .int (nI i)), (0, .ref 59), (1, .int (nI n))] [] z g 0 0 := by
  intro k
  induction k with
  | zero =>
    intro i g M' hi hM' e1' hw
    have hi2 : i = 41 := by omega
    subst hi2
    refine x_iload_n (pc' := 3) rfl rfl rfl ?_
    refine x_bipush (pc' := 5) rfl rfl bipush_40 ?_
    refine x_icmp_gt (tgt := 29) (pc' := 8) rfl rfl rfl (fun _ => ?_) (fun c5 => absurd ((by decide : (40 : Int32) < nI 41)) c5)
    refine x_iconst (pc' := 30) rfl rfl iconst_0 ?_
    refine x_istore_n (pc' := 31) (lv' := [(2, _), (0, _), (1, _)]) rfl rfl (Nat.le_of_ble_eq_true rfl) rfl ?_
    refine x_iload_n (pc' := 32) rfl rfl rfl ?_
    refine x_aload_n (pc' := 33) rfl rfl rfl ?_
    refine x_get (pc' := 36) rfl rfl rfl (hM'.1) rfl ?_
    refine x_eqi (show M'.1 3 = 0 from by rw [e1']; exact h3) ?_
    refine x_icmp_ge (tgt := 195) (pc' := 39) rfl rfl rfl (fun _ => ?_) (fun c36 => absurd ((by decide : (0 : Int32) ≤ 0)) c36)
    refine x_aload_n (pc' := 196) rfl rfl rfl ?_
    refine x_get (pc' := 199) rfl rfl rfl (hM'.1) rfl ?_
    refine x_iload_n (pc' := 200) rfl rfl rfl ?_
    refine x_laload (pc' := 201) rfl rfl (hM'.2.2 0 (by decide)) (vp_in_nI (n := n) (N := 41) (by omega) (by decide)) ?_
    refine x_eql (show M'.2.2 0 (nI n).toNatClampNeg = if n = 0 then 1 else 0 from by rw [nI_clamp (by omega)]; exact hw n (by omega)) ?_
    refine x_ldc2 (pc' := 204) rfl rfl rfl ?_
    refine x_lcmp (pc' := 205) rfl rfl ?_
    refine x_if_le (tgt := 213) (pc' := 208) rfl rfl rfl (fun _ => ?_) (fun c205 => absurd ((by by_cases hn0 : n = 0 <;> simp [hn0] <;> decide)) c205)
    refine x_aload_n (pc' := 214) rfl rfl rfl ?_
    refine x_get (pc' := 217) rfl rfl rfl (hM'.1) rfl ?_
    refine x_iload_n (pc' := 218) rfl rfl rfl ?_
    refine x_laload (pc' := 219) rfl rfl (hM'.2.2 0 (by decide)) (vp_in_nI (n := n) (N := 41) (by omega) (by decide)) ?_
    refine x_eql (show M'.2.2 0 (nI n).toNatClampNeg = if n = 0 then 1 else 0 from by rw [nI_clamp (by omega)]; exact hw n (by omega)) ?_
    refine x_l2i (pc' := 220) rfl rfl ?_
    refine x_eqi (show Int64.toInt32 (if n = 0 then 1 else 0) = (if n = 0 then 1 else 0) from by by_cases hn0 : n = 0 <;> simp [hn0]) ?_
    exact x_ireturn rfl rfl rfl (Nat.le_of_ble_eq_true rfl) (Nat.le_of_ble_eq_true rfl) (h _)
  | succ k ih =>
    intro i g M' hi hM' e1' hw
    have hd : ∀ (v : Int64) (g2 : x_H), v = (if i = 0 then 1 else 0) → g2 = x_up g 69 (.inl (41, .inr (.inl (vp_updL (M'.2.2 0) (nI i).toNatClampNeg v)))) → X E (x_rm 3 0 0) mX6_waysOf (x_QM E z 0 0 post) 2 [(2, .int (nI (i + 1))), (0, .ref 59), (1, .int (nI n))] [] z g2 0 0 := by
      intro v g2 hv eg
      have hM2 := hM'.lng 0 (by decide) eg
      refine ih (i + 1) g2 _ (by omega) hM2 e1' ?_
      intro j hj
      show vp_updL (M'.2.2 0) (nI i).toNatClampNeg v j = _
      rw [nI_clamp (by omega)]
      unfold vp_updL
      by_cases hji : j = i
      · rw [if_pos hji, hv, hji]
      · rw [if_neg hji]
        exact hw j (by omega)
    by_cases hi0 : i = 0
    · subst hi0
      refine x_iload_n (pc' := 3) rfl rfl rfl ?_
      refine x_bipush (pc' := 5) rfl rfl bipush_40 ?_
      refine x_icmp_gt (tgt := 29) (pc' := 8) rfl rfl rfl (fun c5 => absurd c5 ((by decide : ¬ (40 : Int32) < nI 0))) (fun _ => ?_)
      refine x_aload_n (pc' := 9) rfl rfl rfl ?_
      refine x_get (pc' := 12) rfl rfl rfl (hM'.1) rfl ?_
      refine x_iload_n (pc' := 13) rfl rfl rfl ?_
      refine x_iload_n (pc' := 14) rfl rfl rfl ?_
      refine x_if_ne (tgt := 21) (pc' := 17) rfl rfl rfl (fun c14 => absurd (rfl) c14) (fun _ => ?_)
      refine x_lconst (pc' := 18) rfl rfl lconst_1 ?_
      refine x_goto (tgt := 22) rfl rfl ?_
      refine x_lastore (pc' := 23) rfl rfl (hM'.2.2 0 (by decide)) (vp_in_nI (n := 0) (N := 41) (by decide) (by decide)) (fun f1 e1 => ?_)
      refine x_iinc (pc' := 26) (lv' := [(2, _), (0, _), (1, _)]) rfl rfl (Nat.le_of_ble_eq_true rfl) rfl (nI_1 0) rfl ?_
      refine x_goto (tgt := 2) rfl rfl ?_
      exact hd 1 f1 rfl e1
    ·
      refine x_iload_n (pc' := 3) rfl rfl rfl ?_
      refine x_bipush (pc' := 5) rfl rfl bipush_40 ?_
      refine x_icmp_gt (tgt := 29) (pc' := 8) rfl rfl rfl (fun c5 => absurd c5 (Int32.not_lt.mpr (nI_le (a := i) (b := 40) (by omega) (by decide)))) (fun _ => ?_)
      refine x_aload_n (pc' := 9) rfl rfl rfl ?_
      refine x_get (pc' := 12) rfl rfl rfl (hM'.1) rfl ?_
      refine x_iload_n (pc' := 13) rfl rfl rfl ?_
      refine x_iload_n (pc' := 14) rfl rfl rfl ?_
      refine x_if_ne (tgt := 21) (pc' := 17) rfl rfl rfl (fun _ => ?_) (fun c14 => absurd c14 (nI_ne0 (by omega) (by omega)))
      refine x_lconst (pc' := 22) rfl rfl lconst_0 ?_
      refine x_lastore (pc' := 23) rfl rfl (hM'.2.2 0 (by decide)) (vp_in_nI (n := i) (N := 41) (by omega) (by decide)) (fun f1 e1 => ?_)
      refine x_iinc (pc' := 26) (lv' := [(2, _), (0, _), (1, _)]) rfl rfl (Nat.le_of_ble_eq_true rfl) rfl (nI_1 i) rfl ?_
      refine x_goto (tgt := 2) rfl rfl ?_
      exact hd 0 f1 (by rw [if_neg hi0]) e1
theorem m_waysOf0 {n : Nat} (hn : n ≤ 40) (hM : x_Mdl z f M) (h3 : M.1 3 = 0) (h : ∀ f' : x_H, post (some (.int (if n = 0 then 1 else 0))) f') : Y E 3 mX6_waysOf [.ref 59, .int (nI n)] z f 0 0 post := by
  refine Y.intro gX6_waysOf (lv := [(0, .ref 59), (1, .int (nI n))]) rfl (Nat.le_of_ble_eq_true rfl) ?_
  refine x_iconst (pc' := 1) rfl rfl iconst_0 ?_
  refine x_istore_n (pc' := 2) (lv' := [(2, _), (0, _), (1, _)]) rfl rfl (Nat.le_of_ble_eq_true rfl) rfl ?_
  exact m_ways0 hn hM h3 h 41 0 _ M (by omega) hM rfl (fun j hj => absurd hj (Nat.not_lt_zero j))
theorem m_isRow0 (hM : x_Mdl z f x_M0) (h : post (some (.int 1)) f) : Y E 2 mX6_isRow [.ref 59] z f 0 0 post := by
  refine Y.intro gX6_isRow (lv := [(0, .ref 59)]) rfl (Nat.le_of_ble_eq_true rfl) ?_
  refine x_aload_n (pc' := 1) rfl rfl rfl ?_
  refine x_get (pc' := 4) rfl rfl rfl (hM.1) rfl ?_
  refine x_aload_n (pc' := 5) rfl rfl rfl ?_
  refine x_get (pc' := 8) rfl rfl rfl (hM.1) rfl ?_
  refine x_icmp_eq (tgt := 13) (pc' := 11) rfl rfl rfl (fun _ => ?_) (fun c8 => absurd (rfl) c8)
  refine x_iconst (pc' := 14) rfl rfl iconst_0 ?_
  refine x_istore_n (pc' := 15) (lv' := [(1, _), (0, _)]) rfl rfl (Nat.le_of_ble_eq_true rfl) rfl ?_
  refine x_iload_n (pc' := 16) rfl rfl rfl ?_
  refine x_aload_n (pc' := 17) rfl rfl rfl ?_
  refine x_get (pc' := 20) rfl rfl rfl (hM.1) rfl ?_
  refine x_icmp_ge (tgt := 41) (pc' := 23) rfl rfl rfl (fun _ => ?_) (fun c20 => absurd ((by decide : (0 : Int32) ≤ 0)) c20)
  refine x_iconst (pc' := 42) rfl rfl iconst_1 ?_
  exact x_ireturn rfl rfl rfl (Nat.le_of_ble_eq_true rfl) (Nat.le_of_ble_eq_true rfl) (h)
theorem m_sounds {a : Int32} (hM : x_Mdl z f x_M0) (h : x_R post (a_sounds a)) : Y E 9 mX6_sounds [.ref 59, .int a] z f 0 0 post := by
  refine Y.intro gX6_sounds (lv := [(0, .ref 59), (1, .int a)]) rfl (Nat.le_of_ble_eq_true rfl) ?_
  refine x_iload_n (pc' := 1) rfl rfl rfl ?_
  by_cases c1 : a < 0
  · have e : a_sounds a = -4 := by simp [a_sounds, c1]
    rw [e] at h
    refine x_if_ge (tgt := 11) (pc' := 4) rfl rfl rfl (fun q => absurd c1 (Int32.not_lt.mpr q)) (fun _ => ?_)
    refine x_aload_n (pc' := 5) rfl rfl rfl ?_
    refine x_bipush (pc' := 7) rfl rfl bipush_m4 ?_
    refine x_cV1i (d := 1) (pc' := 10) rfl rfl sX6_110 gX6_refuse (hM.1) ⟨Nat.le_of_ble_eq_true rfl, Nat.le_of_ble_eq_true rfl⟩ (Nat.le_of_ble_eq_true rfl) ⟨Nat.le_of_ble_eq_true rfl, Nat.le_of_ble_eq_true rfl⟩ ?_
    refine w_mRefuse (k := 3) (by decide) (by decide) hM (fun f1 hM1 hF1 => ⟨_, rfl, ?_⟩)
    exact x_ireturn rfl rfl rfl (Nat.le_of_ble_eq_true rfl) (Nat.le_of_ble_eq_true rfl) (h _)
  · refine x_if_ge (tgt := 11) (pc' := 4) rfl rfl rfl (fun _ => ?_) (fun q => absurd (Int32.not_lt.mp c1) q)
    refine x_iload_n (pc' := 12) rfl rfl rfl ?_
    refine x_bipush (pc' := 14) rfl rfl bipush_40 ?_
    by_cases c2 : 40 < a
    · have e : a_sounds a = -6 := by simp [a_sounds, c1, c2]
      rw [e] at h
      refine x_icmp_le (tgt := 24) (pc' := 17) rfl rfl rfl (fun q => absurd c2 (Int32.not_lt.mpr q)) (fun _ => ?_)
      refine x_aload_n (pc' := 18) rfl rfl rfl ?_
      refine x_bipush (pc' := 20) rfl rfl bipush_m6 ?_
      refine x_cV1i (d := 1) (pc' := 23) rfl rfl sX6_110 gX6_refuse (hM.1) ⟨Nat.le_of_ble_eq_true rfl, Nat.le_of_ble_eq_true rfl⟩ (Nat.le_of_ble_eq_true rfl) ⟨Nat.le_of_ble_eq_true rfl, Nat.le_of_ble_eq_true rfl⟩ ?_
      refine w_mRefuse (k := 5) (by decide) (by decide) hM (fun f1 hM1 hF1 => ⟨_, rfl, ?_⟩)
      exact x_ireturn rfl rfl rfl (Nat.le_of_ble_eq_true rfl) (Nat.le_of_ble_eq_true rfl) (h _)
    · obtain ⟨n, hn, rfl⟩ := nI_of2 (M := 40) (n := 40) (by decide) c1 (Int32.not_lt.mp c2)
      have e : a_sounds (nI n) = (if n = 0 then 1 else 0) := by
        by_cases hn0 : n = 0
        · subst hn0
          simp [a_sounds, c1, c2]
          decide
        · have hne : ¬ nI n = 0 := nI_ne0 (by omega) (by omega)
          simp [a_sounds, c1, c2, hne, hn0]
      rw [e] at h
      refine x_icmp_le (tgt := 24) (pc' := 17) rfl rfl rfl (fun _ => ?_) (fun q => absurd (Int32.not_lt.mp c2) q)
      refine x_aload_n (pc' := 25) rfl rfl rfl ?_
      refine x_cV0i (d := 2) (pc' := 28) rfl rfl sX6_208 gX6_isRow (hM.1) ⟨Nat.le_of_ble_eq_true rfl, Nat.le_of_ble_eq_true rfl⟩ (Nat.le_of_ble_eq_true rfl) ⟨Nat.le_of_ble_eq_true rfl, Nat.le_of_ble_eq_true rfl⟩ ?_
      refine m_isRow0 hM ⟨_, rfl, ?_⟩
      refine x_if_eq (tgt := 39) (pc' := 31) rfl rfl rfl (fun c28 => absurd c28 ((by decide))) (fun _ => ?_)
      refine x_aload_n (pc' := 32) rfl rfl rfl ?_
      refine x_iload_n (pc' := 33) rfl rfl rfl ?_
      refine x_cV1i (d := 3) (pc' := 36) rfl rfl sX6_212 gX6_waysOf (hM.1) ⟨Nat.le_of_ble_eq_true rfl, Nat.le_of_ble_eq_true rfl⟩ (Nat.le_of_ble_eq_true rfl) ⟨Nat.le_of_ble_eq_true rfl, Nat.le_of_ble_eq_true rfl⟩ ?_
      refine m_waysOf0 hn hM rfl (fun f1 => ⟨_, rfl, ?_⟩)
      refine x_goto (tgt := 45) rfl rfl ?_
      exact x_ireturn rfl rfl rfl (Nat.le_of_ble_eq_true rfl) (Nat.le_of_ble_eq_true rfl) (h _)
theorem m_next {a : Int32} (hM : x_Mdl z f x_M0) (h : x_R post (a_next a)) : Y E 9 mX6_next [.ref 59, .int a] z f 0 0 post := by
  refine Y.intro gX6_next (lv := [(0, .ref 59), (1, .int a)]) rfl (Nat.le_of_ble_eq_true rfl) ?_
  refine x_iload_n (pc' := 1) rfl rfl rfl ?_
  by_cases c1 : a < 0
  · have e : a_next a = -4 := by simp [a_next, c1]
    rw [e] at h
    refine x_if_ge (tgt := 11) (pc' := 4) rfl rfl rfl (fun q => absurd c1 (Int32.not_lt.mpr q)) (fun _ => ?_)
    refine x_aload_n (pc' := 5) rfl rfl rfl ?_
    refine x_bipush (pc' := 7) rfl rfl bipush_m4 ?_
    refine x_cV1i (d := 1) (pc' := 10) rfl rfl sX6_110 gX6_refuse (hM.1) ⟨Nat.le_of_ble_eq_true rfl, Nat.le_of_ble_eq_true rfl⟩ (Nat.le_of_ble_eq_true rfl) ⟨Nat.le_of_ble_eq_true rfl, Nat.le_of_ble_eq_true rfl⟩ ?_
    refine w_mRefuse (k := 3) (by decide) (by decide) hM (fun f1 hM1 hF1 => ⟨_, rfl, ?_⟩)
    exact x_ireturn rfl rfl rfl (Nat.le_of_ble_eq_true rfl) (Nat.le_of_ble_eq_true rfl) (h _)
  · refine x_if_ge (tgt := 11) (pc' := 4) rfl rfl rfl (fun _ => ?_) (fun q => absurd (Int32.not_lt.mp c1) q)
    refine x_iload_n (pc' := 12) rfl rfl rfl ?_
    refine x_bipush (pc' := 14) rfl rfl bipush_40 ?_
    by_cases c2 : 40 < a
    · have e : a_next a = -6 := by simp [a_next, c1, c2]
      rw [e] at h
      refine x_icmp_le (tgt := 24) (pc' := 17) rfl rfl rfl (fun q => absurd c2 (Int32.not_lt.mpr q)) (fun _ => ?_)
      refine x_aload_n (pc' := 18) rfl rfl rfl ?_
      refine x_bipush (pc' := 20) rfl rfl bipush_m6 ?_
      refine x_cV1i (d := 1) (pc' := 23) rfl rfl sX6_110 gX6_refuse (hM.1) ⟨Nat.le_of_ble_eq_true rfl, Nat.le_of_ble_eq_true rfl⟩ (Nat.le_of_ble_eq_true rfl) ⟨Nat.le_of_ble_eq_true rfl, Nat.le_of_ble_eq_true rfl⟩ ?_
      refine w_mRefuse (k := 5) (by decide) (by decide) hM (fun f1 hM1 hF1 => ⟨_, rfl, ?_⟩)
      exact x_ireturn rfl rfl rfl (Nat.le_of_ble_eq_true rfl) (Nat.le_of_ble_eq_true rfl) (h _)
    · have e : a_next a = -9 := by simp [a_next, c1, c2]
      rw [e] at h
      refine x_icmp_le (tgt := 24) (pc' := 17) rfl rfl rfl (fun _ => ?_) (fun q => absurd (Int32.not_lt.mp c2) q)
      refine x_aload_n (pc' := 25) rfl rfl rfl ?_
      refine x_cV0i (d := 2) (pc' := 28) rfl rfl sX6_208 gX6_isRow (hM.1) ⟨Nat.le_of_ble_eq_true rfl, Nat.le_of_ble_eq_true rfl⟩ (Nat.le_of_ble_eq_true rfl) ⟨Nat.le_of_ble_eq_true rfl, Nat.le_of_ble_eq_true rfl⟩ ?_
      refine m_isRow0 hM ⟨_, rfl, ?_⟩
      refine x_if_ne (tgt := 38) (pc' := 31) rfl rfl rfl (fun _ => ?_) (fun c28 => absurd c28 ((by decide)))
      refine x_bipush (pc' := 40) rfl rfl bipush_m9 ?_
      refine x_istore_n (pc' := 41) (lv' := [(2, _), (0, _), (1, _)]) rfl rfl (Nat.le_of_ble_eq_true rfl) rfl ?_
      refine x_iconst (pc' := 42) rfl rfl iconst_m1 ?_
      refine x_istore_n (pc' := 43) (lv' := [(3, _), (2, _), (0, _), (1, _)]) rfl rfl (Nat.le_of_ble_eq_true rfl) rfl ?_
      refine x_iconst (pc' := 44) rfl rfl iconst_0 ?_
      refine x_istore (pc' := 46) (lv' := [(4, _), (3, _), (2, _), (0, _), (1, _)]) rfl rfl (Nat.le_of_ble_eq_true rfl) rfl ?_
      refine x_iload (pc' := 48) rfl rfl rfl ?_
      refine x_aload_n (pc' := 49) rfl rfl rfl ?_
      refine x_get (pc' := 52) rfl rfl rfl (hM.1) rfl ?_
      refine x_icmp_ge (tgt := 138) (pc' := 55) rfl rfl rfl (fun _ => ?_) (fun c52 => absurd ((by decide : (0 : Int32) ≤ 0)) c52)
      refine x_iload_n (pc' := 139) rfl rfl rfl ?_
      exact x_ireturn rfl rfl rfl (Nat.le_of_ble_eq_true rfl) (Nat.le_of_ble_eq_true rfl) (h _)
theorem m_played {a : Int32} (hM : x_Mdl z f x_M0) (h : x_R post (a_played a)) : Y E 9 mX6_played [.ref 59, .int a] z f 0 0 post := by
  refine Y.intro gX6_played (lv := [(0, .ref 59), (1, .int a)]) rfl (Nat.le_of_ble_eq_true rfl) ?_
  have i1 : (1 : Int64) = (1 : Int32).toInt64 := by decide
  refine x_iload_n (pc' := 1) rfl rfl rfl ?_
  refine x_i2l (pc' := 2) rfl rfl ?_
  refine x_lconst (pc' := 3) rfl rfl lconst_0 ?_
  refine x_lconst (pc' := 4) rfl rfl lconst_1 ?_
  refine x_cS3i (d := 1) (pc' := 7) rfl rfl sX6_63 gX6_in ⟨Nat.le_of_ble_eq_true rfl, Nat.le_of_ble_eq_true rfl⟩ (Nat.le_of_ble_eq_true rfl) ⟨Nat.le_of_ble_eq_true rfl, Nat.le_of_ble_eq_true rfl⟩ ?_
  refine w_in (fun q => ⟨_, rfl, ?_⟩) (fun q => ⟨_, rfl, ?_⟩)
  all_goals rw [i64_0, i1, i64_lt, i64_lt] at q
  · have e : a_played a = 0 := by simp only [a_played, if_neg (not_or.mpr q)]
    rw [e] at h
    refine x_if_ne (tgt := 17) (pc' := 10) rfl rfl rfl (fun _ => ?_) (fun c7 => absurd c7 ((by decide)))
    refine x_aload_n (pc' := 18) rfl rfl rfl ?_
    refine x_iconst (pc' := 19) rfl rfl iconst_0 ?_
    refine x_cV1v (d := 1) (pc' := 22) rfl rfl sX6_154 gX6_keeps (hM.1) ⟨Nat.le_of_ble_eq_true rfl, Nat.le_of_ble_eq_true rfl⟩ (Nat.le_of_ble_eq_true rfl) ⟨Nat.le_of_ble_eq_true rfl, Nat.le_of_ble_eq_true rfl⟩ ?_
    refine w_keeps (l := 0) (by decide) hM (fun f1 hM1 hF1 => ⟨rfl, ?_⟩)
    refine x_aload_n (pc' := 23) rfl rfl rfl ?_
    refine x_cV0i (d := 3) (pc' := 26) rfl rfl sX6_215 gX6_plays (hM1.1) ⟨Nat.le_of_ble_eq_true rfl, Nat.le_of_ble_eq_true rfl⟩ (Nat.le_of_ble_eq_true rfl) ⟨Nat.le_of_ble_eq_true rfl, Nat.le_of_ble_eq_true rfl⟩ ?_
    refine m_plays0 hM1 rfl ⟨_, rfl, ?_⟩
    refine x_pop (pc' := 27) rfl rfl rfl ?_
    refine x_aload_n (pc' := 28) rfl rfl rfl ?_
    refine x_get (pc' := 31) rfl rfl rfl (hM1.1) rfl ?_
    refine x_iload_n (pc' := 32) rfl rfl rfl ?_
    refine x_iaload (pc' := 33) rfl rfl (hM1.2.1 2 (by decide)) ((by have t1 : (1 : Int32).toInt = 1 := (by decide); have t0 : (0 : Int32).toInt = 0 := (by decide); have q1 := q.1; have q2 := q.2; rw [i32_lit] at q1 q2; rw [vp_in_iff]; exact ⟨by omega, by show _ < ((2 : Nat) : Int); omega⟩)) ?_
    refine x_istore_n (pc' := 34) (lv' := [(2, _), (0, _), (1, _)]) rfl rfl (Nat.le_of_ble_eq_true rfl) rfl ?_
    refine x_aload_n (pc' := 35) rfl rfl rfl ?_
    refine x_iconst (pc' := 36) rfl rfl iconst_0 ?_
    refine x_cV1v (d := 1) (pc' := 39) rfl rfl sX6_160 gX6_lays (hM1.1) ⟨Nat.le_of_ble_eq_true rfl, Nat.le_of_ble_eq_true rfl⟩ (Nat.le_of_ble_eq_true rfl) ⟨Nat.le_of_ble_eq_true rfl, Nat.le_of_ble_eq_true rfl⟩ ?_
    refine w_lays (l := 0) (by decide) hM1 (fun f2 hM2 hF2 => ⟨rfl, ?_⟩)
    refine x_iload_n (pc' := 40) rfl rfl rfl ?_
    exact x_ireturn rfl rfl rfl (Nat.le_of_ble_eq_true rfl) (Nat.le_of_ble_eq_true rfl) (h _)
  · have e : a_played a = -2 := by
      unfold a_played
      rw [if_pos]
      by_cases q1 : a < 0
      · exact Or.inl q1
      · exact Or.inr (Decidable.not_not.mp (fun q2 => q ⟨q1, q2⟩))
    rw [e] at h
    refine x_if_ne (tgt := 17) (pc' := 10) rfl rfl rfl (fun c7 => absurd ((by decide)) c7) (fun _ => ?_)
    refine x_aload_n (pc' := 11) rfl rfl rfl ?_
    refine x_bipush (pc' := 13) rfl rfl bipush_m2 ?_
    refine x_cV1i (d := 1) (pc' := 16) rfl rfl sX6_110 gX6_refuse (hM.1) ⟨Nat.le_of_ble_eq_true rfl, Nat.le_of_ble_eq_true rfl⟩ (Nat.le_of_ble_eq_true rfl) ⟨Nat.le_of_ble_eq_true rfl, Nat.le_of_ble_eq_true rfl⟩ ?_
    refine w_mRefuse (k := 1) (by decide) (by decide) hM (fun f1 hM1 hF1 => ⟨_, rfl, ?_⟩)
    exact x_ireturn rfl rfl rfl (Nat.le_of_ble_eq_true rfl) (Nat.le_of_ble_eq_true rfl) (h _)
theorem m_image1 (h : x_R post 0) : ∀ (k i : Nat) (g : x_H) (M' : x_N), i + k = 9 → x_Mdl z g M' → M'.1 8 = 0 → X E (x_rm 9 0 0) mX6_image (x_QM E z 0 0 post) 33 [(1, .int (nI i)), (0, .ref 59)] [] z g 0 0 := by
  intro k
  induction k with
  | zero =>
    intro i g M' hi hM' e8
    have hi2 : i = 9 := by omega
    subst hi2
    refine x_iload_n (pc' := 34) rfl rfl rfl ?_
    refine x_bipush (pc' := 36) rfl rfl bipush_9 ?_
    refine x_icmp_ge (tgt := 57) (pc' := 39) rfl rfl rfl (fun _ => ?_) (fun c36 => absurd ((by decide : (9 : Int32) ≤ nI 9)) c36)
    refine x_aload_n (pc' := 58) rfl rfl rfl ?_
    refine x_aload_n (pc' := 59) rfl rfl rfl ?_
    refine x_get (pc' := 62) rfl rfl rfl (hM'.1) rfl ?_
    refine x_put (pc' := 65) rfl rfl rfl (hM'.1) (Nat.le_of_ble_eq_true rfl) rfl rfl rfl rfl (fun f1 e1 => ?_)
    have hM1 := hM'.num 28 e1 (x_mFs28 _ _)
    refine x_aload_n (pc' := 66) rfl rfl rfl ?_
    refine x_aload_n (pc' := 67) rfl rfl rfl ?_
    refine x_get (pc' := 70) rfl rfl rfl (hM1.1) rfl ?_
    refine x_put (pc' := 73) rfl rfl rfl (hM1.1) (Nat.le_of_ble_eq_true rfl) rfl rfl rfl rfl (fun f2 e2 => ?_)
    have hM2 := hM1.num 29 e2 (x_mFs29 _ _)
    refine x_aload_n (pc' := 74) rfl rfl rfl ?_
    refine x_aload_n (pc' := 75) rfl rfl rfl ?_
    refine x_get (pc' := 78) rfl rfl rfl (hM2.1) rfl ?_
    refine x_put (pc' := 81) rfl rfl rfl (hM2.1) (Nat.le_of_ble_eq_true rfl) rfl rfl rfl rfl (fun f3 e3 => ?_)
    have hM3 := hM2.num 30 e3 (x_mFs30 _ _)
    refine x_aload_n (pc' := 82) rfl rfl rfl ?_
    refine x_aload_n (pc' := 83) rfl rfl rfl ?_
    refine x_get (pc' := 86) rfl rfl rfl (hM3.1) rfl ?_
    refine x_put (pc' := 89) rfl rfl rfl (hM3.1) (Nat.le_of_ble_eq_true rfl) rfl rfl rfl rfl (fun f4 e4 => ?_)
    have hM4 := hM3.num 31 e4 (x_mFs31 _ _)
    refine x_aload_n (pc' := 90) rfl rfl rfl ?_
    refine x_get (pc' := 93) rfl rfl rfl (hM4.1) rfl ?_
    refine x_eqi (show _ = (0 : Int32) from e8) ?_
    exact x_ireturn rfl rfl rfl (Nat.le_of_ble_eq_true rfl) (Nat.le_of_ble_eq_true rfl) (h _)
  | succ k ih =>
    intro i g M' hi hM' e8
    refine x_iload_n (pc' := 34) rfl rfl rfl ?_
    refine x_bipush (pc' := 36) rfl rfl bipush_9 ?_
    refine x_icmp_ge (tgt := 57) (pc' := 39) rfl rfl rfl (fun c36 => absurd c36 (Int32.not_le.mpr (nI_lt (a := i) (b := 9) (by omega) (by decide)))) (fun _ => ?_)
    refine x_aload_n (pc' := 40) rfl rfl rfl ?_
    refine x_get (pc' := 43) rfl rfl rfl (hM'.1) rfl ?_
    refine x_iload_n (pc' := 44) rfl rfl rfl ?_
    refine x_aload_n (pc' := 45) rfl rfl rfl ?_
    refine x_get (pc' := 48) rfl rfl rfl (hM'.1) rfl ?_
    refine x_iload_n (pc' := 49) rfl rfl rfl ?_
    refine x_iaload (pc' := 50) rfl rfl (hM'.2.1 0 (by decide)) (vp_in_nI (n := i) (N := 9) (by omega) (by decide)) ?_
    refine x_iastore (pc' := 51) rfl rfl (hM'.2.1 10 (by decide)) (vp_in_nI (n := i) (N := 9) (by omega) (by decide)) (fun f1 e1 => ?_)
    have hM1 := hM'.arr 10 (by decide) e1
    refine x_iinc (pc' := 54) (lv' := [(1, _), (0, _)]) rfl rfl (Nat.le_of_ble_eq_true rfl) rfl (nI_1 i) rfl ?_
    refine x_goto (tgt := 33) rfl rfl ?_
    exact ih (i + 1) _ _ (by omega) hM1 e8
theorem m_image0 (h : x_R post 0) : ∀ (k i : Nat) (g : x_H) (M' : x_N), i + k = 12 → x_Mdl z g M' → M'.1 8 = 0 → X E (x_rm 9 0 0) mX6_image (x_QM E z 0 0 post) 7 [(1, .int (nI i)), (0, .ref 59)] [] z g 0 0 := by
  intro k
  induction k with
  | zero =>
    intro i g M' hi hM' e8
    have hi2 : i = 12 := by omega
    subst hi2
    refine x_iload_n (pc' := 8) rfl rfl rfl ?_
    refine x_bipush (pc' := 10) rfl rfl bipush_12 ?_
    refine x_icmp_ge (tgt := 31) (pc' := 13) rfl rfl rfl (fun _ => ?_) (fun c10 => absurd ((by decide : (12 : Int32) ≤ nI 12)) c10)
    refine x_iconst (pc' := 32) rfl rfl iconst_0 ?_
    refine x_istore_n (pc' := 33) (lv' := [(1, _), (0, _)]) rfl rfl (Nat.le_of_ble_eq_true rfl) rfl ?_
    exact m_image1 h 9 0 _ M' (by omega) hM' e8
  | succ k ih =>
    intro i g M' hi hM' e8
    refine x_iload_n (pc' := 8) rfl rfl rfl ?_
    refine x_bipush (pc' := 10) rfl rfl bipush_12 ?_
    refine x_icmp_ge (tgt := 31) (pc' := 13) rfl rfl rfl (fun c10 => absurd c10 (Int32.not_le.mpr (nI_lt (a := i) (b := 12) (by omega) (by decide)))) (fun _ => ?_)
    refine x_aload_n (pc' := 14) rfl rfl rfl ?_
    refine x_get (pc' := 17) rfl rfl rfl (hM'.1) rfl ?_
    refine x_iload_n (pc' := 18) rfl rfl rfl ?_
    refine x_aload_n (pc' := 19) rfl rfl rfl ?_
    refine x_get (pc' := 22) rfl rfl rfl (hM'.1) rfl ?_
    refine x_iload_n (pc' := 23) rfl rfl rfl ?_
    refine x_iaload (pc' := 24) rfl rfl (hM'.2.1 6 (by decide)) (vp_in_nI (n := i) (N := 96) (by omega) (by decide)) ?_
    refine x_iastore (pc' := 25) rfl rfl (hM'.2.1 9 (by decide)) (vp_in_nI (n := i) (N := 12) (by omega) (by decide)) (fun f1 e1 => ?_)
    have hM1 := hM'.arr 9 (by decide) e1
    refine x_iinc (pc' := 28) (lv' := [(1, _), (0, _)]) rfl rfl (Nat.le_of_ble_eq_true rfl) rfl (nI_1 i) rfl ?_
    refine x_goto (tgt := 7) rfl rfl ?_
    exact ih (i + 1) _ _ (by omega) hM1 e8
theorem m_image (hM : x_Mdl z f x_M0) (h : x_R post 0) : Y E 9 mX6_image [.ref 59] z f 0 0 post := by
  refine Y.intro gX6_image (lv := [(0, .ref 59)]) rfl (Nat.le_of_ble_eq_true rfl) ?_
  refine x_aload_n (pc' := 1) rfl rfl rfl ?_
  refine x_iconst (pc' := 2) rfl rfl iconst_0 ?_
  refine x_cV1v (d := 1) (pc' := 5) rfl rfl sX6_154 gX6_keeps (hM.1) ⟨Nat.le_of_ble_eq_true rfl, Nat.le_of_ble_eq_true rfl⟩ (Nat.le_of_ble_eq_true rfl) ⟨Nat.le_of_ble_eq_true rfl, Nat.le_of_ble_eq_true rfl⟩ ?_
  refine w_keeps (l := 0) (by decide) hM (fun f1 hM1 hF1 => ⟨rfl, ?_⟩)
  refine x_iconst (pc' := 6) rfl rfl iconst_0 ?_
  refine x_istore_n (pc' := 7) (lv' := [(1, _), (0, _)]) rfl rfl (Nat.le_of_ble_eq_true rfl) rfl ?_
  exact m_image0 h 12 0 _ _ (by omega) hM1 rfl
theorem m_all0 (hM : x_Mdl z f x_M0) (h : post (some (.int 0)) f) : Y E 3 mX6_all [.ref 59] z f 0 0 post := by
  refine Y.intro gX6_all (lv := [(0, .ref 59)]) rfl (Nat.le_of_ble_eq_true rfl) ?_
  refine x_iconst (pc' := 1) rfl rfl iconst_0 ?_
  refine x_istore_n (pc' := 2) (lv' := [(1, _), (0, _)]) rfl rfl (Nat.le_of_ble_eq_true rfl) rfl ?_
  refine x_iconst (pc' := 3) rfl rfl iconst_0 ?_
  refine x_istore_n (pc' := 4) (lv' := [(2, _), (1, _), (0, _)]) rfl rfl (Nat.le_of_ble_eq_true rfl) rfl ?_
  refine x_iload_n (pc' := 5) rfl rfl rfl ?_
  refine x_aload_n (pc' := 6) rfl rfl rfl ?_
  refine x_get (pc' := 9) rfl rfl rfl (hM.1) rfl ?_
  refine x_icmp_ge (tgt := 27) (pc' := 12) rfl rfl rfl (fun _ => ?_) (fun c9 => absurd ((by decide : (0 : Int32) ≤ 0)) c9)
  refine x_iload_n (pc' := 28) rfl rfl rfl ?_
  exact x_ireturn rfl rfl rfl (Nat.le_of_ble_eq_true rfl) (Nat.le_of_ble_eq_true rfl) (h)
end FRESHN
