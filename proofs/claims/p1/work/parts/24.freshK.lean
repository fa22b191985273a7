/-! The reference's count on a new object. -/
section FRESHK
variable {E : x_E} {z : Nat} {f : x_H} {post : Option Value → x_H → Prop}
theorem m_count {a : Int32} (hM : x_Mdl z f x_M0) (h : x_R post (a_count a)) : Y E 9 mX6_count [.ref 59, .int a] z f 0 0 post := by
  refine Y.intro gX6_count (lv := [(0, .ref 59), (1, .int a)]) rfl (Nat.le_of_ble_eq_true rfl) ?_
  have i11 : (11 : Int64) = (11 : Int32).toInt64 := by decide
  have i16 : (16 : Int64) = (16 : Int32).toInt64 := by decide
  have i9 : (9 : Int64) = (9 : Int32).toInt64 := by decide
  by_cases d1 : ¬ a < 11 ∧ ¬ 16 < a
  · have t11 : (11 : Int32).toInt = 11 := by decide
    have t0 : (0 : Int32).toInt = 0 := by decide
    have d3 : ¬ a < 0 := by
      have d4 := d1.1
      rw [i32_lit] at d4 ⊢
      omega
    obtain ⟨n, hn, rfl⟩ := nI_of2 (M := 16) (n := 16) (by decide) d3 (Int32.not_lt.mp d1.2)
    have hn11 : 11 ≤ n := Nat.not_lt.mp (fun q => d1.1 (nI_lt (a := n) (b := 11) q (by decide)))
    have q6 : ¬ nI n = 6 := fun q => absurd ((nI_eq (a := n) (b := 6) (by omega) (by decide)).mp q) (by omega)
    have e : a_count (nI n) = 0 := by
      unfold a_count
      rw [if_neg q6, if_pos (Or.inr d1)]
    rw [e] at h
    refine x_iload_n (pc' := 1) rfl rfl rfl ?_
    refine x_i2l (pc' := 2) rfl rfl ?_
    refine x_ldc2 (pc' := 5) rfl rfl rfl ?_
    refine x_ldc2 (pc' := 8) rfl rfl rfl ?_
    refine x_cS3i (d := 1) (pc' := 11) rfl rfl sX6_63 gX6_in ⟨Nat.le_of_ble_eq_true rfl, Nat.le_of_ble_eq_true rfl⟩ (Nat.le_of_ble_eq_true rfl) ⟨Nat.le_of_ble_eq_true rfl, Nat.le_of_ble_eq_true rfl⟩ ?_
    refine w_in (fun _ => ⟨_, rfl, ?_⟩) (fun q => absurd (by rw [i11, i16, i64_lt, i64_lt]; exact d1) q)
    refine x_if_eq (tgt := 24) (pc' := 14) rfl rfl rfl (fun c11 => absurd c11 ((by decide))) (fun _ => ?_)
    refine x_aload_n (pc' := 15) rfl rfl rfl ?_
    refine x_get (pc' := 18) rfl rfl rfl (hM.1) rfl ?_
    refine x_iload_n (pc' := 19) rfl rfl rfl ?_
    refine x_bipush (pc' := 21) rfl rfl bipush_11 ?_
    refine x_isub (pc' := 22) rfl rfl ?_
    refine x_eqi (show nI n - 11 = nI (n - 11) from pk_sub (a := n) (b := 11) (by omega)) ?_
    refine x_iaload (pc' := 23) rfl rfl (hM.2.1 3 (by decide)) (vp_in_nI (n := n - 11) (N := 6) (by omega) (by decide)) ?_
    exact x_ireturn rfl rfl rfl (Nat.le_of_ble_eq_true rfl) (Nat.le_of_ble_eq_true rfl) (h _)
  · by_cases d2 : ¬ a < 0 ∧ ¬ 9 < a
    · obtain ⟨n, hn, rfl⟩ := nI_of2 (M := 9) (n := 9) (by decide) d2.1 (Int32.not_lt.mp d2.2)
      have hk : n = 0 ∨ n = 1 ∨ n = 2 ∨ n = 3 ∨ n = 4 ∨ n = 5 ∨ n = 6 ∨ n = 7 ∨ n = 8 ∨ n = 9 := by omega
      rcases hk with rfl | rfl | rfl | rfl | rfl | rfl | rfl | rfl | rfl | rfl
      · have e : a_count (nI 0) = 0 := by decide
        rw [e] at h
        refine x_iload_n (pc' := 1) rfl rfl rfl ?_
        refine x_i2l (pc' := 2) rfl rfl ?_
        refine x_ldc2 (pc' := 5) rfl rfl rfl ?_
        refine x_ldc2 (pc' := 8) rfl rfl rfl ?_
        refine x_cS3i (d := 1) (pc' := 11) rfl rfl sX6_63 gX6_in ⟨Nat.le_of_ble_eq_true rfl, Nat.le_of_ble_eq_true rfl⟩ (Nat.le_of_ble_eq_true rfl) ⟨Nat.le_of_ble_eq_true rfl, Nat.le_of_ble_eq_true rfl⟩ ?_
        refine w_in (fun q => absurd q (by decide)) (fun _ => ⟨_, rfl, ?_⟩)
        refine x_if_eq (tgt := 24) (pc' := 14) rfl rfl rfl (fun _ => ?_) (fun c11 => absurd ((by decide)) c11)
        refine x_iload_n (pc' := 25) rfl rfl rfl ?_
        refine x_i2l (pc' := 26) rfl rfl ?_
        refine x_lconst (pc' := 27) rfl rfl lconst_0 ?_
        refine x_ldc2 (pc' := 30) rfl rfl rfl ?_
        refine x_cS3i (d := 1) (pc' := 33) rfl rfl sX6_63 gX6_in ⟨Nat.le_of_ble_eq_true rfl, Nat.le_of_ble_eq_true rfl⟩ (Nat.le_of_ble_eq_true rfl) ⟨Nat.le_of_ble_eq_true rfl, Nat.le_of_ble_eq_true rfl⟩ ?_
        refine w_in (fun _ => ⟨_, rfl, ?_⟩) (fun q => absurd (by decide) q)
        refine x_if_ne (tgt := 39) (pc' := 36) rfl rfl rfl (fun _ => ?_) (fun c33 => absurd c33 ((by decide)))
        refine x_iload_n (pc' := 40) rfl rfl rfl ?_
        refine x_iconst (pc' := 41) rfl rfl iconst_4 ?_
        refine x_icmp_ge (tgt := 76) (pc' := 44) rfl rfl rfl (fun c41 => absurd c41 ((by decide : ¬ (4 : Int32) ≤ nI 0))) (fun _ => ?_)
        refine x_iload_n (pc' := 45) rfl rfl rfl ?_
        refine x_if_ne (tgt := 55) (pc' := 48) rfl rfl rfl (fun c45 => absurd (rfl) c45) (fun _ => ?_)
        refine x_aload_n (pc' := 49) rfl rfl rfl ?_
        refine x_get (pc' := 52) rfl rfl rfl (hM.1) rfl ?_
        refine x_goto (tgt := 75) rfl rfl ?_
        exact x_ireturn rfl rfl rfl (Nat.le_of_ble_eq_true rfl) (Nat.le_of_ble_eq_true rfl) (h _)
      · have e : a_count (nI 1) = 0 := by decide
        rw [e] at h
        refine x_iload_n (pc' := 1) rfl rfl rfl ?_
        refine x_i2l (pc' := 2) rfl rfl ?_
        refine x_ldc2 (pc' := 5) rfl rfl rfl ?_
        refine x_ldc2 (pc' := 8) rfl rfl rfl ?_
        refine x_cS3i (d := 1) (pc' := 11) rfl rfl sX6_63 gX6_in ⟨Nat.le_of_ble_eq_true rfl, Nat.le_of_ble_eq_true rfl⟩ (Nat.le_of_ble_eq_true rfl) ⟨Nat.le_of_ble_eq_true rfl, Nat.le_of_ble_eq_true rfl⟩ ?_
        refine w_in (fun q => absurd q (by decide)) (fun _ => ⟨_, rfl, ?_⟩)
        refine x_if_eq (tgt := 24) (pc' := 14) rfl rfl rfl (fun _ => ?_) (fun c11 => absurd ((by decide)) c11)
        refine x_iload_n (pc' := 25) rfl rfl rfl ?_
        refine x_i2l (pc' := 26) rfl rfl ?_
        refine x_lconst (pc' := 27) rfl rfl lconst_0 ?_
        refine x_ldc2 (pc' := 30) rfl rfl rfl ?_
        refine x_cS3i (d := 1) (pc' := 33) rfl rfl sX6_63 gX6_in ⟨Nat.le_of_ble_eq_true rfl, Nat.le_of_ble_eq_true rfl⟩ (Nat.le_of_ble_eq_true rfl) ⟨Nat.le_of_ble_eq_true rfl, Nat.le_of_ble_eq_true rfl⟩ ?_
        refine w_in (fun _ => ⟨_, rfl, ?_⟩) (fun q => absurd (by decide) q)
        refine x_if_ne (tgt := 39) (pc' := 36) rfl rfl rfl (fun _ => ?_) (fun c33 => absurd c33 ((by decide)))
        refine x_iload_n (pc' := 40) rfl rfl rfl ?_
        refine x_iconst (pc' := 41) rfl rfl iconst_4 ?_
        refine x_icmp_ge (tgt := 76) (pc' := 44) rfl rfl rfl (fun c41 => absurd c41 ((by decide : ¬ (4 : Int32) ≤ nI 1))) (fun _ => ?_)
        refine x_iload_n (pc' := 45) rfl rfl rfl ?_
        refine x_if_ne (tgt := 55) (pc' := 48) rfl rfl rfl (fun _ => ?_) (fun c45 => absurd c45 ((by decide : ¬ nI 1 = 0)))
        refine x_iload_n (pc' := 56) rfl rfl rfl ?_
        refine x_iconst (pc' := 57) rfl rfl iconst_1 ?_
        refine x_icmp_ne (tgt := 67) (pc' := 60) rfl rfl rfl (fun c57 => absurd (rfl) c57) (fun _ => ?_)
        refine x_aload_n (pc' := 61) rfl rfl rfl ?_
        refine x_cV0i (d := 3) (pc' := 64) rfl rfl sX6_169 gX6_all (hM.1) ⟨Nat.le_of_ble_eq_true rfl, Nat.le_of_ble_eq_true rfl⟩ (Nat.le_of_ble_eq_true rfl) ⟨Nat.le_of_ble_eq_true rfl, Nat.le_of_ble_eq_true rfl⟩ ?_
        refine m_all0 hM ⟨_, rfl, ?_⟩
        refine x_goto (tgt := 75) rfl rfl ?_
        exact x_ireturn rfl rfl rfl (Nat.le_of_ble_eq_true rfl) (Nat.le_of_ble_eq_true rfl) (h _)
      · have e : a_count (nI 2) = 0 := by decide
        rw [e] at h
        refine x_iload_n (pc' := 1) rfl rfl rfl ?_
        refine x_i2l (pc' := 2) rfl rfl ?_
        refine x_ldc2 (pc' := 5) rfl rfl rfl ?_
        refine x_ldc2 (pc' := 8) rfl rfl rfl ?_
        refine x_cS3i (d := 1) (pc' := 11) rfl rfl sX6_63 gX6_in ⟨Nat.le_of_ble_eq_true rfl, Nat.le_of_ble_eq_true rfl⟩ (Nat.le_of_ble_eq_true rfl) ⟨Nat.le_of_ble_eq_true rfl, Nat.le_of_ble_eq_true rfl⟩ ?_
        refine w_in (fun q => absurd q (by decide)) (fun _ => ⟨_, rfl, ?_⟩)
        refine x_if_eq (tgt := 24) (pc' := 14) rfl rfl rfl (fun _ => ?_) (fun c11 => absurd ((by decide)) c11)
        refine x_iload_n (pc' := 25) rfl rfl rfl ?_
        refine x_i2l (pc' := 26) rfl rfl ?_
        refine x_lconst (pc' := 27) rfl rfl lconst_0 ?_
        refine x_ldc2 (pc' := 30) rfl rfl rfl ?_
        refine x_cS3i (d := 1) (pc' := 33) rfl rfl sX6_63 gX6_in ⟨Nat.le_of_ble_eq_true rfl, Nat.le_of_ble_eq_true rfl⟩ (Nat.le_of_ble_eq_true rfl) ⟨Nat.le_of_ble_eq_true rfl, Nat.le_of_ble_eq_true rfl⟩ ?_
        refine w_in (fun _ => ⟨_, rfl, ?_⟩) (fun q => absurd (by decide) q)
        refine x_if_ne (tgt := 39) (pc' := 36) rfl rfl rfl (fun _ => ?_) (fun c33 => absurd c33 ((by decide)))
        refine x_iload_n (pc' := 40) rfl rfl rfl ?_
        refine x_iconst (pc' := 41) rfl rfl iconst_4 ?_
        refine x_icmp_ge (tgt := 76) (pc' := 44) rfl rfl rfl (fun c41 => absurd c41 ((by decide : ¬ (4 : Int32) ≤ nI 2))) (fun _ => ?_)
        refine x_iload_n (pc' := 45) rfl rfl rfl ?_
        refine x_if_ne (tgt := 55) (pc' := 48) rfl rfl rfl (fun _ => ?_) (fun c45 => absurd c45 ((by decide : ¬ nI 2 = 0)))
        refine x_iload_n (pc' := 56) rfl rfl rfl ?_
        refine x_iconst (pc' := 57) rfl rfl iconst_1 ?_
        refine x_icmp_ne (tgt := 67) (pc' := 60) rfl rfl rfl (fun _ => ?_) (fun c57 => absurd c57 ((by decide : ¬ nI 2 = 1)))
        refine x_aload_n (pc' := 68) rfl rfl rfl ?_
        refine x_get (pc' := 71) rfl rfl rfl (hM.1) rfl ?_
        refine x_iload_n (pc' := 72) rfl rfl rfl ?_
        refine x_iconst (pc' := 73) rfl rfl iconst_2 ?_
        refine x_isub (pc' := 74) rfl rfl ?_
        refine x_iaload (pc' := 75) rfl rfl (hM.2.1 2 (by decide)) ((show vp_in (nI 2 - 2) 2 from vp_in_nI (n := 0) (N := 2) (by decide) (by decide))) ?_
        exact x_ireturn rfl rfl rfl (Nat.le_of_ble_eq_true rfl) (Nat.le_of_ble_eq_true rfl) (h _)
      · have e : a_count (nI 3) = 0 := by decide
        rw [e] at h
        refine x_iload_n (pc' := 1) rfl rfl rfl ?_
        refine x_i2l (pc' := 2) rfl rfl ?_
        refine x_ldc2 (pc' := 5) rfl rfl rfl ?_
        refine x_ldc2 (pc' := 8) rfl rfl rfl ?_
        refine x_cS3i (d := 1) (pc' := 11) rfl rfl sX6_63 gX6_in ⟨Nat.le_of_ble_eq_true rfl, Nat.le_of_ble_eq_true rfl⟩ (Nat.le_of_ble_eq_true rfl) ⟨Nat.le_of_ble_eq_true rfl, Nat.le_of_ble_eq_true rfl⟩ ?_
        refine w_in (fun q => absurd q (by decide)) (fun _ => ⟨_, rfl, ?_⟩)
        refine x_if_eq (tgt := 24) (pc' := 14) rfl rfl rfl (fun _ => ?_) (fun c11 => absurd ((by decide)) c11)
        refine x_iload_n (pc' := 25) rfl rfl rfl ?_
        refine x_i2l (pc' := 26) rfl rfl ?_
        refine x_lconst (pc' := 27) rfl rfl lconst_0 ?_
        refine x_ldc2 (pc' := 30) rfl rfl rfl ?_
        refine x_cS3i (d := 1) (pc' := 33) rfl rfl sX6_63 gX6_in ⟨Nat.le_of_ble_eq_true rfl, Nat.le_of_ble_eq_true rfl⟩ (Nat.le_of_ble_eq_true rfl) ⟨Nat.le_of_ble_eq_true rfl, Nat.le_of_ble_eq_true rfl⟩ ?_
        refine w_in (fun _ => ⟨_, rfl, ?_⟩) (fun q => absurd (by decide) q)
        refine x_if_ne (tgt := 39) (pc' := 36) rfl rfl rfl (fun _ => ?_) (fun c33 => absurd c33 ((by decide)))
        refine x_iload_n (pc' := 40) rfl rfl rfl ?_
        refine x_iconst (pc' := 41) rfl rfl iconst_4 ?_
        refine x_icmp_ge (tgt := 76) (pc' := 44) rfl rfl rfl (fun c41 => absurd c41 ((by decide : ¬ (4 : Int32) ≤ nI 3))) (fun _ => ?_)
        refine x_iload_n (pc' := 45) rfl rfl rfl ?_
        refine x_if_ne (tgt := 55) (pc' := 48) rfl rfl rfl (fun _ => ?_) (fun c45 => absurd c45 ((by decide : ¬ nI 3 = 0)))
        refine x_iload_n (pc' := 56) rfl rfl rfl ?_
        refine x_iconst (pc' := 57) rfl rfl iconst_1 ?_
        refine x_icmp_ne (tgt := 67) (pc' := 60) rfl rfl rfl (fun _ => ?_) (fun c57 => absurd c57 ((by decide : ¬ nI 3 = 1)))
        refine x_aload_n (pc' := 68) rfl rfl rfl ?_
        refine x_get (pc' := 71) rfl rfl rfl (hM.1) rfl ?_
        refine x_iload_n (pc' := 72) rfl rfl rfl ?_
        refine x_iconst (pc' := 73) rfl rfl iconst_2 ?_
        refine x_isub (pc' := 74) rfl rfl ?_
        refine x_iaload (pc' := 75) rfl rfl (hM.2.1 2 (by decide)) ((show vp_in (nI 3 - 2) 2 from vp_in_nI (n := 1) (N := 2) (by decide) (by decide))) ?_
        exact x_ireturn rfl rfl rfl (Nat.le_of_ble_eq_true rfl) (Nat.le_of_ble_eq_true rfl) (h _)
      · have e : a_count (nI 4) = 0 := by decide
        rw [e] at h
        refine x_iload_n (pc' := 1) rfl rfl rfl ?_
        refine x_i2l (pc' := 2) rfl rfl ?_
        refine x_ldc2 (pc' := 5) rfl rfl rfl ?_
        refine x_ldc2 (pc' := 8) rfl rfl rfl ?_
        refine x_cS3i (d := 1) (pc' := 11) rfl rfl sX6_63 gX6_in ⟨Nat.le_of_ble_eq_true rfl, Nat.le_of_ble_eq_true rfl⟩ (Nat.le_of_ble_eq_true rfl) ⟨Nat.le_of_ble_eq_true rfl, Nat.le_of_ble_eq_true rfl⟩ ?_
        refine w_in (fun q => absurd q (by decide)) (fun _ => ⟨_, rfl, ?_⟩)
        refine x_if_eq (tgt := 24) (pc' := 14) rfl rfl rfl (fun _ => ?_) (fun c11 => absurd ((by decide)) c11)
        refine x_iload_n (pc' := 25) rfl rfl rfl ?_
        refine x_i2l (pc' := 26) rfl rfl ?_
        refine x_lconst (pc' := 27) rfl rfl lconst_0 ?_
        refine x_ldc2 (pc' := 30) rfl rfl rfl ?_
        refine x_cS3i (d := 1) (pc' := 33) rfl rfl sX6_63 gX6_in ⟨Nat.le_of_ble_eq_true rfl, Nat.le_of_ble_eq_true rfl⟩ (Nat.le_of_ble_eq_true rfl) ⟨Nat.le_of_ble_eq_true rfl, Nat.le_of_ble_eq_true rfl⟩ ?_
        refine w_in (fun _ => ⟨_, rfl, ?_⟩) (fun q => absurd (by decide) q)
        refine x_if_ne (tgt := 39) (pc' := 36) rfl rfl rfl (fun _ => ?_) (fun c33 => absurd c33 ((by decide)))
        refine x_iload_n (pc' := 40) rfl rfl rfl ?_
        refine x_iconst (pc' := 41) rfl rfl iconst_4 ?_
        refine x_icmp_ge (tgt := 76) (pc' := 44) rfl rfl rfl (fun _ => ?_) (fun c41 => absurd ((by decide : (4 : Int32) ≤ nI 4)) c41)
        refine x_iload_n (pc' := 77) rfl rfl rfl ?_
        refine x_iconst (pc' := 78) rfl rfl iconst_4 ?_
        refine x_icmp_ne (tgt := 88) (pc' := 81) rfl rfl rfl (fun c78 => absurd (rfl) c78) (fun _ => ?_)
        refine x_aload_n (pc' := 82) rfl rfl rfl ?_
        refine x_get (pc' := 85) rfl rfl rfl (hM.1) rfl ?_
        refine x_goto (tgt := 143) rfl rfl ?_
        exact x_ireturn rfl rfl rfl (Nat.le_of_ble_eq_true rfl) (Nat.le_of_ble_eq_true rfl) (h _)
      · have e : a_count (nI 5) = 0 := by decide
        rw [e] at h
        refine x_iload_n (pc' := 1) rfl rfl rfl ?_
        refine x_i2l (pc' := 2) rfl rfl ?_
        refine x_ldc2 (pc' := 5) rfl rfl rfl ?_
        refine x_ldc2 (pc' := 8) rfl rfl rfl ?_
        refine x_cS3i (d := 1) (pc' := 11) rfl rfl sX6_63 gX6_in ⟨Nat.le_of_ble_eq_true rfl, Nat.le_of_ble_eq_true rfl⟩ (Nat.le_of_ble_eq_true rfl) ⟨Nat.le_of_ble_eq_true rfl, Nat.le_of_ble_eq_true rfl⟩ ?_
        refine w_in (fun q => absurd q (by decide)) (fun _ => ⟨_, rfl, ?_⟩)
        refine x_if_eq (tgt := 24) (pc' := 14) rfl rfl rfl (fun _ => ?_) (fun c11 => absurd ((by decide)) c11)
        refine x_iload_n (pc' := 25) rfl rfl rfl ?_
        refine x_i2l (pc' := 26) rfl rfl ?_
        refine x_lconst (pc' := 27) rfl rfl lconst_0 ?_
        refine x_ldc2 (pc' := 30) rfl rfl rfl ?_
        refine x_cS3i (d := 1) (pc' := 33) rfl rfl sX6_63 gX6_in ⟨Nat.le_of_ble_eq_true rfl, Nat.le_of_ble_eq_true rfl⟩ (Nat.le_of_ble_eq_true rfl) ⟨Nat.le_of_ble_eq_true rfl, Nat.le_of_ble_eq_true rfl⟩ ?_
        refine w_in (fun _ => ⟨_, rfl, ?_⟩) (fun q => absurd (by decide) q)
        refine x_if_ne (tgt := 39) (pc' := 36) rfl rfl rfl (fun _ => ?_) (fun c33 => absurd c33 ((by decide)))
        refine x_iload_n (pc' := 40) rfl rfl rfl ?_
        refine x_iconst (pc' := 41) rfl rfl iconst_4 ?_
        refine x_icmp_ge (tgt := 76) (pc' := 44) rfl rfl rfl (fun _ => ?_) (fun c41 => absurd ((by decide : (4 : Int32) ≤ nI 5)) c41)
        refine x_iload_n (pc' := 77) rfl rfl rfl ?_
        refine x_iconst (pc' := 78) rfl rfl iconst_4 ?_
        refine x_icmp_ne (tgt := 88) (pc' := 81) rfl rfl rfl (fun _ => ?_) (fun c78 => absurd c78 ((by decide : ¬ nI 5 = 4)))
        refine x_iload_n (pc' := 89) rfl rfl rfl ?_
        refine x_iconst (pc' := 90) rfl rfl iconst_5 ?_
        refine x_icmp_ne (tgt := 100) (pc' := 93) rfl rfl rfl (fun c90 => absurd (rfl) c90) (fun _ => ?_)
        refine x_aload_n (pc' := 94) rfl rfl rfl ?_
        refine x_get (pc' := 97) rfl rfl rfl (hM.1) rfl ?_
        refine x_goto (tgt := 143) rfl rfl ?_
        exact x_ireturn rfl rfl rfl (Nat.le_of_ble_eq_true rfl) (Nat.le_of_ble_eq_true rfl) (h _)
      · have e : a_count (nI 6) = 4 := by decide
        rw [e] at h
        refine x_iload_n (pc' := 1) rfl rfl rfl ?_
        refine x_i2l (pc' := 2) rfl rfl ?_
        refine x_ldc2 (pc' := 5) rfl rfl rfl ?_
        refine x_ldc2 (pc' := 8) rfl rfl rfl ?_
        refine x_cS3i (d := 1) (pc' := 11) rfl rfl sX6_63 gX6_in ⟨Nat.le_of_ble_eq_true rfl, Nat.le_of_ble_eq_true rfl⟩ (Nat.le_of_ble_eq_true rfl) ⟨Nat.le_of_ble_eq_true rfl, Nat.le_of_ble_eq_true rfl⟩ ?_
        refine w_in (fun q => absurd q (by decide)) (fun _ => ⟨_, rfl, ?_⟩)
        refine x_if_eq (tgt := 24) (pc' := 14) rfl rfl rfl (fun _ => ?_) (fun c11 => absurd ((by decide)) c11)
        refine x_iload_n (pc' := 25) rfl rfl rfl ?_
        refine x_i2l (pc' := 26) rfl rfl ?_
        refine x_lconst (pc' := 27) rfl rfl lconst_0 ?_
        refine x_ldc2 (pc' := 30) rfl rfl rfl ?_
        refine x_cS3i (d := 1) (pc' := 33) rfl rfl sX6_63 gX6_in ⟨Nat.le_of_ble_eq_true rfl, Nat.le_of_ble_eq_true rfl⟩ (Nat.le_of_ble_eq_true rfl) ⟨Nat.le_of_ble_eq_true rfl, Nat.le_of_ble_eq_true rfl⟩ ?_
        refine w_in (fun _ => ⟨_, rfl, ?_⟩) (fun q => absurd (by decide) q)
        refine x_if_ne (tgt := 39) (pc' := 36) rfl rfl rfl (fun _ => ?_) (fun c33 => absurd c33 ((by decide)))
        refine x_iload_n (pc' := 40) rfl rfl rfl ?_
        refine x_iconst (pc' := 41) rfl rfl iconst_4 ?_
        refine x_icmp_ge (tgt := 76) (pc' := 44) rfl rfl rfl (fun _ => ?_) (fun c41 => absurd ((by decide : (4 : Int32) ≤ nI 6)) c41)
        refine x_iload_n (pc' := 77) rfl rfl rfl ?_
        refine x_iconst (pc' := 78) rfl rfl iconst_4 ?_
        refine x_icmp_ne (tgt := 88) (pc' := 81) rfl rfl rfl (fun _ => ?_) (fun c78 => absurd c78 ((by decide : ¬ nI 6 = 4)))
        refine x_iload_n (pc' := 89) rfl rfl rfl ?_
        refine x_iconst (pc' := 90) rfl rfl iconst_5 ?_
        refine x_icmp_ne (tgt := 100) (pc' := 93) rfl rfl rfl (fun _ => ?_) (fun c90 => absurd c90 ((by decide : ¬ nI 6 = 5)))
        refine x_iload_n (pc' := 101) rfl rfl rfl ?_
        refine x_bipush (pc' := 103) rfl rfl bipush_6 ?_
        refine x_icmp_ne (tgt := 113) (pc' := 106) rfl rfl rfl (fun c103 => absurd (rfl) c103) (fun _ => ?_)
        refine x_aload_n (pc' := 107) rfl rfl rfl ?_
        refine x_get (pc' := 110) rfl rfl rfl (hM.1) rfl ?_
        refine x_goto (tgt := 143) rfl rfl ?_
        exact x_ireturn rfl rfl rfl (Nat.le_of_ble_eq_true rfl) (Nat.le_of_ble_eq_true rfl) (h _)
      · have e : a_count (nI 7) = 0 := by decide
        rw [e] at h
        refine x_iload_n (pc' := 1) rfl rfl rfl ?_
        refine x_i2l (pc' := 2) rfl rfl ?_
        refine x_ldc2 (pc' := 5) rfl rfl rfl ?_
        refine x_ldc2 (pc' := 8) rfl rfl rfl ?_
        refine x_cS3i (d := 1) (pc' := 11) rfl rfl sX6_63 gX6_in ⟨Nat.le_of_ble_eq_true rfl, Nat.le_of_ble_eq_true rfl⟩ (Nat.le_of_ble_eq_true rfl) ⟨Nat.le_of_ble_eq_true rfl, Nat.le_of_ble_eq_true rfl⟩ ?_
        refine w_in (fun q => absurd q (by decide)) (fun _ => ⟨_, rfl, ?_⟩)
        refine x_if_eq (tgt := 24) (pc' := 14) rfl rfl rfl (fun _ => ?_) (fun c11 => absurd ((by decide)) c11)
        refine x_iload_n (pc' := 25) rfl rfl rfl ?_
        refine x_i2l (pc' := 26) rfl rfl ?_
        refine x_lconst (pc' := 27) rfl rfl lconst_0 ?_
        refine x_ldc2 (pc' := 30) rfl rfl rfl ?_
        refine x_cS3i (d := 1) (pc' := 33) rfl rfl sX6_63 gX6_in ⟨Nat.le_of_ble_eq_true rfl, Nat.le_of_ble_eq_true rfl⟩ (Nat.le_of_ble_eq_true rfl) ⟨Nat.le_of_ble_eq_true rfl, Nat.le_of_ble_eq_true rfl⟩ ?_
        refine w_in (fun _ => ⟨_, rfl, ?_⟩) (fun q => absurd (by decide) q)
        refine x_if_ne (tgt := 39) (pc' := 36) rfl rfl rfl (fun _ => ?_) (fun c33 => absurd c33 ((by decide)))
        refine x_iload_n (pc' := 40) rfl rfl rfl ?_
        refine x_iconst (pc' := 41) rfl rfl iconst_4 ?_
        refine x_icmp_ge (tgt := 76) (pc' := 44) rfl rfl rfl (fun _ => ?_) (fun c41 => absurd ((by decide : (4 : Int32) ≤ nI 7)) c41)
        refine x_iload_n (pc' := 77) rfl rfl rfl ?_
        refine x_iconst (pc' := 78) rfl rfl iconst_4 ?_
        refine x_icmp_ne (tgt := 88) (pc' := 81) rfl rfl rfl (fun _ => ?_) (fun c78 => absurd c78 ((by decide : ¬ nI 7 = 4)))
        refine x_iload_n (pc' := 89) rfl rfl rfl ?_
        refine x_iconst (pc' := 90) rfl rfl iconst_5 ?_
        refine x_icmp_ne (tgt := 100) (pc' := 93) rfl rfl rfl (fun _ => ?_) (fun c90 => absurd c90 ((by decide : ¬ nI 7 = 5)))
        refine x_iload_n (pc' := 101) rfl rfl rfl ?_
        refine x_bipush (pc' := 103) rfl rfl bipush_6 ?_
        refine x_icmp_ne (tgt := 113) (pc' := 106) rfl rfl rfl (fun _ => ?_) (fun c103 => absurd c103 ((by decide : ¬ nI 7 = 6)))
        refine x_iload_n (pc' := 114) rfl rfl rfl ?_
        refine x_bipush (pc' := 116) rfl rfl bipush_7 ?_
        refine x_icmp_ne (tgt := 126) (pc' := 119) rfl rfl rfl (fun c116 => absurd (rfl) c116) (fun _ => ?_)
        refine x_aload_n (pc' := 120) rfl rfl rfl ?_
        refine x_get (pc' := 123) rfl rfl rfl (hM.1) rfl ?_
        refine x_goto (tgt := 143) rfl rfl ?_
        exact x_ireturn rfl rfl rfl (Nat.le_of_ble_eq_true rfl) (Nat.le_of_ble_eq_true rfl) (h _)
      · have e : a_count (nI 8) = 0 := by decide
        rw [e] at h
        refine x_iload_n (pc' := 1) rfl rfl rfl ?_
        refine x_i2l (pc' := 2) rfl rfl ?_
        refine x_ldc2 (pc' := 5) rfl rfl rfl ?_
        refine x_ldc2 (pc' := 8) rfl rfl rfl ?_
        refine x_cS3i (d := 1) (pc' := 11) rfl rfl sX6_63 gX6_in ⟨Nat.le_of_ble_eq_true rfl, Nat.le_of_ble_eq_true rfl⟩ (Nat.le_of_ble_eq_true rfl) ⟨Nat.le_of_ble_eq_true rfl, Nat.le_of_ble_eq_true rfl⟩ ?_
        refine w_in (fun q => absurd q (by decide)) (fun _ => ⟨_, rfl, ?_⟩)
        refine x_if_eq (tgt := 24) (pc' := 14) rfl rfl rfl (fun _ => ?_) (fun c11 => absurd ((by decide)) c11)
        refine x_iload_n (pc' := 25) rfl rfl rfl ?_
        refine x_i2l (pc' := 26) rfl rfl ?_
        refine x_lconst (pc' := 27) rfl rfl lconst_0 ?_
        refine x_ldc2 (pc' := 30) rfl rfl rfl ?_
        refine x_cS3i (d := 1) (pc' := 33) rfl rfl sX6_63 gX6_in ⟨Nat.le_of_ble_eq_true rfl, Nat.le_of_ble_eq_true rfl⟩ (Nat.le_of_ble_eq_true rfl) ⟨Nat.le_of_ble_eq_true rfl, Nat.le_of_ble_eq_true rfl⟩ ?_
        refine w_in (fun _ => ⟨_, rfl, ?_⟩) (fun q => absurd (by decide) q)
        refine x_if_ne (tgt := 39) (pc' := 36) rfl rfl rfl (fun _ => ?_) (fun c33 => absurd c33 ((by decide)))
        refine x_iload_n (pc' := 40) rfl rfl rfl ?_
        refine x_iconst (pc' := 41) rfl rfl iconst_4 ?_
        refine x_icmp_ge (tgt := 76) (pc' := 44) rfl rfl rfl (fun _ => ?_) (fun c41 => absurd ((by decide : (4 : Int32) ≤ nI 8)) c41)
        refine x_iload_n (pc' := 77) rfl rfl rfl ?_
        refine x_iconst (pc' := 78) rfl rfl iconst_4 ?_
        refine x_icmp_ne (tgt := 88) (pc' := 81) rfl rfl rfl (fun _ => ?_) (fun c78 => absurd c78 ((by decide : ¬ nI 8 = 4)))
        refine x_iload_n (pc' := 89) rfl rfl rfl ?_
        refine x_iconst (pc' := 90) rfl rfl iconst_5 ?_
        refine x_icmp_ne (tgt := 100) (pc' := 93) rfl rfl rfl (fun _ => ?_) (fun c90 => absurd c90 ((by decide : ¬ nI 8 = 5)))
        refine x_iload_n (pc' := 101) rfl rfl rfl ?_
        refine x_bipush (pc' := 103) rfl rfl bipush_6 ?_
        refine x_icmp_ne (tgt := 113) (pc' := 106) rfl rfl rfl (fun _ => ?_) (fun c103 => absurd c103 ((by decide : ¬ nI 8 = 6)))
        refine x_iload_n (pc' := 114) rfl rfl rfl ?_
        refine x_bipush (pc' := 116) rfl rfl bipush_7 ?_
        refine x_icmp_ne (tgt := 126) (pc' := 119) rfl rfl rfl (fun _ => ?_) (fun c116 => absurd c116 ((by decide : ¬ nI 8 = 7)))
        refine x_iload_n (pc' := 127) rfl rfl rfl ?_
        refine x_bipush (pc' := 129) rfl rfl bipush_8 ?_
        refine x_icmp_ne (tgt := 139) (pc' := 132) rfl rfl rfl (fun c129 => absurd (rfl) c129) (fun _ => ?_)
        refine x_aload_n (pc' := 133) rfl rfl rfl ?_
        refine x_get (pc' := 136) rfl rfl rfl (hM.1) rfl ?_
        refine x_goto (tgt := 143) rfl rfl ?_
        exact x_ireturn rfl rfl rfl (Nat.le_of_ble_eq_true rfl) (Nat.le_of_ble_eq_true rfl) (h _)
      · have e : a_count (nI 9) = 0 := by decide
        rw [e] at h
        refine x_iload_n (pc' := 1) rfl rfl rfl ?_
        refine x_i2l (pc' := 2) rfl rfl ?_
        refine x_ldc2 (pc' := 5) rfl rfl rfl ?_
        refine x_ldc2 (pc' := 8) rfl rfl rfl ?_
        refine x_cS3i (d := 1) (pc' := 11) rfl rfl sX6_63 gX6_in ⟨Nat.le_of_ble_eq_true rfl, Nat.le_of_ble_eq_true rfl⟩ (Nat.le_of_ble_eq_true rfl) ⟨Nat.le_of_ble_eq_true rfl, Nat.le_of_ble_eq_true rfl⟩ ?_
        refine w_in (fun q => absurd q (by decide)) (fun _ => ⟨_, rfl, ?_⟩)
        refine x_if_eq (tgt := 24) (pc' := 14) rfl rfl rfl (fun _ => ?_) (fun c11 => absurd ((by decide)) c11)
        refine x_iload_n (pc' := 25) rfl rfl rfl ?_
        refine x_i2l (pc' := 26) rfl rfl ?_
        refine x_lconst (pc' := 27) rfl rfl lconst_0 ?_
        refine x_ldc2 (pc' := 30) rfl rfl rfl ?_
        refine x_cS3i (d := 1) (pc' := 33) rfl rfl sX6_63 gX6_in ⟨Nat.le_of_ble_eq_true rfl, Nat.le_of_ble_eq_true rfl⟩ (Nat.le_of_ble_eq_true rfl) ⟨Nat.le_of_ble_eq_true rfl, Nat.le_of_ble_eq_true rfl⟩ ?_
        refine w_in (fun _ => ⟨_, rfl, ?_⟩) (fun q => absurd (by decide) q)
        refine x_if_ne (tgt := 39) (pc' := 36) rfl rfl rfl (fun _ => ?_) (fun c33 => absurd c33 ((by decide)))
        refine x_iload_n (pc' := 40) rfl rfl rfl ?_
        refine x_iconst (pc' := 41) rfl rfl iconst_4 ?_
        refine x_icmp_ge (tgt := 76) (pc' := 44) rfl rfl rfl (fun _ => ?_) (fun c41 => absurd ((by decide : (4 : Int32) ≤ nI 9)) c41)
        refine x_iload_n (pc' := 77) rfl rfl rfl ?_
        refine x_iconst (pc' := 78) rfl rfl iconst_4 ?_
        refine x_icmp_ne (tgt := 88) (pc' := 81) rfl rfl rfl (fun _ => ?_) (fun c78 => absurd c78 ((by decide : ¬ nI 9 = 4)))
        refine x_iload_n (pc' := 89) rfl rfl rfl ?_
        refine x_iconst (pc' := 90) rfl rfl iconst_5 ?_
        refine x_icmp_ne (tgt := 100) (pc' := 93) rfl rfl rfl (fun _ => ?_) (fun c90 => absurd c90 ((by decide : ¬ nI 9 = 5)))
        refine x_iload_n (pc' := 101) rfl rfl rfl ?_
        refine x_bipush (pc' := 103) rfl rfl bipush_6 ?_
        refine x_icmp_ne (tgt := 113) (pc' := 106) rfl rfl rfl (fun _ => ?_) (fun c103 => absurd c103 ((by decide : ¬ nI 9 = 6)))
        refine x_iload_n (pc' := 114) rfl rfl rfl ?_
        refine x_bipush (pc' := 116) rfl rfl bipush_7 ?_
        refine x_icmp_ne (tgt := 126) (pc' := 119) rfl rfl rfl (fun _ => ?_) (fun c116 => absurd c116 ((by decide : ¬ nI 9 = 7)))
        refine x_iload_n (pc' := 127) rfl rfl rfl ?_
        refine x_bipush (pc' := 129) rfl rfl bipush_8 ?_
        refine x_icmp_ne (tgt := 139) (pc' := 132) rfl rfl rfl (fun _ => ?_) (fun c129 => absurd c129 ((by decide : ¬ nI 9 = 8)))
        refine x_aload_n (pc' := 140) rfl rfl rfl ?_
        refine x_get (pc' := 143) rfl rfl rfl (hM.1) rfl ?_
        exact x_ireturn rfl rfl rfl (Nat.le_of_ble_eq_true rfl) (Nat.le_of_ble_eq_true rfl) (h _)
    · have e : a_count a = -9 := by
        unfold a_count
        rw [if_neg, if_neg]
        · rintro (q | q)
          · exact d2 q
          · exact d1 q
        · intro q
          subst q
          exact d2 (by decide)
      rw [e] at h
      refine x_iload_n (pc' := 1) rfl rfl rfl ?_
      refine x_i2l (pc' := 2) rfl rfl ?_
      refine x_ldc2 (pc' := 5) rfl rfl rfl ?_
      refine x_ldc2 (pc' := 8) rfl rfl rfl ?_
      refine x_cS3i (d := 1) (pc' := 11) rfl rfl sX6_63 gX6_in ⟨Nat.le_of_ble_eq_true rfl, Nat.le_of_ble_eq_true rfl⟩ (Nat.le_of_ble_eq_true rfl) ⟨Nat.le_of_ble_eq_true rfl, Nat.le_of_ble_eq_true rfl⟩ ?_
      refine w_in (fun q => absurd (by rw [i11, i16, i64_lt, i64_lt] at q; exact q) d1) (fun _ => ⟨_, rfl, ?_⟩)
      refine x_if_eq (tgt := 24) (pc' := 14) rfl rfl rfl (fun _ => ?_) (fun c11 => absurd ((by decide)) c11)
      refine x_iload_n (pc' := 25) rfl rfl rfl ?_
      refine x_i2l (pc' := 26) rfl rfl ?_
      refine x_lconst (pc' := 27) rfl rfl lconst_0 ?_
      refine x_ldc2 (pc' := 30) rfl rfl rfl ?_
      refine x_cS3i (d := 1) (pc' := 33) rfl rfl sX6_63 gX6_in ⟨Nat.le_of_ble_eq_true rfl, Nat.le_of_ble_eq_true rfl⟩ (Nat.le_of_ble_eq_true rfl) ⟨Nat.le_of_ble_eq_true rfl, Nat.le_of_ble_eq_true rfl⟩ ?_
      refine w_in (fun q => absurd (by rw [i64_0, i9, i64_lt, i64_lt] at q; exact q) d2) (fun _ => ⟨_, rfl, ?_⟩)
      refine x_if_ne (tgt := 39) (pc' := 36) rfl rfl rfl (fun c33 => absurd ((by decide)) c33) (fun _ => ?_)
      refine x_bipush (pc' := 38) rfl rfl bipush_m9 ?_
      exact x_ireturn rfl rfl rfl (Nat.le_of_ble_eq_true rfl) (Nat.le_of_ble_eq_true rfl) (h _)
end FRESHK
