/-! The class's first answers: set and count. -/
theorem i32_lit (x y : Int32) : x < y ↔ x.toInt < y.toInt := Int32.lt_iff_toInt_lt
section FRESHC
variable {E : x_E} {z : Nat} {f : x_H} {post : Option Value → x_H → Prop}
theorem f_set {a b : Int32} (hS : x_Sys z f x_S0) (h : x_P post f (a_set a b)) : Y E 9 mX5_set [.ref 0, .int a, .int b] z f 0 0 post := by
  refine Y.intro gX5_set (lv := [(0, .ref 0), (1, .int a), (2, .int b)]) rfl (Nat.le_of_ble_eq_true rfl) ?_
  by_cases d0 : a < 0 ∨ 2 < a
  · have e : a_set a b = -2 := by simp only [a_set, if_pos d0]
    rw [e] at h
    rcases d0 with d1 | d1
    ·
      refine x_iload_n (pc' := 1) rfl rfl rfl ?_
      refine x_if_lt (tgt := 9) (pc' := 4) rfl rfl rfl (fun _ => ?_) (fun c1 => absurd (d1) c1)
      refine x_aload_n (pc' := 10) rfl rfl rfl ?_
      refine x_bipush (pc' := 12) rfl rfl bipush_m2 ?_
      refine x_cV1i (d := 1) (pc' := 15) rfl rfl sX5_68 gX5_refuse (hS.1) ⟨Nat.le_of_ble_eq_true rfl, Nat.le_of_ble_eq_true rfl⟩ (Nat.le_of_ble_eq_true rfl) ⟨Nat.le_of_ble_eq_true rfl, Nat.le_of_ble_eq_true rfl⟩ ?_
      refine w_refuse (k := 2) (by decide) (by decide) hS (fun f1 hS1 hF1 => ⟨_, rfl, ?_⟩)
      exact x_ireturn rfl rfl rfl (Nat.le_of_ble_eq_true rfl) (Nat.le_of_ble_eq_true rfl) (h _ hF1)
    · have d2 : ¬ a < 0 := fun q => absurd (Int32.lt_trans q (Int32.lt_trans (by decide : (0 : Int32) < 2) d1)) Int32.lt_irrefl
      refine x_iload_n (pc' := 1) rfl rfl rfl ?_
      refine x_if_lt (tgt := 9) (pc' := 4) rfl rfl rfl (fun c1 => absurd c1 (d2)) (fun _ => ?_)
      refine x_iload_n (pc' := 5) rfl rfl rfl ?_
      refine x_iconst (pc' := 6) rfl rfl iconst_2 ?_
      refine x_icmp_le (tgt := 16) (pc' := 9) rfl rfl rfl (fun c6 => absurd c6 (Int32.not_le.mpr d1)) (fun _ => ?_)
      refine x_aload_n (pc' := 10) rfl rfl rfl ?_
      refine x_bipush (pc' := 12) rfl rfl bipush_m2 ?_
      refine x_cV1i (d := 1) (pc' := 15) rfl rfl sX5_68 gX5_refuse (hS.1) ⟨Nat.le_of_ble_eq_true rfl, Nat.le_of_ble_eq_true rfl⟩ (Nat.le_of_ble_eq_true rfl) ⟨Nat.le_of_ble_eq_true rfl, Nat.le_of_ble_eq_true rfl⟩ ?_
      refine w_refuse (k := 2) (by decide) (by decide) hS (fun f1 hS1 hF1 => ⟨_, rfl, ?_⟩)
      exact x_ireturn rfl rfl rfl (Nat.le_of_ble_eq_true rfl) (Nat.le_of_ble_eq_true rfl) (h _ hF1)
  · have d1 : ¬ a < 0 := fun q => d0 (Or.inl q)
    have d2 : ¬ 2 < a := fun q => d0 (Or.inr q)
    obtain ⟨n, hn, rfl⟩ := nI_of2 (M := 2) (n := 2) (by decide) d1 (Int32.not_lt.mp d2)
    have hn3 : n = 0 ∨ n = 1 ∨ n = 2 := by omega
    rcases hn3 with rfl | rfl | rfl
    · by_cases d3 : b < 1
      · have e : a_set (nI 0) b = -4 := by simp only [a_set, if_neg d0, if_pos (by decide : nI 0 = (0 : Int32)), if_pos d3]
        rw [e] at h
        refine x_iload_n (pc' := 1) rfl rfl rfl ?_
        refine x_if_lt (tgt := 9) (pc' := 4) rfl rfl rfl (fun c1 => absurd c1 ((by decide : ¬ nI 0 < 0))) (fun _ => ?_)
        refine x_iload_n (pc' := 5) rfl rfl rfl ?_
        refine x_iconst (pc' := 6) rfl rfl iconst_2 ?_
        refine x_icmp_le (tgt := 16) (pc' := 9) rfl rfl rfl (fun _ => ?_) (fun c6 => absurd ((by decide : nI 0 ≤ (2 : Int32))) c6)
        refine x_iload_n (pc' := 17) rfl rfl rfl ?_
        refine x_iload_n (pc' := 18) rfl rfl rfl ?_
        refine x_if_ne (tgt := 25) (pc' := 21) rfl rfl rfl (fun c18 => absurd (rfl) c18) (fun _ => ?_)
        refine x_iconst (pc' := 22) rfl rfl iconst_1 ?_
        refine x_goto (tgt := 26) rfl rfl ?_
        refine x_icmp_ge (tgt := 36) (pc' := 29) rfl rfl rfl (fun c26 => absurd c26 (Int32.not_le.mpr d3)) (fun _ => ?_)
        refine x_aload_n (pc' := 30) rfl rfl rfl ?_
        refine x_bipush (pc' := 32) rfl rfl bipush_m4 ?_
        refine x_cV1i (d := 1) (pc' := 35) rfl rfl sX5_68 gX5_refuse (hS.1) ⟨Nat.le_of_ble_eq_true rfl, Nat.le_of_ble_eq_true rfl⟩ (Nat.le_of_ble_eq_true rfl) ⟨Nat.le_of_ble_eq_true rfl, Nat.le_of_ble_eq_true rfl⟩ ?_
        refine w_refuse (k := 4) (by decide) (by decide) hS (fun f1 hS1 hF1 => ⟨_, rfl, ?_⟩)
        exact x_ireturn rfl rfl rfl (Nat.le_of_ble_eq_true rfl) (Nat.le_of_ble_eq_true rfl) (h _ hF1)
      · by_cases d4 : 9 < b
        · have e : a_set (nI 0) b = -6 := by simp only [a_set, if_neg d0, if_pos (by decide : nI 0 = (0 : Int32)), if_neg d3, if_pos d4]
          rw [e] at h
          refine x_iload_n (pc' := 1) rfl rfl rfl ?_
          refine x_if_lt (tgt := 9) (pc' := 4) rfl rfl rfl (fun c1 => absurd c1 ((by decide : ¬ nI 0 < 0))) (fun _ => ?_)
          refine x_iload_n (pc' := 5) rfl rfl rfl ?_
          refine x_iconst (pc' := 6) rfl rfl iconst_2 ?_
          refine x_icmp_le (tgt := 16) (pc' := 9) rfl rfl rfl (fun _ => ?_) (fun c6 => absurd ((by decide : nI 0 ≤ (2 : Int32))) c6)
          refine x_iload_n (pc' := 17) rfl rfl rfl ?_
          refine x_iload_n (pc' := 18) rfl rfl rfl ?_
          refine x_if_ne (tgt := 25) (pc' := 21) rfl rfl rfl (fun c18 => absurd (rfl) c18) (fun _ => ?_)
          refine x_iconst (pc' := 22) rfl rfl iconst_1 ?_
          refine x_goto (tgt := 26) rfl rfl ?_
          refine x_icmp_ge (tgt := 36) (pc' := 29) rfl rfl rfl (fun _ => ?_) (fun c26 => absurd (Int32.not_lt.mp d3) c26)
          refine x_iload_n (pc' := 37) rfl rfl rfl ?_
          refine x_iload_n (pc' := 38) rfl rfl rfl ?_
          refine x_if_ne (tgt := 46) (pc' := 41) rfl rfl rfl (fun c38 => absurd (rfl) c38) (fun _ => ?_)
          refine x_bipush (pc' := 43) rfl rfl bipush_9 ?_
          refine x_goto (tgt := 47) rfl rfl ?_
          refine x_icmp_le (tgt := 57) (pc' := 50) rfl rfl rfl (fun c47 => absurd c47 (Int32.not_le.mpr d4)) (fun _ => ?_)
          refine x_aload_n (pc' := 51) rfl rfl rfl ?_
          refine x_bipush (pc' := 53) rfl rfl bipush_m6 ?_
          refine x_cV1i (d := 1) (pc' := 56) rfl rfl sX5_68 gX5_refuse (hS.1) ⟨Nat.le_of_ble_eq_true rfl, Nat.le_of_ble_eq_true rfl⟩ (Nat.le_of_ble_eq_true rfl) ⟨Nat.le_of_ble_eq_true rfl, Nat.le_of_ble_eq_true rfl⟩ ?_
          refine w_refuse (k := 6) (by decide) (by decide) hS (fun f1 hS1 hF1 => ⟨_, rfl, ?_⟩)
          exact x_ireturn rfl rfl rfl (Nat.le_of_ble_eq_true rfl) (Nat.le_of_ble_eq_true rfl) (h _ hF1)
        · have e : a_set (nI 0) b = 4 := by simp only [a_set, if_neg d0, if_pos (by decide : nI 0 = (0 : Int32)), if_neg d3, if_neg d4]
          rw [e] at h
          refine x_iload_n (pc' := 1) rfl rfl rfl ?_
          refine x_if_lt (tgt := 9) (pc' := 4) rfl rfl rfl (fun c1 => absurd c1 ((by decide : ¬ nI 0 < 0))) (fun _ => ?_)
          refine x_iload_n (pc' := 5) rfl rfl rfl ?_
          refine x_iconst (pc' := 6) rfl rfl iconst_2 ?_
          refine x_icmp_le (tgt := 16) (pc' := 9) rfl rfl rfl (fun _ => ?_) (fun c6 => absurd ((by decide : nI 0 ≤ (2 : Int32))) c6)
          refine x_iload_n (pc' := 17) rfl rfl rfl ?_
          refine x_iload_n (pc' := 18) rfl rfl rfl ?_
          refine x_if_ne (tgt := 25) (pc' := 21) rfl rfl rfl (fun c18 => absurd (rfl) c18) (fun _ => ?_)
          refine x_iconst (pc' := 22) rfl rfl iconst_1 ?_
          refine x_goto (tgt := 26) rfl rfl ?_
          refine x_icmp_ge (tgt := 36) (pc' := 29) rfl rfl rfl (fun _ => ?_) (fun c26 => absurd (Int32.not_lt.mp d3) c26)
          refine x_iload_n (pc' := 37) rfl rfl rfl ?_
          refine x_iload_n (pc' := 38) rfl rfl rfl ?_
          refine x_if_ne (tgt := 46) (pc' := 41) rfl rfl rfl (fun c38 => absurd (rfl) c38) (fun _ => ?_)
          refine x_bipush (pc' := 43) rfl rfl bipush_9 ?_
          refine x_goto (tgt := 47) rfl rfl ?_
          refine x_icmp_le (tgt := 57) (pc' := 50) rfl rfl rfl (fun _ => ?_) (fun c47 => absurd (Int32.not_lt.mp d4) c47)
          refine x_iload_n (pc' := 58) rfl rfl rfl ?_
          refine x_if_ne (tgt := 80) (pc' := 61) rfl rfl rfl (fun c58 => absurd (rfl) c58) (fun _ => ?_)
          refine x_aload_n (pc' := 62) rfl rfl rfl ?_
          refine x_get (pc' := 65) rfl rfl rfl (hS.1) rfl ?_
          refine x_get (pc' := 68) rfl rfl rfl ((hS.2.1 0 (by decide)).1) rfl ?_
          refine x_istore_n (pc' := 69) (lv' := [(3, _), (0, _), (1, _), (2, _)]) rfl rfl (Nat.le_of_ble_eq_true rfl) rfl ?_
          refine x_aload_n (pc' := 70) rfl rfl rfl ?_
          refine x_get (pc' := 73) rfl rfl rfl (hS.1) rfl ?_
          refine x_iload_n (pc' := 74) rfl rfl rfl ?_
          refine x_put (pc' := 77) rfl rfl rfl ((hS.2.1 0 (by decide)).1) (Nat.le_of_ble_eq_true rfl) rfl rfl rfl rfl (fun f1 e1 => ?_)
          refine x_goto (tgt := 120) rfl rfl ?_
          refine x_iload_n (pc' := 121) rfl rfl rfl ?_
          exact x_ireturn rfl rfl rfl (Nat.le_of_ble_eq_true rfl) (Nat.le_of_ble_eq_true rfl) (h _ (x_fr.rf.up e1 (by decide)))
    · by_cases d3 : b < 0
      · have e : a_set (nI 1) b = -4 := by simp only [a_set, if_neg d0, if_neg (by decide : ¬ nI 1 = (0 : Int32)), if_pos d3]
        rw [e] at h
        refine x_iload_n (pc' := 1) rfl rfl rfl ?_
        refine x_if_lt (tgt := 9) (pc' := 4) rfl rfl rfl (fun c1 => absurd c1 ((by decide : ¬ nI 1 < 0))) (fun _ => ?_)
        refine x_iload_n (pc' := 5) rfl rfl rfl ?_
        refine x_iconst (pc' := 6) rfl rfl iconst_2 ?_
        refine x_icmp_le (tgt := 16) (pc' := 9) rfl rfl rfl (fun _ => ?_) (fun c6 => absurd ((by decide : nI 1 ≤ (2 : Int32))) c6)
        refine x_iload_n (pc' := 17) rfl rfl rfl ?_
        refine x_iload_n (pc' := 18) rfl rfl rfl ?_
        refine x_if_ne (tgt := 25) (pc' := 21) rfl rfl rfl (fun _ => ?_) (fun c18 => absurd c18 ((by decide : ¬ nI 1 = 0)))
        refine x_iconst (pc' := 26) rfl rfl iconst_0 ?_
        refine x_icmp_ge (tgt := 36) (pc' := 29) rfl rfl rfl (fun c26 => absurd c26 (Int32.not_le.mpr d3)) (fun _ => ?_)
        refine x_aload_n (pc' := 30) rfl rfl rfl ?_
        refine x_bipush (pc' := 32) rfl rfl bipush_m4 ?_
        refine x_cV1i (d := 1) (pc' := 35) rfl rfl sX5_68 gX5_refuse (hS.1) ⟨Nat.le_of_ble_eq_true rfl, Nat.le_of_ble_eq_true rfl⟩ (Nat.le_of_ble_eq_true rfl) ⟨Nat.le_of_ble_eq_true rfl, Nat.le_of_ble_eq_true rfl⟩ ?_
        refine w_refuse (k := 4) (by decide) (by decide) hS (fun f1 hS1 hF1 => ⟨_, rfl, ?_⟩)
        exact x_ireturn rfl rfl rfl (Nat.le_of_ble_eq_true rfl) (Nat.le_of_ble_eq_true rfl) (h _ hF1)
      · by_cases d4 : 1 < b
        · have e : a_set (nI 1) b = -6 := by simp only [a_set, if_neg d0, if_neg (by decide : ¬ nI 1 = (0 : Int32)), if_neg d3, if_pos d4]
          rw [e] at h
          refine x_iload_n (pc' := 1) rfl rfl rfl ?_
          refine x_if_lt (tgt := 9) (pc' := 4) rfl rfl rfl (fun c1 => absurd c1 ((by decide : ¬ nI 1 < 0))) (fun _ => ?_)
          refine x_iload_n (pc' := 5) rfl rfl rfl ?_
          refine x_iconst (pc' := 6) rfl rfl iconst_2 ?_
          refine x_icmp_le (tgt := 16) (pc' := 9) rfl rfl rfl (fun _ => ?_) (fun c6 => absurd ((by decide : nI 1 ≤ (2 : Int32))) c6)
          refine x_iload_n (pc' := 17) rfl rfl rfl ?_
          refine x_iload_n (pc' := 18) rfl rfl rfl ?_
          refine x_if_ne (tgt := 25) (pc' := 21) rfl rfl rfl (fun _ => ?_) (fun c18 => absurd c18 ((by decide : ¬ nI 1 = 0)))
          refine x_iconst (pc' := 26) rfl rfl iconst_0 ?_
          refine x_icmp_ge (tgt := 36) (pc' := 29) rfl rfl rfl (fun _ => ?_) (fun c26 => absurd (Int32.not_lt.mp d3) c26)
          refine x_iload_n (pc' := 37) rfl rfl rfl ?_
          refine x_iload_n (pc' := 38) rfl rfl rfl ?_
          refine x_if_ne (tgt := 46) (pc' := 41) rfl rfl rfl (fun _ => ?_) (fun c38 => absurd c38 ((by decide : ¬ nI 1 = 0)))
          refine x_iconst (pc' := 47) rfl rfl iconst_1 ?_
          refine x_icmp_le (tgt := 57) (pc' := 50) rfl rfl rfl (fun c47 => absurd c47 (Int32.not_le.mpr d4)) (fun _ => ?_)
          refine x_aload_n (pc' := 51) rfl rfl rfl ?_
          refine x_bipush (pc' := 53) rfl rfl bipush_m6 ?_
          refine x_cV1i (d := 1) (pc' := 56) rfl rfl sX5_68 gX5_refuse (hS.1) ⟨Nat.le_of_ble_eq_true rfl, Nat.le_of_ble_eq_true rfl⟩ (Nat.le_of_ble_eq_true rfl) ⟨Nat.le_of_ble_eq_true rfl, Nat.le_of_ble_eq_true rfl⟩ ?_
          refine w_refuse (k := 6) (by decide) (by decide) hS (fun f1 hS1 hF1 => ⟨_, rfl, ?_⟩)
          exact x_ireturn rfl rfl rfl (Nat.le_of_ble_eq_true rfl) (Nat.le_of_ble_eq_true rfl) (h _ hF1)
        · have e : a_set (nI 1) b = 0 := by simp only [a_set, if_neg d0, if_neg (by decide : ¬ nI 1 = (0 : Int32)), if_neg d3, if_neg d4]
          rw [e] at h
          refine x_iload_n (pc' := 1) rfl rfl rfl ?_
          refine x_if_lt (tgt := 9) (pc' := 4) rfl rfl rfl (fun c1 => absurd c1 ((by decide : ¬ nI 1 < 0))) (fun _ => ?_)
          refine x_iload_n (pc' := 5) rfl rfl rfl ?_
          refine x_iconst (pc' := 6) rfl rfl iconst_2 ?_
          refine x_icmp_le (tgt := 16) (pc' := 9) rfl rfl rfl (fun _ => ?_) (fun c6 => absurd ((by decide : nI 1 ≤ (2 : Int32))) c6)
          refine x_iload_n (pc' := 17) rfl rfl rfl ?_
          refine x_iload_n (pc' := 18) rfl rfl rfl ?_
          refine x_if_ne (tgt := 25) (pc' := 21) rfl rfl rfl (fun _ => ?_) (fun c18 => absurd c18 ((by decide : ¬ nI 1 = 0)))
          refine x_iconst (pc' := 26) rfl rfl iconst_0 ?_
          refine x_icmp_ge (tgt := 36) (pc' := 29) rfl rfl rfl (fun _ => ?_) (fun c26 => absurd (Int32.not_lt.mp d3) c26)
          refine x_iload_n (pc' := 37) rfl rfl rfl ?_
          refine x_iload_n (pc' := 38) rfl rfl rfl ?_
          refine x_if_ne (tgt := 46) (pc' := 41) rfl rfl rfl (fun _ => ?_) (fun c38 => absurd c38 ((by decide : ¬ nI 1 = 0)))
          refine x_iconst (pc' := 47) rfl rfl iconst_1 ?_
          refine x_icmp_le (tgt := 57) (pc' := 50) rfl rfl rfl (fun _ => ?_) (fun c47 => absurd (Int32.not_lt.mp d4) c47)
          refine x_iload_n (pc' := 58) rfl rfl rfl ?_
          refine x_if_ne (tgt := 80) (pc' := 61) rfl rfl rfl (fun _ => ?_) (fun c58 => absurd c58 ((by decide : ¬ nI 1 = 0)))
          refine x_iload_n (pc' := 81) rfl rfl rfl ?_
          refine x_iconst (pc' := 82) rfl rfl iconst_1 ?_
          refine x_icmp_ne (tgt := 104) (pc' := 85) rfl rfl rfl (fun c82 => absurd (rfl) c82) (fun _ => ?_)
          refine x_aload_n (pc' := 86) rfl rfl rfl ?_
          refine x_get (pc' := 89) rfl rfl rfl (hS.1) rfl ?_
          refine x_get (pc' := 92) rfl rfl rfl ((hS.2.1 0 (by decide)).1) rfl ?_
          refine x_istore_n (pc' := 93) (lv' := [(3, _), (0, _), (1, _), (2, _)]) rfl rfl (Nat.le_of_ble_eq_true rfl) rfl ?_
          refine x_aload_n (pc' := 94) rfl rfl rfl ?_
          refine x_get (pc' := 97) rfl rfl rfl (hS.1) rfl ?_
          refine x_iload_n (pc' := 98) rfl rfl rfl ?_
          refine x_put (pc' := 101) rfl rfl rfl ((hS.2.1 0 (by decide)).1) (Nat.le_of_ble_eq_true rfl) rfl rfl rfl rfl (fun f1 e1 => ?_)
          refine x_goto (tgt := 120) rfl rfl ?_
          refine x_iload_n (pc' := 121) rfl rfl rfl ?_
          exact x_ireturn rfl rfl rfl (Nat.le_of_ble_eq_true rfl) (Nat.le_of_ble_eq_true rfl) (h _ (x_fr.rf.up e1 (by decide)))
    · by_cases d3 : b < 0
      · have e : a_set (nI 2) b = -4 := by simp only [a_set, if_neg d0, if_neg (by decide : ¬ nI 2 = (0 : Int32)), if_pos d3]
        rw [e] at h
        refine x_iload_n (pc' := 1) rfl rfl rfl ?_
        refine x_if_lt (tgt := 9) (pc' := 4) rfl rfl rfl (fun c1 => absurd c1 ((by decide : ¬ nI 2 < 0))) (fun _ => ?_)
        refine x_iload_n (pc' := 5) rfl rfl rfl ?_
        refine x_iconst (pc' := 6) rfl rfl iconst_2 ?_
        refine x_icmp_le (tgt := 16) (pc' := 9) rfl rfl rfl (fun _ => ?_) (fun c6 => absurd ((by decide : nI 2 ≤ (2 : Int32))) c6)
        refine x_iload_n (pc' := 17) rfl rfl rfl ?_
        refine x_iload_n (pc' := 18) rfl rfl rfl ?_
        refine x_if_ne (tgt := 25) (pc' := 21) rfl rfl rfl (fun _ => ?_) (fun c18 => absurd c18 ((by decide : ¬ nI 2 = 0)))
        refine x_iconst (pc' := 26) rfl rfl iconst_0 ?_
        refine x_icmp_ge (tgt := 36) (pc' := 29) rfl rfl rfl (fun c26 => absurd c26 (Int32.not_le.mpr d3)) (fun _ => ?_)
        refine x_aload_n (pc' := 30) rfl rfl rfl ?_
        refine x_bipush (pc' := 32) rfl rfl bipush_m4 ?_
        refine x_cV1i (d := 1) (pc' := 35) rfl rfl sX5_68 gX5_refuse (hS.1) ⟨Nat.le_of_ble_eq_true rfl, Nat.le_of_ble_eq_true rfl⟩ (Nat.le_of_ble_eq_true rfl) ⟨Nat.le_of_ble_eq_true rfl, Nat.le_of_ble_eq_true rfl⟩ ?_
        refine w_refuse (k := 4) (by decide) (by decide) hS (fun f1 hS1 hF1 => ⟨_, rfl, ?_⟩)
        exact x_ireturn rfl rfl rfl (Nat.le_of_ble_eq_true rfl) (Nat.le_of_ble_eq_true rfl) (h _ hF1)
      · by_cases d4 : 1 < b
        · have e : a_set (nI 2) b = -6 := by simp only [a_set, if_neg d0, if_neg (by decide : ¬ nI 2 = (0 : Int32)), if_neg d3, if_pos d4]
          rw [e] at h
          refine x_iload_n (pc' := 1) rfl rfl rfl ?_
          refine x_if_lt (tgt := 9) (pc' := 4) rfl rfl rfl (fun c1 => absurd c1 ((by decide : ¬ nI 2 < 0))) (fun _ => ?_)
          refine x_iload_n (pc' := 5) rfl rfl rfl ?_
          refine x_iconst (pc' := 6) rfl rfl iconst_2 ?_
          refine x_icmp_le (tgt := 16) (pc' := 9) rfl rfl rfl (fun _ => ?_) (fun c6 => absurd ((by decide : nI 2 ≤ (2 : Int32))) c6)
          refine x_iload_n (pc' := 17) rfl rfl rfl ?_
          refine x_iload_n (pc' := 18) rfl rfl rfl ?_
          refine x_if_ne (tgt := 25) (pc' := 21) rfl rfl rfl (fun _ => ?_) (fun c18 => absurd c18 ((by decide : ¬ nI 2 = 0)))
          refine x_iconst (pc' := 26) rfl rfl iconst_0 ?_
          refine x_icmp_ge (tgt := 36) (pc' := 29) rfl rfl rfl (fun _ => ?_) (fun c26 => absurd (Int32.not_lt.mp d3) c26)
          refine x_iload_n (pc' := 37) rfl rfl rfl ?_
          refine x_iload_n (pc' := 38) rfl rfl rfl ?_
          refine x_if_ne (tgt := 46) (pc' := 41) rfl rfl rfl (fun _ => ?_) (fun c38 => absurd c38 ((by decide : ¬ nI 2 = 0)))
          refine x_iconst (pc' := 47) rfl rfl iconst_1 ?_
          refine x_icmp_le (tgt := 57) (pc' := 50) rfl rfl rfl (fun c47 => absurd c47 (Int32.not_le.mpr d4)) (fun _ => ?_)
          refine x_aload_n (pc' := 51) rfl rfl rfl ?_
          refine x_bipush (pc' := 53) rfl rfl bipush_m6 ?_
          refine x_cV1i (d := 1) (pc' := 56) rfl rfl sX5_68 gX5_refuse (hS.1) ⟨Nat.le_of_ble_eq_true rfl, Nat.le_of_ble_eq_true rfl⟩ (Nat.le_of_ble_eq_true rfl) ⟨Nat.le_of_ble_eq_true rfl, Nat.le_of_ble_eq_true rfl⟩ ?_
          refine w_refuse (k := 6) (by decide) (by decide) hS (fun f1 hS1 hF1 => ⟨_, rfl, ?_⟩)
          exact x_ireturn rfl rfl rfl (Nat.le_of_ble_eq_true rfl) (Nat.le_of_ble_eq_true rfl) (h _ hF1)
        · have e : a_set (nI 2) b = 0 := by simp only [a_set, if_neg d0, if_neg (by decide : ¬ nI 2 = (0 : Int32)), if_neg d3, if_neg d4]
          rw [e] at h
          refine x_iload_n (pc' := 1) rfl rfl rfl ?_
          refine x_if_lt (tgt := 9) (pc' := 4) rfl rfl rfl (fun c1 => absurd c1 ((by decide : ¬ nI 2 < 0))) (fun _ => ?_)
          refine x_iload_n (pc' := 5) rfl rfl rfl ?_
          refine x_iconst (pc' := 6) rfl rfl iconst_2 ?_
          refine x_icmp_le (tgt := 16) (pc' := 9) rfl rfl rfl (fun _ => ?_) (fun c6 => absurd ((by decide : nI 2 ≤ (2 : Int32))) c6)
          refine x_iload_n (pc' := 17) rfl rfl rfl ?_
          refine x_iload_n (pc' := 18) rfl rfl rfl ?_
          refine x_if_ne (tgt := 25) (pc' := 21) rfl rfl rfl (fun _ => ?_) (fun c18 => absurd c18 ((by decide : ¬ nI 2 = 0)))
          refine x_iconst (pc' := 26) rfl rfl iconst_0 ?_
          refine x_icmp_ge (tgt := 36) (pc' := 29) rfl rfl rfl (fun _ => ?_) (fun c26 => absurd (Int32.not_lt.mp d3) c26)
          refine x_iload_n (pc' := 37) rfl rfl rfl ?_
          refine x_iload_n (pc' := 38) rfl rfl rfl ?_
          refine x_if_ne (tgt := 46) (pc' := 41) rfl rfl rfl (fun _ => ?_) (fun c38 => absurd c38 ((by decide : ¬ nI 2 = 0)))
          refine x_iconst (pc' := 47) rfl rfl iconst_1 ?_
          refine x_icmp_le (tgt := 57) (pc' := 50) rfl rfl rfl (fun _ => ?_) (fun c47 => absurd (Int32.not_lt.mp d4) c47)
          refine x_iload_n (pc' := 58) rfl rfl rfl ?_
          refine x_if_ne (tgt := 80) (pc' := 61) rfl rfl rfl (fun _ => ?_) (fun c58 => absurd c58 ((by decide : ¬ nI 2 = 0)))
          refine x_iload_n (pc' := 81) rfl rfl rfl ?_
          refine x_iconst (pc' := 82) rfl rfl iconst_1 ?_
          refine x_icmp_ne (tgt := 104) (pc' := 85) rfl rfl rfl (fun _ => ?_) (fun c82 => absurd c82 ((by decide : ¬ nI 2 = 1)))
          refine x_aload_n (pc' := 105) rfl rfl rfl ?_
          refine x_get (pc' := 108) rfl rfl rfl (hS.1) rfl ?_
          refine x_get (pc' := 111) rfl rfl rfl ((hS.2.1 0 (by decide)).1) rfl ?_
          refine x_istore_n (pc' := 112) (lv' := [(3, _), (0, _), (1, _), (2, _)]) rfl rfl (Nat.le_of_ble_eq_true rfl) rfl ?_
          refine x_aload_n (pc' := 113) rfl rfl rfl ?_
          refine x_get (pc' := 116) rfl rfl rfl (hS.1) rfl ?_
          refine x_iload_n (pc' := 117) rfl rfl rfl ?_
          refine x_put (pc' := 120) rfl rfl rfl ((hS.2.1 0 (by decide)).1) (Nat.le_of_ble_eq_true rfl) rfl rfl rfl rfl (fun f1 e1 => ?_)
          refine x_iload_n (pc' := 121) rfl rfl rfl ?_
          exact x_ireturn rfl rfl rfl (Nat.le_of_ble_eq_true rfl) (Nat.le_of_ble_eq_true rfl) (h _ (x_fr.rf.up e1 (by decide)))
theorem f_count {a : Int32} (hS : x_Sys z f x_S0) (h : x_P post f (a_count a)) : Y E 9 mX5_count [.ref 0, .int a] z f 0 0 post := by
  refine Y.intro gX5_count (lv := [(0, .ref 0), (1, .int a)]) rfl (Nat.le_of_ble_eq_true rfl) ?_
  by_cases q0 : a = 0
  · subst q0
    have e : a_count 0 = 0 := by decide
    rw [e] at h
    refine x_iload_n (pc' := 1) rfl rfl rfl ?_
    refine x_tableIn (tgt := 56) rfl (by decide) (by decide) rfl rfl ?_
    refine x_aload_n (pc' := 57) rfl rfl rfl ?_
    refine x_get (pc' := 60) rfl rfl rfl (hS.1) rfl ?_
    refine x_get (pc' := 63) rfl rfl rfl ((hS.2.1 0 (by decide)).1) rfl ?_
    exact x_ireturn rfl rfl rfl (Nat.le_of_ble_eq_true rfl) (Nat.le_of_ble_eq_true rfl) (h _ x_fr.rf)
  by_cases q1 : a = 1
  · subst q1
    have e : a_count 1 = 0 := by decide
    rw [e] at h
    refine x_iload_n (pc' := 1) rfl rfl rfl ?_
    refine x_tableIn (tgt := 64) rfl (by decide) (by decide) rfl rfl ?_
    refine x_aload_n (pc' := 65) rfl rfl rfl ?_
    refine x_get (pc' := 68) rfl rfl rfl (hS.1) rfl ?_
    refine x_cV0i (d := 3) (pc' := 71) rfl rfl sX5_143 gX3_allBeans ((hS.2.1 0 (by decide)).1) ⟨Nat.le_of_ble_eq_true rfl, Nat.le_of_ble_eq_true rfl⟩ (Nat.le_of_ble_eq_true rfl) ⟨Nat.le_of_ble_eq_true rfl, Nat.le_of_ble_eq_true rfl⟩ ?_
    refine w_allBeans (n := 0) (hS.2.1 0 (by decide)) rfl (by decide) ⟨_, rfl, ?_⟩
    exact x_ireturn rfl rfl rfl (Nat.le_of_ble_eq_true rfl) (Nat.le_of_ble_eq_true rfl) (h _ x_fr.rf)
  by_cases q2 : a = 2
  · subst q2
    have e : a_count 2 = 0 := by decide
    rw [e] at h
    refine x_iload_n (pc' := 1) rfl rfl rfl ?_
    refine x_tableIn (tgt := 72) rfl (by decide) (by decide) rfl rfl ?_
    refine x_aload_n (pc' := 73) rfl rfl rfl ?_
    refine x_get (pc' := 76) rfl rfl rfl (hS.1) rfl ?_
    refine x_iconst (pc' := 77) rfl rfl iconst_0 ?_
    refine x_cV1i (d := 1) (pc' := 80) rfl rfl sX5_205 gX3_purseOf ((hS.2.1 0 (by decide)).1) ⟨Nat.le_of_ble_eq_true rfl, Nat.le_of_ble_eq_true rfl⟩ (Nat.le_of_ble_eq_true rfl) ⟨Nat.le_of_ble_eq_true rfl, Nat.le_of_ble_eq_true rfl⟩ ?_
    refine w_purseOf (hS.2.1 0 (by decide)) (fun _ => ⟨_, rfl, ?_⟩) (fun q => absurd (by decide) q)
    exact x_ireturn rfl rfl rfl (Nat.le_of_ble_eq_true rfl) (Nat.le_of_ble_eq_true rfl) (h _ x_fr.rf)
  by_cases q3 : a = 3
  · subst q3
    have e : a_count 3 = 0 := by decide
    rw [e] at h
    refine x_iload_n (pc' := 1) rfl rfl rfl ?_
    refine x_tableIn (tgt := 81) rfl (by decide) (by decide) rfl rfl ?_
    refine x_aload_n (pc' := 82) rfl rfl rfl ?_
    refine x_get (pc' := 85) rfl rfl rfl (hS.1) rfl ?_
    refine x_iconst (pc' := 86) rfl rfl iconst_1 ?_
    refine x_cV1i (d := 1) (pc' := 89) rfl rfl sX5_205 gX3_purseOf ((hS.2.1 0 (by decide)).1) ⟨Nat.le_of_ble_eq_true rfl, Nat.le_of_ble_eq_true rfl⟩ (Nat.le_of_ble_eq_true rfl) ⟨Nat.le_of_ble_eq_true rfl, Nat.le_of_ble_eq_true rfl⟩ ?_
    refine w_purseOf (hS.2.1 0 (by decide)) (fun _ => ⟨_, rfl, ?_⟩) (fun q => absurd (by decide) q)
    exact x_ireturn rfl rfl rfl (Nat.le_of_ble_eq_true rfl) (Nat.le_of_ble_eq_true rfl) (h _ x_fr.rf)
  by_cases q4 : a = 4
  · subst q4
    have e : a_count 4 = 0 := by decide
    rw [e] at h
    refine x_iload_n (pc' := 1) rfl rfl rfl ?_
    refine x_tableIn (tgt := 90) rfl (by decide) (by decide) rfl rfl ?_
    refine x_aload_n (pc' := 91) rfl rfl rfl ?_
    refine x_get (pc' := 94) rfl rfl rfl (hS.1) rfl ?_
    refine x_get (pc' := 97) rfl rfl rfl ((hS.2.1 0 (by decide)).1) rfl ?_
    exact x_ireturn rfl rfl rfl (Nat.le_of_ble_eq_true rfl) (Nat.le_of_ble_eq_true rfl) (h _ x_fr.rf)
  by_cases q5 : a = 5
  · subst q5
    have e : a_count 5 = 0 := by decide
    rw [e] at h
    refine x_iload_n (pc' := 1) rfl rfl rfl ?_
    refine x_tableIn (tgt := 98) rfl (by decide) (by decide) rfl rfl ?_
    refine x_aload_n (pc' := 99) rfl rfl rfl ?_
    refine x_get (pc' := 102) rfl rfl rfl (hS.1) rfl ?_
    refine x_get (pc' := 105) rfl rfl rfl ((hS.2.1 0 (by decide)).1) rfl ?_
    exact x_ireturn rfl rfl rfl (Nat.le_of_ble_eq_true rfl) (Nat.le_of_ble_eq_true rfl) (h _ x_fr.rf)
  by_cases q6 : a = 6
  · subst q6
    have e : a_count 6 = 4 := by decide
    rw [e] at h
    refine x_iload_n (pc' := 1) rfl rfl rfl ?_
    refine x_tableIn (tgt := 106) rfl (by decide) (by decide) rfl rfl ?_
    refine x_aload_n (pc' := 107) rfl rfl rfl ?_
    refine x_get (pc' := 110) rfl rfl rfl (hS.1) rfl ?_
    refine x_get (pc' := 113) rfl rfl rfl ((hS.2.1 0 (by decide)).1) rfl ?_
    exact x_ireturn rfl rfl rfl (Nat.le_of_ble_eq_true rfl) (Nat.le_of_ble_eq_true rfl) (h _ x_fr.rf)
  by_cases q7 : a = 7
  · subst q7
    have e : a_count 7 = 0 := by decide
    rw [e] at h
    refine x_iload_n (pc' := 1) rfl rfl rfl ?_
    refine x_tableIn (tgt := 114) rfl (by decide) (by decide) rfl rfl ?_
    refine x_aload_n (pc' := 115) rfl rfl rfl ?_
    refine x_get (pc' := 118) rfl rfl rfl (hS.1) rfl ?_
    refine x_get (pc' := 121) rfl rfl rfl ((hS.2.1 0 (by decide)).1) rfl ?_
    exact x_ireturn rfl rfl rfl (Nat.le_of_ble_eq_true rfl) (Nat.le_of_ble_eq_true rfl) (h _ x_fr.rf)
  by_cases q8 : a = 8
  · subst q8
    have e : a_count 8 = 0 := by decide
    rw [e] at h
    refine x_iload_n (pc' := 1) rfl rfl rfl ?_
    refine x_tableIn (tgt := 122) rfl (by decide) (by decide) rfl rfl ?_
    refine x_aload_n (pc' := 123) rfl rfl rfl ?_
    refine x_get (pc' := 126) rfl rfl rfl (hS.1) rfl ?_
    exact x_ireturn rfl rfl rfl (Nat.le_of_ble_eq_true rfl) (Nat.le_of_ble_eq_true rfl) (h _ x_fr.rf)
  by_cases q9 : a = 9
  · subst q9
    have e : a_count 9 = 0 := by decide
    rw [e] at h
    refine x_iload_n (pc' := 1) rfl rfl rfl ?_
    refine x_tableIn (tgt := 127) rfl (by decide) (by decide) rfl rfl ?_
    refine x_aload_n (pc' := 128) rfl rfl rfl ?_
    refine x_get (pc' := 131) rfl rfl rfl (hS.1) rfl ?_
    refine x_get (pc' := 134) rfl rfl rfl (hS.lt) rfl ?_
    exact x_ireturn rfl rfl rfl (Nat.le_of_ble_eq_true rfl) (Nat.le_of_ble_eq_true rfl) (h _ x_fr.rf)
  have hout : a.toInt < 0 ∨ 9 < a.toInt := x_tab_out (fun k h1 h2 => by
    have hk : k = 0 ∨ k = 1 ∨ k = 2 ∨ k = 3 ∨ k = 4 ∨ k = 5 ∨ k = 6 ∨ k = 7 ∨ k = 8 ∨ k = 9 := by omega
    rcases hk with rfl | rfl | rfl | rfl | rfl | rfl | rfl | rfl | rfl | rfl
    · exact q0
    · exact q1
    · exact q2
    · exact q3
    · exact q4
    · exact q5
    · exact q6
    · exact q7
    · exact q8
    · exact q9)
  have t9 : (9 : Int32).toInt = 9 := by decide
  have t0 : (0 : Int32).toInt = 0 := by decide
  have hno : ¬ (¬ a < 0 ∧ ¬ 9 < a) := by
    rw [i32_lit, i32_lit]
    omega
  by_cases d1 : a < 11
  · have e : a_count a = -9 := by
      unfold a_count
      rw [if_neg q6, if_neg]
      rintro (q | q)
      · exact hno q
      · exact q.1 d1
    rw [e] at h
    refine x_iload_n (pc' := 1) rfl rfl rfl ?_
    refine x_tableOut (tgt := 135) rfl (hout) rfl ?_
    refine x_iload_n (pc' := 136) rfl rfl rfl ?_
    refine x_bipush (pc' := 138) rfl rfl bipush_11 ?_
    refine x_icmp_lt (tgt := 159) (pc' := 141) rfl rfl rfl (fun _ => ?_) (fun c138 => absurd (d1) c138)
    refine x_bipush (pc' := 161) rfl rfl bipush_m9 ?_
    exact x_ireturn rfl rfl rfl (Nat.le_of_ble_eq_true rfl) (Nat.le_of_ble_eq_true rfl) (h _ x_fr.rf)
  · by_cases d2 : 16 < a
    · have e : a_count a = -9 := by
        unfold a_count
        rw [if_neg q6, if_neg]
        rintro (q | q)
        · exact hno q
        · exact q.2 d2
      rw [e] at h
      refine x_iload_n (pc' := 1) rfl rfl rfl ?_
      refine x_tableOut (tgt := 135) rfl (hout) rfl ?_
      refine x_iload_n (pc' := 136) rfl rfl rfl ?_
      refine x_bipush (pc' := 138) rfl rfl bipush_11 ?_
      refine x_icmp_lt (tgt := 159) (pc' := 141) rfl rfl rfl (fun c138 => absurd c138 (d1)) (fun _ => ?_)
      refine x_iload_n (pc' := 142) rfl rfl rfl ?_
      refine x_bipush (pc' := 144) rfl rfl bipush_16 ?_
      refine x_icmp_gt (tgt := 159) (pc' := 147) rfl rfl rfl (fun _ => ?_) (fun c144 => absurd (d2) c144)
      refine x_bipush (pc' := 161) rfl rfl bipush_m9 ?_
      exact x_ireturn rfl rfl rfl (Nat.le_of_ble_eq_true rfl) (Nat.le_of_ble_eq_true rfl) (h _ x_fr.rf)
    · have e : a_count a = 0 := by
        unfold a_count
        rw [if_neg q6, if_pos (Or.inr ⟨d1, d2⟩)]
      rw [e] at h
      have t11 : (11 : Int32).toInt = 11 := by decide
      have d3 : ¬ a < 0 := by
        rw [i32_lit] at d1 ⊢
        omega
      obtain ⟨n, hn, rfl⟩ := nI_of2 (M := 16) (n := 16) (by decide) d3 (Int32.not_lt.mp d2)
      have hn11 : 11 ≤ n := Nat.not_lt.mp (fun q => d1 (nI_lt (a := n) (b := 11) q (by decide)))
      refine x_iload_n (pc' := 1) rfl rfl rfl ?_
      refine x_tableOut (tgt := 135) rfl (hout) rfl ?_
      refine x_iload_n (pc' := 136) rfl rfl rfl ?_
      refine x_bipush (pc' := 138) rfl rfl bipush_11 ?_
      refine x_icmp_lt (tgt := 159) (pc' := 141) rfl rfl rfl (fun c138 => absurd c138 (d1)) (fun _ => ?_)
      refine x_iload_n (pc' := 142) rfl rfl rfl ?_
      refine x_bipush (pc' := 144) rfl rfl bipush_16 ?_
      refine x_icmp_gt (tgt := 159) (pc' := 147) rfl rfl rfl (fun c144 => absurd c144 (d2)) (fun _ => ?_)
      refine x_aload_n (pc' := 148) rfl rfl rfl ?_
      refine x_get (pc' := 151) rfl rfl rfl (hS.1) rfl ?_
      refine x_iload_n (pc' := 152) rfl rfl rfl ?_
      refine x_bipush (pc' := 154) rfl rfl bipush_10 ?_
      refine x_isub (pc' := 155) rfl rfl ?_
      refine x_eqi (show nI n - 10 = nI (n - 10) from pk_sub (a := n) (b := 10) (by omega)) ?_
      refine x_iaload (pc' := 156) rfl rfl (hS.2.2.1 6 (by decide)) (vp_in_nI (n := n - 10) (N := 7) (by omega) (by decide)) ?_
      refine x_goto (tgt := 161) rfl rfl ?_
      exact x_ireturn rfl rfl rfl (Nat.le_of_ble_eq_true rfl) (Nat.le_of_ble_eq_true rfl) (h _ x_fr.rf)
end FRESHC
