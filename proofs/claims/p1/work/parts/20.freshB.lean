/-! The class's first answers, the rest. -/
section FRESHB
variable {E : x_E} {z : Nat} {f : x_H} {post : Option Value → x_H → Prop}
theorem f_longest (hS : x_Sys z f x_S0) (h : x_P post f (-9)) : Y E 9 mX5_longest [.ref 0] z f 0 0 post := by
  refine Y.intro gX5_longest (lv := [(0, .ref 0)]) rfl (Nat.le_of_ble_eq_true rfl) ?_
  refine x_bipush (pc' := 2) rfl rfl bipush_m9 ?_
  refine x_istore_n (pc' := 3) (lv' := [(1, _), (0, _)]) rfl rfl (Nat.le_of_ble_eq_true rfl) rfl ?_
  refine x_iconst (pc' := 4) rfl rfl iconst_0 ?_
  refine x_istore_n (pc' := 5) (lv' := [(2, _), (1, _), (0, _)]) rfl rfl (Nat.le_of_ble_eq_true rfl) rfl ?_
  refine x_iconst (pc' := 6) rfl rfl iconst_0 ?_
  refine x_istore_n (pc' := 7) (lv' := [(3, _), (2, _), (1, _), (0, _)]) rfl rfl (Nat.le_of_ble_eq_true rfl) rfl ?_
  refine x_iload_n (pc' := 8) rfl rfl rfl ?_
  refine x_aload_n (pc' := 9) rfl rfl rfl ?_
  refine x_get (pc' := 12) rfl rfl rfl (hS.1) rfl ?_
  refine x_get (pc' := 15) rfl rfl rfl ((hS.2.1 0 (by decide)).1) rfl ?_
  refine x_icmp_ge (tgt := 53) (pc' := 18) rfl rfl rfl (fun _ => ?_) (fun c15 => absurd ((by decide : (0 : Int32) ≤ 0)) c15)
  refine x_iload_n (pc' := 54) rfl rfl rfl ?_
  exact x_ireturn rfl rfl rfl (Nat.le_of_ble_eq_true rfl) (Nat.le_of_ble_eq_true rfl) (h _ x_fr.rf)
theorem f_lost (hS : x_Sys z f x_S0) (h : x_P post f 1) : Y E 9 mX5_lost [.ref 0] z f 0 0 post := by
  refine Y.intro gX5_lost (lv := [(0, .ref 0)]) rfl (Nat.le_of_ble_eq_true rfl) ?_
  refine x_iconst (pc' := 1) rfl rfl iconst_0 ?_
  refine x_istore_n (pc' := 2) (lv' := [(1, _), (0, _)]) rfl rfl (Nat.le_of_ble_eq_true rfl) rfl ?_
  refine x_iload_n (pc' := 3) rfl rfl rfl ?_
  refine x_aload_n (pc' := 4) rfl rfl rfl ?_
  refine x_get (pc' := 7) rfl rfl rfl (hS.1) rfl ?_
  refine x_get (pc' := 10) rfl rfl rfl ((hS.2.1 0 (by decide)).1) rfl ?_
  refine x_icmp_ge (tgt := 32) (pc' := 13) rfl rfl rfl (fun _ => ?_) (fun c10 => absurd ((by decide : (0 : Int32) ≤ 0)) c10)
  refine x_iconst (pc' := 33) rfl rfl iconst_1 ?_
  exact x_ireturn rfl rfl rfl (Nat.le_of_ble_eq_true rfl) (Nat.le_of_ble_eq_true rfl) (h _ x_fr.rf)
theorem f_best {a : Int32} (hS : x_Sys z f x_S0) (h : x_P post f (a_best a)) : Y E 9 mX5_best [.ref 0, .int a] z f 0 0 post := by
  refine Y.intro gX5_best (lv := [(0, .ref 0), (1, .int a)]) rfl (Nat.le_of_ble_eq_true rfl) ?_
  refine x_iload_n (pc' := 1) rfl rfl rfl ?_
  refine x_iconst (pc' := 2) rfl rfl iconst_1 ?_
  by_cases c1 : a < 1
  · have e : a_best a = -4 := by simp [a_best, c1]
    rw [e] at h
    refine x_icmp_ge (tgt := 12) (pc' := 5) rfl rfl rfl (fun q => absurd c1 (Int32.not_lt.mpr q)) (fun _ => ?_)
    refine x_aload_n (pc' := 6) rfl rfl rfl ?_
    refine x_bipush (pc' := 8) rfl rfl bipush_m4 ?_
    refine x_cV1i (d := 1) (pc' := 11) rfl rfl sX5_68 gX5_refuse (hS.1) ⟨Nat.le_of_ble_eq_true rfl, Nat.le_of_ble_eq_true rfl⟩ (Nat.le_of_ble_eq_true rfl) ⟨Nat.le_of_ble_eq_true rfl, Nat.le_of_ble_eq_true rfl⟩ ?_
    refine w_refuse (k := 4) (by decide) (by decide) hS (fun f1 hS1 hF1 => ⟨_, rfl, ?_⟩)
    exact x_ireturn rfl rfl rfl (Nat.le_of_ble_eq_true rfl) (Nat.le_of_ble_eq_true rfl) (h _ hF1)
  · refine x_icmp_ge (tgt := 12) (pc' := 5) rfl rfl rfl (fun _ => ?_) (fun q => absurd (Int32.not_lt.mp c1) q)
    refine x_iload_n (pc' := 13) rfl rfl rfl ?_
    refine x_iconst (pc' := 14) rfl rfl iconst_4 ?_
    by_cases c2 : 4 < a
    · have e : a_best a = -6 := by simp [a_best, c1, c2]
      rw [e] at h
      refine x_icmp_le (tgt := 24) (pc' := 17) rfl rfl rfl (fun q => absurd c2 (Int32.not_lt.mpr q)) (fun _ => ?_)
      refine x_aload_n (pc' := 18) rfl rfl rfl ?_
      refine x_bipush (pc' := 20) rfl rfl bipush_m6 ?_
      refine x_cV1i (d := 1) (pc' := 23) rfl rfl sX5_68 gX5_refuse (hS.1) ⟨Nat.le_of_ble_eq_true rfl, Nat.le_of_ble_eq_true rfl⟩ (Nat.le_of_ble_eq_true rfl) ⟨Nat.le_of_ble_eq_true rfl, Nat.le_of_ble_eq_true rfl⟩ ?_
      refine w_refuse (k := 6) (by decide) (by decide) hS (fun f1 hS1 hF1 => ⟨_, rfl, ?_⟩)
      exact x_ireturn rfl rfl rfl (Nat.le_of_ble_eq_true rfl) (Nat.le_of_ble_eq_true rfl) (h _ hF1)
    · have e : a_best a = -9 := by simp [a_best, c1, c2]
      rw [e] at h
      refine x_icmp_le (tgt := 24) (pc' := 17) rfl rfl rfl (fun _ => ?_) (fun q => absurd (Int32.not_lt.mp c2) q)
      refine x_aload_n (pc' := 25) rfl rfl rfl ?_
      refine x_get (pc' := 28) rfl rfl rfl (hS.1) rfl ?_
      refine x_aload_n (pc' := 29) rfl rfl rfl ?_
      refine x_get (pc' := 32) rfl rfl rfl (hS.1) rfl ?_
      refine x_iload_n (pc' := 33) rfl rfl rfl ?_
      refine x_cV2i (d := 4) (pc' := 36) rfl rfl sX5_148 gX0_bowlFor (hS.ah) ⟨Nat.le_of_ble_eq_true rfl, Nat.le_of_ble_eq_true rfl⟩ (Nat.le_of_ble_eq_true rfl) ⟨Nat.le_of_ble_eq_true rfl, Nat.le_of_ble_eq_true rfl⟩ ?_
      refine w_bowlFor0 0 (by decide) (by decide) hS (Int32.lt_of_lt_of_le (by decide : (0 : Int32) < 1) (Int32.not_lt.mp c1)) (by decide) (fun f1 hF1 => ⟨_, rfl, ?_⟩)
      exact x_ireturn rfl rfl rfl (Nat.le_of_ble_eq_true rfl) (Nat.le_of_ble_eq_true rfl) (h _ hF1)
theorem f_worth {a : Int32} (hS : x_Sys z f x_S0) (h : x_P post f (a_worth a)) : Y E 9 mX5_worth [.ref 0, .int a] z f 0 0 post := by
  refine Y.intro gX5_worth (lv := [(0, .ref 0), (1, .int a)]) rfl (Nat.le_of_ble_eq_true rfl) ?_
  refine x_iload_n (pc' := 1) rfl rfl rfl ?_
  refine x_iconst (pc' := 2) rfl rfl iconst_1 ?_
  by_cases c1 : a < 1
  · have e : a_worth a = 1000000000 - (-4) := by simp [a_worth, c1]; try decide
    rw [e] at h
    refine x_icmp_ge (tgt := 12) (pc' := 5) rfl rfl rfl (fun q => absurd c1 (Int32.not_lt.mpr q)) (fun _ => ?_)
    refine x_aload_n (pc' := 6) rfl rfl rfl ?_
    refine x_bipush (pc' := 8) rfl rfl bipush_m4 ?_
    refine x_cV1i (d := 2) (pc' := 11) rfl rfl sX5_152 gX5_refuseFar (hS.1) ⟨Nat.le_of_ble_eq_true rfl, Nat.le_of_ble_eq_true rfl⟩ (Nat.le_of_ble_eq_true rfl) ⟨Nat.le_of_ble_eq_true rfl, Nat.le_of_ble_eq_true rfl⟩ ?_
    refine w_refuseFar (k := 4) (by decide) (by decide) hS (fun f1 hS1 hF1 => ⟨_, rfl, ?_⟩)
    exact x_ireturn rfl rfl rfl (Nat.le_of_ble_eq_true rfl) (Nat.le_of_ble_eq_true rfl) (h _ hF1)
  · refine x_icmp_ge (tgt := 12) (pc' := 5) rfl rfl rfl (fun _ => ?_) (fun q => absurd (Int32.not_lt.mp c1) q)
    refine x_iload_n (pc' := 13) rfl rfl rfl ?_
    refine x_iconst (pc' := 14) rfl rfl iconst_4 ?_
    by_cases c2 : 4 < a
    · have e : a_worth a = 1000000000 - (-6) := by simp [a_worth, c1, c2]; try decide
      rw [e] at h
      refine x_icmp_le (tgt := 24) (pc' := 17) rfl rfl rfl (fun q => absurd c2 (Int32.not_lt.mpr q)) (fun _ => ?_)
      refine x_aload_n (pc' := 18) rfl rfl rfl ?_
      refine x_bipush (pc' := 20) rfl rfl bipush_m6 ?_
      refine x_cV1i (d := 2) (pc' := 23) rfl rfl sX5_152 gX5_refuseFar (hS.1) ⟨Nat.le_of_ble_eq_true rfl, Nat.le_of_ble_eq_true rfl⟩ (Nat.le_of_ble_eq_true rfl) ⟨Nat.le_of_ble_eq_true rfl, Nat.le_of_ble_eq_true rfl⟩ ?_
      refine w_refuseFar (k := 6) (by decide) (by decide) hS (fun f1 hS1 hF1 => ⟨_, rfl, ?_⟩)
      exact x_ireturn rfl rfl rfl (Nat.le_of_ble_eq_true rfl) (Nat.le_of_ble_eq_true rfl) (h _ hF1)
    · have e : a_worth a = 0 := by simp [a_worth, c1, c2]
      rw [e] at h
      refine x_icmp_le (tgt := 24) (pc' := 17) rfl rfl rfl (fun _ => ?_) (fun q => absurd (Int32.not_lt.mp c2) q)
      refine x_aload_n (pc' := 25) rfl rfl rfl ?_
      refine x_get (pc' := 28) rfl rfl rfl (hS.1) rfl ?_
      refine x_aload_n (pc' := 29) rfl rfl rfl ?_
      refine x_get (pc' := 32) rfl rfl rfl (hS.1) rfl ?_
      refine x_iload_n (pc' := 33) rfl rfl rfl ?_
      refine x_cV2i (d := 3) (pc' := 36) rfl rfl sX5_155 gX0_gainFor (hS.ah) ⟨Nat.le_of_ble_eq_true rfl, Nat.le_of_ble_eq_true rfl⟩ (Nat.le_of_ble_eq_true rfl) ⟨Nat.le_of_ble_eq_true rfl, Nat.le_of_ble_eq_true rfl⟩ ?_
      refine w_gainFor0 0 (by decide) (by decide) hS (Int32.lt_of_lt_of_le (by decide : (0 : Int32) < 1) (Int32.not_lt.mp c1)) (by decide) (fun f1 S1 hS1 g1 g2 g3 g4 hF1 => ⟨_, rfl, ?_⟩)
      exact x_ireturn rfl rfl rfl (Nat.le_of_ble_eq_true rfl) (Nat.le_of_ble_eq_true rfl) (h _ hF1)
theorem f_change (hS : x_Sys z f x_S0) (h : x_P post f (-9)) : Y E 9 mX5_change [.ref 0] z f 0 0 post := by
  refine Y.intro gX5_change (lv := [(0, .ref 0)]) rfl (Nat.le_of_ble_eq_true rfl) ?_
  refine x_bipush (pc' := 2) rfl rfl bipush_m9 ?_
  refine x_istore_n (pc' := 3) (lv' := [(1, _), (0, _)]) rfl rfl (Nat.le_of_ble_eq_true rfl) rfl ?_
  refine x_aload_n (pc' := 4) rfl rfl rfl ?_
  refine x_get (pc' := 7) rfl rfl rfl (hS.1) rfl ?_
  refine x_aload_n (pc' := 8) rfl rfl rfl ?_
  refine x_get (pc' := 11) rfl rfl rfl (hS.1) rfl ?_
  refine x_iconst (pc' := 12) rfl rfl iconst_2 ?_
  refine x_cV2i (d := 3) (pc' := 15) rfl rfl sX5_155 gX0_gainFor (hS.ah) ⟨Nat.le_of_ble_eq_true rfl, Nat.le_of_ble_eq_true rfl⟩ (Nat.le_of_ble_eq_true rfl) ⟨Nat.le_of_ble_eq_true rfl, Nat.le_of_ble_eq_true rfl⟩ ?_
  refine w_gainFor0 0 (by decide) (by decide) hS (by decide) (by decide) (fun f1 S1 hS1 g1 g2 g3 g4 hF1 => ⟨_, rfl, ?_⟩)
  refine x_istore_n (pc' := 16) (lv' := [(2, _), (1, _), (0, _)]) rfl rfl (Nat.le_of_ble_eq_true rfl) rfl ?_
  refine x_iconst (pc' := 17) rfl rfl iconst_0 ?_
  refine x_istore_n (pc' := 18) (lv' := [(3, _), (2, _), (1, _), (0, _)]) rfl rfl (Nat.le_of_ble_eq_true rfl) rfl ?_
  refine x_iload_n (pc' := 19) rfl rfl rfl ?_
  refine x_aload_n (pc' := 20) rfl rfl rfl ?_
  refine x_get (pc' := 23) rfl rfl rfl (hS1.1) rfl ?_
  refine x_get (pc' := 26) rfl rfl rfl ((hS1.2.1 0 (by decide)).1) rfl ?_
  rw [g2 0 (by decide)]
  refine x_icmp_ge (tgt := 110) (pc' := 29) rfl rfl rfl (fun _ => ?_) (fun c26 => absurd ((by decide : (0 : Int32) ≤ 0)) c26)
  refine x_iload_n (pc' := 111) rfl rfl rfl ?_
  exact x_ireturn rfl rfl rfl (Nat.le_of_ble_eq_true rfl) (Nat.le_of_ble_eq_true rfl) (h _ hF1)
theorem f_fair (hS : x_Sys z f x_S0) (h : x_P post f 1) : Y E 9 mX5_fair [.ref 0] z f 0 0 post := by
  refine Y.intro gX5_fair (lv := [(0, .ref 0)]) rfl (Nat.le_of_ble_eq_true rfl) ?_
  refine x_iconst (pc' := 1) rfl rfl iconst_1 ?_
  refine x_istore_n (pc' := 2) (lv' := [(1, _), (0, _)]) rfl rfl (Nat.le_of_ble_eq_true rfl) rfl ?_
  refine x_iload_n (pc' := 3) rfl rfl rfl ?_
  refine x_bipush (pc' := 5) rfl rfl bipush_9 ?_
  refine x_icmp_gt (tgt := 70) (pc' := 8) rfl rfl rfl (fun c5 => absurd c5 ((by decide))) (fun _ => ?_)
  refine x_aload_n (pc' := 9) rfl rfl rfl ?_
  refine x_get (pc' := 12) rfl rfl rfl (hS.1) rfl ?_
  refine x_aload_n (pc' := 13) rfl rfl rfl ?_
  refine x_get (pc' := 16) rfl rfl rfl (hS.1) rfl ?_
  refine x_cV1v (d := 1) (pc' := 19) rfl rfl sX5_79 gX3_copyFrom ((hS.2.1 2 (by decide)).1) ⟨Nat.le_of_ble_eq_true rfl, Nat.le_of_ble_eq_true rfl⟩ (Nat.le_of_ble_eq_true rfl) ⟨Nat.le_of_ble_eq_true rfl, Nat.le_of_ble_eq_true rfl⟩ ?_
  refine w_copyFrom (hS.2.1 2 (by decide)) (hS.2.1 0 (by decide)) (by decide) (fun f1 hT1 hF1 => ⟨rfl, ?_⟩)
  have hS1 := hS.tab 2 (by decide) hT1 hF1
  have hG1 := hF1.mono (fun q hq => x_tpq 2 (by decide) hq)
  refine x_iconst (pc' := 20) rfl rfl iconst_0 ?_
  refine x_istore_n (pc' := 21) (lv' := [(2, _), (1, _), (0, _)]) rfl rfl (Nat.le_of_ble_eq_true rfl) rfl ?_
  refine x_iload_n (pc' := 22) rfl rfl rfl ?_
  refine x_aload_n (pc' := 23) rfl rfl rfl ?_
  refine x_get (pc' := 26) rfl rfl rfl (hS1.1) rfl ?_
  refine x_get (pc' := 29) rfl rfl rfl ((hS1.2.1 2 (by decide)).1) rfl ?_
  refine x_icmp_ge (tgt := 47) (pc' := 32) rfl rfl rfl (fun _ => ?_) (fun c29 => absurd ((by decide : (0 : Int32) ≤ 0)) c29)
  refine x_aload_n (pc' := 48) rfl rfl rfl ?_
  refine x_get (pc' := 51) rfl rfl rfl (hS1.1) rfl ?_
  refine x_aload_n (pc' := 52) rfl rfl rfl ?_
  refine x_get (pc' := 55) rfl rfl rfl (hS1.1) rfl ?_
  refine x_iconst (pc' := 56) rfl rfl iconst_2 ?_
  refine x_cV2i (d := 3) (pc' := 59) rfl rfl sX5_155 gX0_gainFor (hS1.ah) ⟨Nat.le_of_ble_eq_true rfl, Nat.le_of_ble_eq_true rfl⟩ (Nat.le_of_ble_eq_true rfl) ⟨Nat.le_of_ble_eq_true rfl, Nat.le_of_ble_eq_true rfl⟩ ?_
  refine w_gainFor0 2 (by decide) (by decide) hS1 (by decide) (by decide) (fun f2 S2 hS2 g1 g2 g3 g4 hF2 => ⟨_, rfl, ?_⟩)
  refine x_if_ne (tgt := 64) (pc' := 62) rfl rfl rfl (fun c59 => absurd (rfl) c59) (fun _ => ?_)
  refine x_iload_n (pc' := 63) rfl rfl rfl ?_
  exact x_ireturn rfl rfl rfl (Nat.le_of_ble_eq_true rfl) (Nat.le_of_ble_eq_true rfl) (h _ (hG1.trans hF2))
theorem f_refusal {a : Int32} (hS : x_Sys z f x_S0) (h1 : a < 0 → post (some (.int (-4))) f) (h2 : ¬ a < 0 → 40 < a → post (some (.int (-6))) f) (h3 : ¬ a < 0 → ¬ 40 < a → post (some (.int 0)) f) : Y E 5 mX5_refusalToLay [.ref 0, .int a] z f 0 0 post := by
  refine Y.intro gX5_refusalToLay (lv := [(0, .ref 0), (1, .int a)]) rfl (Nat.le_of_ble_eq_true rfl) ?_
  refine x_iload_n (pc' := 1) rfl rfl rfl ?_
  refine x_if_ge (tgt := 7) (pc' := 4) rfl rfl rfl (fun c1 => ?_) (fun c1 => ?_)
  · refine x_iload_n (pc' := 8) rfl rfl rfl ?_
    refine x_bipush (pc' := 10) rfl rfl bipush_40 ?_
    refine x_icmp_le (tgt := 16) (pc' := 13) rfl rfl rfl (fun c10 => ?_) (fun c10 => ?_)
    · refine x_aload_n (pc' := 17) rfl rfl rfl ?_
      refine x_get (pc' := 20) rfl rfl rfl (hS.1) rfl ?_
      refine x_aload_n (pc' := 21) rfl rfl rfl ?_
      refine x_get (pc' := 24) rfl rfl rfl (hS.1) rfl ?_
      refine x_get (pc' := 27) rfl rfl rfl ((hS.2.1 0 (by decide)).1) rfl ?_
      refine x_icmp_eq (tgt := 33) (pc' := 30) rfl rfl rfl (fun _ => ?_) (fun c27 => absurd (rfl) c27)
      refine x_iconst (pc' := 34) rfl rfl iconst_0 ?_
      refine x_istore_n (pc' := 35) (lv' := [(2, _), (0, _), (1, _)]) rfl rfl (Nat.le_of_ble_eq_true rfl) rfl ?_
      refine x_iload_n (pc' := 36) rfl rfl rfl ?_
      refine x_aload_n (pc' := 37) rfl rfl rfl ?_
      refine x_get (pc' := 40) rfl rfl rfl (hS.1) rfl ?_
      refine x_icmp_ge (tgt := 71) (pc' := 43) rfl rfl rfl (fun _ => ?_) (fun c40 => absurd ((by decide : (0 : Int32) ≤ 0)) c40)
      refine x_iconst (pc' := 72) rfl rfl iconst_0 ?_
      exact x_ireturn rfl rfl rfl (Nat.le_of_ble_eq_true rfl) (Nat.le_of_ble_eq_true rfl) (h3 (Int32.not_lt.mpr c1) (Int32.not_lt.mpr c10))
    · refine x_bipush (pc' := 15) rfl rfl bipush_m6 ?_
      exact x_ireturn rfl rfl rfl (Nat.le_of_ble_eq_true rfl) (Nat.le_of_ble_eq_true rfl) (h2 (Int32.not_lt.mpr c1) (Int32.not_le.mp c10))
  · refine x_bipush (pc' := 6) rfl rfl bipush_m4 ?_
    exact x_ireturn rfl rfl rfl (Nat.le_of_ble_eq_true rfl) (Nat.le_of_ble_eq_true rfl) (h1 (Int32.not_le.mp c1))
theorem f_sounds {a : Int32} (hS : x_Sys z f x_S0) (h : x_P post f (a_sounds a)) : Y E 9 mX5_sounds [.ref 0, .int a] z f 0 0 post := by
  refine Y.intro gX5_sounds (lv := [(0, .ref 0), (1, .int a)]) rfl (Nat.le_of_ble_eq_true rfl) ?_
  refine x_aload_n (pc' := 1) rfl rfl rfl ?_
  refine x_iload_n (pc' := 2) rfl rfl rfl ?_
  refine x_cV1i (d := 5) (pc' := 5) rfl rfl sX5_183 gX5_refusalToLay (hS.1) ⟨Nat.le_of_ble_eq_true rfl, Nat.le_of_ble_eq_true rfl⟩ (Nat.le_of_ble_eq_true rfl) ⟨Nat.le_of_ble_eq_true rfl, Nat.le_of_ble_eq_true rfl⟩ ?_
  refine f_refusal hS (fun d1 => ⟨_, rfl, ?_⟩) (fun d1 d2 => ⟨_, rfl, ?_⟩) (fun d1 d2 => ⟨_, rfl, ?_⟩)
  · have e : a_sounds a = -4 := by simp [a_sounds, d1]
    rw [e] at h
    refine x_istore_n (pc' := 6) (lv' := [(2, _), (0, _), (1, _)]) rfl rfl (Nat.le_of_ble_eq_true rfl) rfl ?_
    refine x_iload_n (pc' := 7) rfl rfl rfl ?_
    refine x_if_eq (tgt := 16) (pc' := 10) rfl rfl rfl (fun c7 => absurd c7 ((by decide))) (fun _ => ?_)
    refine x_aload_n (pc' := 11) rfl rfl rfl ?_
    refine x_iload_n (pc' := 12) rfl rfl rfl ?_
    refine x_cV1i (d := 1) (pc' := 15) rfl rfl sX5_68 gX5_refuse (hS.1) ⟨Nat.le_of_ble_eq_true rfl, Nat.le_of_ble_eq_true rfl⟩ (Nat.le_of_ble_eq_true rfl) ⟨Nat.le_of_ble_eq_true rfl, Nat.le_of_ble_eq_true rfl⟩ ?_
    refine w_refuse (k := 4) (by decide) (by decide) hS (fun f1 hS1 hF1 => ⟨_, rfl, ?_⟩)
    exact x_ireturn rfl rfl rfl (Nat.le_of_ble_eq_true rfl) (Nat.le_of_ble_eq_true rfl) (h _ hF1)
  · have e : a_sounds a = -6 := by simp [a_sounds, d1, d2]
    rw [e] at h
    refine x_istore_n (pc' := 6) (lv' := [(2, _), (0, _), (1, _)]) rfl rfl (Nat.le_of_ble_eq_true rfl) rfl ?_
    refine x_iload_n (pc' := 7) rfl rfl rfl ?_
    refine x_if_eq (tgt := 16) (pc' := 10) rfl rfl rfl (fun c7 => absurd c7 ((by decide))) (fun _ => ?_)
    refine x_aload_n (pc' := 11) rfl rfl rfl ?_
    refine x_iload_n (pc' := 12) rfl rfl rfl ?_
    refine x_cV1i (d := 1) (pc' := 15) rfl rfl sX5_68 gX5_refuse (hS.1) ⟨Nat.le_of_ble_eq_true rfl, Nat.le_of_ble_eq_true rfl⟩ (Nat.le_of_ble_eq_true rfl) ⟨Nat.le_of_ble_eq_true rfl, Nat.le_of_ble_eq_true rfl⟩ ?_
    refine w_refuse (k := 6) (by decide) (by decide) hS (fun f1 hS1 hF1 => ⟨_, rfl, ?_⟩)
    exact x_ireturn rfl rfl rfl (Nat.le_of_ble_eq_true rfl) (Nat.le_of_ble_eq_true rfl) (h _ hF1)
  · obtain ⟨n, hn, rfl⟩ := nI_of2 (M := 40) (n := 40) (by decide) d1 (Int32.not_lt.mp d2)
    have e : a_sounds (nI n) = (if n = 0 then 1 else 0) := by
      by_cases hn0 : n = 0
      · subst hn0
        simp [a_sounds, d1, d2]
        decide
      · have hne : ¬ nI n = 0 := nI_ne0 (by omega) (by omega)
        simp [a_sounds, d1, d2, hne, hn0]
    rw [e] at h
    refine x_istore_n (pc' := 6) (lv' := [(2, _), (0, _), (1, _)]) rfl rfl (Nat.le_of_ble_eq_true rfl) rfl ?_
    refine x_iload_n (pc' := 7) rfl rfl rfl ?_
    refine x_if_eq (tgt := 16) (pc' := 10) rfl rfl rfl (fun _ => ?_) (fun c7 => absurd (rfl) c7)
    refine x_aload_n (pc' := 17) rfl rfl rfl ?_
    refine x_get (pc' := 20) rfl rfl rfl (hS.1) rfl ?_
    refine x_aload_n (pc' := 21) rfl rfl rfl ?_
    refine x_get (pc' := 24) rfl rfl rfl (hS.1) rfl ?_
    refine x_aload_n (pc' := 25) rfl rfl rfl ?_
    refine x_get (pc' := 28) rfl rfl rfl (hS.1) rfl ?_
    refine x_iload_n (pc' := 29) rfl rfl rfl ?_
    refine x_cV3l (d := 2) (pc' := 32) rfl rfl sX5_186 gX4_toLay (hS.wy) ⟨Nat.le_of_ble_eq_true rfl, Nat.le_of_ble_eq_true rfl⟩ (Nat.le_of_ble_eq_true rfl) ⟨Nat.le_of_ble_eq_true rfl, Nat.le_of_ble_eq_true rfl⟩ ?_
    refine w_toLay0 hn hS (hS.2.1 0 (by decide)) (by decide) (by decide) (fun f1 hF1 => ⟨_, rfl, ?_⟩)
    refine x_ldc2 (pc' := 35) rfl rfl rfl ?_
    refine x_mminL (pc' := 38) rfl rfl sX5_192 ⟨Nat.le_of_ble_eq_true rfl, Nat.le_of_ble_eq_true rfl⟩ (Nat.le_of_ble_eq_true rfl) (Nat.le_of_ble_eq_true rfl) (Nat.le_of_ble_eq_true rfl) ?_
    refine x_eql (show (if (1000000000 : Int64) < (if n = 0 then 1 else 0) then (1000000000 : Int64) else (if n = 0 then 1 else 0)) = (if n = 0 then 1 else 0) from by by_cases hn0 : n = 0 <;> simp [hn0] <;> decide) ?_
    refine x_l2i (pc' := 39) rfl rfl ?_
    refine x_eqi (show Int64.toInt32 (if n = 0 then 1 else 0) = (if n = 0 then 1 else 0) from by by_cases hn0 : n = 0 <;> simp [hn0]) ?_
    exact x_ireturn rfl rfl rfl (Nat.le_of_ble_eq_true rfl) (Nat.le_of_ble_eq_true rfl) (h _ hF1)
theorem f_next {a : Int32} (hS : x_Sys z f x_S0) (h : x_P post f (a_next a)) : Y E 9 mX5_next [.ref 0, .int a] z f 0 0 post := by
  refine Y.intro gX5_next (lv := [(0, .ref 0), (1, .int a)]) rfl (Nat.le_of_ble_eq_true rfl) ?_
  refine x_aload_n (pc' := 1) rfl rfl rfl ?_
  refine x_iload_n (pc' := 2) rfl rfl rfl ?_
  refine x_cV1i (d := 5) (pc' := 5) rfl rfl sX5_183 gX5_refusalToLay (hS.1) ⟨Nat.le_of_ble_eq_true rfl, Nat.le_of_ble_eq_true rfl⟩ (Nat.le_of_ble_eq_true rfl) ⟨Nat.le_of_ble_eq_true rfl, Nat.le_of_ble_eq_true rfl⟩ ?_
  refine f_refusal hS (fun d1 => ⟨_, rfl, ?_⟩) (fun d1 d2 => ⟨_, rfl, ?_⟩) (fun d1 d2 => ⟨_, rfl, ?_⟩)
  · have e : a_next a = -4 := by simp [a_next, d1]
    rw [e] at h
    refine x_istore_n (pc' := 6) (lv' := [(2, _), (0, _), (1, _)]) rfl rfl (Nat.le_of_ble_eq_true rfl) rfl ?_
    refine x_iload_n (pc' := 7) rfl rfl rfl ?_
    refine x_if_eq (tgt := 18) (pc' := 10) rfl rfl rfl (fun c7 => absurd c7 ((by decide))) (fun _ => ?_)
    refine x_aload_n (pc' := 11) rfl rfl rfl ?_
    refine x_iload_n (pc' := 12) rfl rfl rfl ?_
    refine x_cV1i (d := 1) (pc' := 15) rfl rfl sX5_68 gX5_refuse (hS.1) ⟨Nat.le_of_ble_eq_true rfl, Nat.le_of_ble_eq_true rfl⟩ (Nat.le_of_ble_eq_true rfl) ⟨Nat.le_of_ble_eq_true rfl, Nat.le_of_ble_eq_true rfl⟩ ?_
    refine w_refuse (k := 4) (by decide) (by decide) hS (fun f1 hS1 hF1 => ⟨_, rfl, ?_⟩)
    refine x_goto (tgt := 34) rfl rfl ?_
    exact x_ireturn rfl rfl rfl (Nat.le_of_ble_eq_true rfl) (Nat.le_of_ble_eq_true rfl) (h _ hF1)
  · have e : a_next a = -6 := by simp [a_next, d1, d2]
    rw [e] at h
    refine x_istore_n (pc' := 6) (lv' := [(2, _), (0, _), (1, _)]) rfl rfl (Nat.le_of_ble_eq_true rfl) rfl ?_
    refine x_iload_n (pc' := 7) rfl rfl rfl ?_
    refine x_if_eq (tgt := 18) (pc' := 10) rfl rfl rfl (fun c7 => absurd c7 ((by decide))) (fun _ => ?_)
    refine x_aload_n (pc' := 11) rfl rfl rfl ?_
    refine x_iload_n (pc' := 12) rfl rfl rfl ?_
    refine x_cV1i (d := 1) (pc' := 15) rfl rfl sX5_68 gX5_refuse (hS.1) ⟨Nat.le_of_ble_eq_true rfl, Nat.le_of_ble_eq_true rfl⟩ (Nat.le_of_ble_eq_true rfl) ⟨Nat.le_of_ble_eq_true rfl, Nat.le_of_ble_eq_true rfl⟩ ?_
    refine w_refuse (k := 6) (by decide) (by decide) hS (fun f1 hS1 hF1 => ⟨_, rfl, ?_⟩)
    refine x_goto (tgt := 34) rfl rfl ?_
    exact x_ireturn rfl rfl rfl (Nat.le_of_ble_eq_true rfl) (Nat.le_of_ble_eq_true rfl) (h _ hF1)
  · have e : a_next a = -9 := by simp [a_next, d1, d2]
    rw [e] at h
    refine x_istore_n (pc' := 6) (lv' := [(2, _), (0, _), (1, _)]) rfl rfl (Nat.le_of_ble_eq_true rfl) rfl ?_
    refine x_iload_n (pc' := 7) rfl rfl rfl ?_
    refine x_if_eq (tgt := 18) (pc' := 10) rfl rfl rfl (fun _ => ?_) (fun c7 => absurd (rfl) c7)
    refine x_aload_n (pc' := 19) rfl rfl rfl ?_
    refine x_get (pc' := 22) rfl rfl rfl (hS.1) rfl ?_
    refine x_aload_n (pc' := 23) rfl rfl rfl ?_
    refine x_get (pc' := 26) rfl rfl rfl (hS.1) rfl ?_
    refine x_aload_n (pc' := 27) rfl rfl rfl ?_
    refine x_get (pc' := 30) rfl rfl rfl (hS.1) rfl ?_
    refine x_iload_n (pc' := 31) rfl rfl rfl ?_
    refine x_cV3i (d := 3) (pc' := 34) rfl rfl sX5_198 gX4_bowlToAsk (hS.wy) ⟨Nat.le_of_ble_eq_true rfl, Nat.le_of_ble_eq_true rfl⟩ (Nat.le_of_ble_eq_true rfl) ⟨Nat.le_of_ble_eq_true rfl, Nat.le_of_ble_eq_true rfl⟩ ?_
    refine w_ask0 hS (by decide) (fun f1 hF1 => ⟨_, rfl, ?_⟩)
    exact x_ireturn rfl rfl rfl (Nat.le_of_ble_eq_true rfl) (Nat.le_of_ble_eq_true rfl) (h _ hF1)
theorem f_playRow (hS : x_Sys z f x_S0) (h : ∀ (f' : x_H) (S' : x_S), x_Sys z f' S' → S'.1 = x_S0.1 → S'.2.1 2 = x_cp x_T0 x_T0 → x_fr (fun q => 59 ≤ q) f f' → post (some (.int 0)) f') : Y E 5 mX5_playRow [.ref 0] z f 0 0 post := by
  refine Y.intro gX5_playRow (lv := [(0, .ref 0)]) rfl (Nat.le_of_ble_eq_true rfl) ?_
  refine x_aload_n (pc' := 1) rfl rfl rfl ?_
  refine x_get (pc' := 4) rfl rfl rfl (hS.1) rfl ?_
  refine x_aload_n (pc' := 5) rfl rfl rfl ?_
  refine x_get (pc' := 8) rfl rfl rfl (hS.1) rfl ?_
  refine x_cV1v (d := 1) (pc' := 11) rfl rfl sX5_79 gX3_copyFrom ((hS.2.1 2 (by decide)).1) ⟨Nat.le_of_ble_eq_true rfl, Nat.le_of_ble_eq_true rfl⟩ (Nat.le_of_ble_eq_true rfl) ⟨Nat.le_of_ble_eq_true rfl, Nat.le_of_ble_eq_true rfl⟩ ?_
  refine w_copyFrom (hS.2.1 2 (by decide)) (hS.2.1 0 (by decide)) (by decide) (fun f1 hT1 hF1 => ⟨rfl, ?_⟩)
  have hS1 := hS.tab 2 (by decide) hT1 hF1
  have hG1 := hF1.mono (fun q hq => x_tpq 2 (by decide) hq)
  refine x_iconst (pc' := 12) rfl rfl iconst_0 ?_
  refine x_istore_n (pc' := 13) (lv' := [(1, _), (0, _)]) rfl rfl (Nat.le_of_ble_eq_true rfl) rfl ?_
  refine x_iload_n (pc' := 14) rfl rfl rfl ?_
  refine x_aload_n (pc' := 15) rfl rfl rfl ?_
  refine x_get (pc' := 18) rfl rfl rfl (hS1.1) rfl ?_
  refine x_icmp_ge (tgt := 65) (pc' := 21) rfl rfl rfl (fun _ => ?_) (fun c18 => absurd ((by decide : (0 : Int32) ≤ 0)) c18)
  refine x_iload_n (pc' := 66) rfl rfl rfl ?_
  exact x_ireturn rfl rfl rfl (Nat.le_of_ble_eq_true rfl) (Nat.le_of_ble_eq_true rfl) (h _ _ hS1 rfl rfl hG1)
theorem f_played {a : Int32} (hS : x_Sys z f x_S0) (h : x_P post f (a_played a)) : Y E 9 mX5_played [.ref 0, .int a] z f 0 0 post := by
  refine Y.intro gX5_played (lv := [(0, .ref 0), (1, .int a)]) rfl (Nat.le_of_ble_eq_true rfl) ?_
  by_cases c1 : a < 0 ∨ 1 < a
  · have e : a_played a = -2 := by simp [a_played, c1]
    rw [e] at h
    rcases c1 with d1 | d1
    ·
      refine x_iload_n (pc' := 1) rfl rfl rfl ?_
      refine x_if_lt (tgt := 9) (pc' := 4) rfl rfl rfl (fun _ => ?_) (fun c1 => absurd (d1) c1)
      refine x_aload_n (pc' := 10) rfl rfl rfl ?_
      refine x_bipush (pc' := 12) rfl rfl bipush_m2 ?_
      refine x_cV1i (d := 1) (pc' := 15) rfl rfl sX5_68 gX5_refuse (hS.1) ⟨Nat.le_of_ble_eq_true rfl, Nat.le_of_ble_eq_true rfl⟩ (Nat.le_of_ble_eq_true rfl) ⟨Nat.le_of_ble_eq_true rfl, Nat.le_of_ble_eq_true rfl⟩ ?_
      refine w_refuse (k := 2) (by decide) (by decide) hS (fun f1 hS1 hF1 => ⟨_, rfl, ?_⟩)
      exact x_ireturn rfl rfl rfl (Nat.le_of_ble_eq_true rfl) (Nat.le_of_ble_eq_true rfl) (h _ hF1)
    · have c0 : ¬ a < 0 := fun q => absurd (Int32.lt_trans q (Int32.lt_trans (by decide : (0 : Int32) < 1) d1)) Int32.lt_irrefl
      refine x_iload_n (pc' := 1) rfl rfl rfl ?_
      refine x_if_lt (tgt := 9) (pc' := 4) rfl rfl rfl (fun c1 => absurd c1 (c0)) (fun _ => ?_)
      refine x_iload_n (pc' := 5) rfl rfl rfl ?_
      refine x_iconst (pc' := 6) rfl rfl iconst_1 ?_
      refine x_icmp_le (tgt := 16) (pc' := 9) rfl rfl rfl (fun c6 => absurd c6 (Int32.not_le.mpr d1)) (fun _ => ?_)
      refine x_aload_n (pc' := 10) rfl rfl rfl ?_
      refine x_bipush (pc' := 12) rfl rfl bipush_m2 ?_
      refine x_cV1i (d := 1) (pc' := 15) rfl rfl sX5_68 gX5_refuse (hS.1) ⟨Nat.le_of_ble_eq_true rfl, Nat.le_of_ble_eq_true rfl⟩ (Nat.le_of_ble_eq_true rfl) ⟨Nat.le_of_ble_eq_true rfl, Nat.le_of_ble_eq_true rfl⟩ ?_
      refine w_refuse (k := 2) (by decide) (by decide) hS (fun f1 hS1 hF1 => ⟨_, rfl, ?_⟩)
      exact x_ireturn rfl rfl rfl (Nat.le_of_ble_eq_true rfl) (Nat.le_of_ble_eq_true rfl) (h _ hF1)
  · have e : a_played a = 0 := by simp only [a_played, if_neg c1]
    rw [e] at h
    have c0 : ¬ a < 0 := fun q => c1 (Or.inl q)
    have c2 : ¬ 1 < a := fun q => c1 (Or.inr q)
    have c3 : a < 2 := by
      have h1 : (1 : Int32).toInt = 1 := by decide
      have h2 : (2 : Int32).toInt = 2 := by decide
      rw [Int32.lt_iff_toInt_lt] at c2 ⊢
      omega
    refine x_iload_n (pc' := 1) rfl rfl rfl ?_
    refine x_if_lt (tgt := 9) (pc' := 4) rfl rfl rfl (fun c1 => absurd c1 (c0)) (fun _ => ?_)
    refine x_iload_n (pc' := 5) rfl rfl rfl ?_
    refine x_iconst (pc' := 6) rfl rfl iconst_1 ?_
    refine x_icmp_le (tgt := 16) (pc' := 9) rfl rfl rfl (fun _ => ?_) (fun c6 => absurd (Int32.not_lt.mp c2) c6)
    refine x_aload_n (pc' := 17) rfl rfl rfl ?_
    refine x_cV0i (d := 5) (pc' := 20) rfl rfl sX5_202 gX5_playRow (hS.1) ⟨Nat.le_of_ble_eq_true rfl, Nat.le_of_ble_eq_true rfl⟩ (Nat.le_of_ble_eq_true rfl) ⟨Nat.le_of_ble_eq_true rfl, Nat.le_of_ble_eq_true rfl⟩ ?_
    refine f_playRow hS (fun f1 S1 hS1 g1 g2 hF1 => ⟨_, rfl, ?_⟩)
    refine x_pop (pc' := 21) rfl rfl rfl ?_
    refine x_aload_n (pc' := 22) rfl rfl rfl ?_
    refine x_get (pc' := 25) rfl rfl rfl (hS1.1) rfl ?_
    refine x_iload_n (pc' := 26) rfl rfl rfl ?_
    refine x_cV1i (d := 1) (pc' := 29) rfl rfl sX5_205 gX3_purseOf ((hS1.2.1 2 (by decide)).1) ⟨Nat.le_of_ble_eq_true rfl, Nat.le_of_ble_eq_true rfl⟩ (Nat.le_of_ble_eq_true rfl) ⟨Nat.le_of_ble_eq_true rfl, Nat.le_of_ble_eq_true rfl⟩ ?_
    refine w_purseOf (hS1.2.1 2 (by decide)) (fun _ => ⟨_, rfl, ?_⟩) (fun q => absurd ⟨c0, c3⟩ q)
    rw [g2]
    exact x_ireturn rfl rfl rfl (Nat.le_of_ble_eq_true rfl) (Nat.le_of_ble_eq_true rfl) (h _ hF1)
theorem f_row {a : Int32} (hS : x_Sys z f x_S0) (h : x_P post f (a_row a)) : Y E 9 mX5_row [.ref 0, .int a] z f 0 0 post := by
  refine Y.intro gX5_row (lv := [(0, .ref 0), (1, .int a)]) rfl (Nat.le_of_ble_eq_true rfl) ?_
  refine x_iload_n (pc' := 1) rfl rfl rfl ?_
  by_cases c1 : a < 0
  · have e : a_row a = -4 := by simp [a_row, c1]
    rw [e] at h
    refine x_if_ge (tgt := 11) (pc' := 4) rfl rfl rfl (fun q => absurd c1 (Int32.not_lt.mpr q)) (fun _ => ?_)
    refine x_aload_n (pc' := 5) rfl rfl rfl ?_
    refine x_bipush (pc' := 7) rfl rfl bipush_m4 ?_
    refine x_cV1i (d := 1) (pc' := 10) rfl rfl sX5_68 gX5_refuse (hS.1) ⟨Nat.le_of_ble_eq_true rfl, Nat.le_of_ble_eq_true rfl⟩ (Nat.le_of_ble_eq_true rfl) ⟨Nat.le_of_ble_eq_true rfl, Nat.le_of_ble_eq_true rfl⟩ ?_
    refine w_refuse (k := 4) (by decide) (by decide) hS (fun f1 hS1 hF1 => ⟨_, rfl, ?_⟩)
    exact x_ireturn rfl rfl rfl (Nat.le_of_ble_eq_true rfl) (Nat.le_of_ble_eq_true rfl) (h _ hF1)
  · refine x_if_ge (tgt := 11) (pc' := 4) rfl rfl rfl (fun _ => ?_) (fun q => absurd (Int32.not_lt.mp c1) q)
    refine x_iload_n (pc' := 12) rfl rfl rfl ?_
    refine x_bipush (pc' := 14) rfl rfl bipush_9 ?_
    by_cases c2 : 9 < a
    · have e : a_row a = -6 := by simp [a_row, c1, c2]
      rw [e] at h
      refine x_icmp_gt (tgt := 36) (pc' := 17) rfl rfl rfl (fun _ => ?_) (fun q => absurd c2 q)
      refine x_aload_n (pc' := 37) rfl rfl rfl ?_
      refine x_bipush (pc' := 39) rfl rfl bipush_m6 ?_
      refine x_cV1i (d := 1) (pc' := 42) rfl rfl sX5_68 gX5_refuse (hS.1) ⟨Nat.le_of_ble_eq_true rfl, Nat.le_of_ble_eq_true rfl⟩ (Nat.le_of_ble_eq_true rfl) ⟨Nat.le_of_ble_eq_true rfl, Nat.le_of_ble_eq_true rfl⟩ ?_
      refine w_refuse (k := 6) (by decide) (by decide) hS (fun f1 hS1 hF1 => ⟨_, rfl, ?_⟩)
      exact x_ireturn rfl rfl rfl (Nat.le_of_ble_eq_true rfl) (Nat.le_of_ble_eq_true rfl) (h _ hF1)
    · have e : a_row a = 1 := by simp [a_row, c1, c2]
      rw [e] at h
      refine x_icmp_gt (tgt := 36) (pc' := 17) rfl rfl rfl (fun q => absurd q c2) (fun _ => ?_)
      refine x_aload_n (pc' := 18) rfl rfl rfl ?_
      refine x_get (pc' := 21) rfl rfl rfl (hS.1) rfl ?_
      refine x_if_lt (tgt := 36) (pc' := 24) rfl rfl rfl (fun c21 => absurd c21 ((by decide : ¬ (0 : Int32) < 0))) (fun _ => ?_)
      refine x_aload_n (pc' := 25) rfl rfl rfl ?_
      refine x_get (pc' := 28) rfl rfl rfl (hS.1) rfl ?_
      refine x_aload_n (pc' := 29) rfl rfl rfl ?_
      refine x_get (pc' := 32) rfl rfl rfl (hS.1) rfl ?_
      refine x_alen (pc' := 33) rfl rfl (hS.2.2.1 5 (by decide)) ?_
      refine x_icmp_lt (tgt := 43) (pc' := 36) rfl rfl rfl (fun _ => ?_) (fun c33 => absurd ((show (0 : Int32) < Int32.ofNat 12 from by decide)) c33)
      refine x_aload_n (pc' := 44) rfl rfl rfl ?_
      refine x_get (pc' := 47) rfl rfl rfl (hS.1) rfl ?_
      refine x_aload_n (pc' := 48) rfl rfl rfl ?_
      refine x_get (pc' := 51) rfl rfl rfl (hS.1) rfl ?_
      refine x_iload_n (pc' := 52) rfl rfl rfl ?_
      refine x_iastore (pc' := 53) rfl rfl (hS.2.2.1 5 (by decide)) ((vp_in_nI (n := 0) (N := 12) (by decide) (by decide))) (fun f1 e1 => ?_)
      have hS1 := hS.arr 5 (by decide) e1
      have hF1 := (x_fr.rf (P := fun q => 59 ≤ q)).up e1 (by decide)
      refine x_aload_n (pc' := 54) rfl rfl rfl ?_
      refine x_dup (pc' := 55) rfl rfl rfl ?_
      refine x_get (pc' := 58) rfl rfl rfl (hS1.1) rfl ?_
      refine x_iconst (pc' := 59) rfl rfl iconst_1 ?_
      refine x_iadd (pc' := 60) rfl rfl ?_
      refine x_put (pc' := 63) rfl rfl rfl (hS1.1) (Nat.le_of_ble_eq_true rfl) rfl rfl rfl rfl (fun f2 e2 => ?_)
      have hS2 := hS1.num0 (upd x_S0.1 1 1) e2 (fun i hi => by unfold upd; rw [if_neg (by omega)])
      have hF2 := hF1.up e2 (by decide)
      refine x_aload_n (pc' := 64) rfl rfl rfl ?_
      refine x_get (pc' := 67) rfl rfl rfl (hS2.1) rfl ?_
      exact x_ireturn rfl rfl rfl (Nat.le_of_ble_eq_true rfl) (Nat.le_of_ble_eq_true rfl) (h _ hF2)
theorem f_judge (hS : x_Sys z f x_S0) (h : x_P post f (-9)) : Y E 9 mX5_judge [.ref 0] z f 0 0 post := by
  refine Y.intro gX5_judge (lv := [(0, .ref 0)]) rfl (Nat.le_of_ble_eq_true rfl) ?_
  refine x_aload_n (pc' := 1) rfl rfl rfl ?_
  refine x_cV0i (d := 5) (pc' := 4) rfl rfl sX5_202 gX5_playRow (hS.1) ⟨Nat.le_of_ble_eq_true rfl, Nat.le_of_ble_eq_true rfl⟩ (Nat.le_of_ble_eq_true rfl) ⟨Nat.le_of_ble_eq_true rfl, Nat.le_of_ble_eq_true rfl⟩ ?_
  refine f_playRow hS (fun f1 S1 hS1 g1 g2 hF1 => ⟨_, rfl, ?_⟩)
  refine x_istore_n (pc' := 5) (lv' := [(1, _), (0, _)]) rfl rfl (Nat.le_of_ble_eq_true rfl) rfl ?_
  refine x_iload_n (pc' := 6) rfl rfl rfl ?_
  refine x_aload_n (pc' := 7) rfl rfl rfl ?_
  refine x_get (pc' := 10) rfl rfl rfl (hS1.1) rfl ?_
  rw [g1]
  refine x_icmp_ge (tgt := 17) (pc' := 13) rfl rfl rfl (fun _ => ?_) (fun c10 => absurd ((by decide : (0 : Int32) ≤ 0)) c10)
  refine x_bipush (pc' := 19) rfl rfl bipush_m9 ?_
  refine x_istore_n (pc' := 20) (lv' := [(2, _), (1, _), (0, _)]) rfl rfl (Nat.le_of_ble_eq_true rfl) rfl ?_
  refine x_aload_n (pc' := 21) rfl rfl rfl ?_
  refine x_iconst (pc' := 22) rfl rfl iconst_0 ?_
  refine x_put (pc' := 25) rfl rfl rfl (hS1.1) (Nat.le_of_ble_eq_true rfl) rfl rfl rfl rfl (fun f1 e1 => ?_)
  have hF2 := hF1.up e1 (by decide)
  refine x_iload_n (pc' := 26) rfl rfl rfl ?_
  exact x_ireturn rfl rfl rfl (Nat.le_of_ble_eq_true rfl) (Nat.le_of_ble_eq_true rfl) (h _ hF2)
theorem f_lots {a b : Int32} (hS : x_Sys z f x_S0) (h : x_P post f (a_lots a)) : Y E 9 mX5_lots [.ref 0, .int a, .int b] z f 0 0 post := by
  refine Y.intro gX5_lots (lv := [(0, .ref 0), (1, .int a), (2, .int b)]) rfl (Nat.le_of_ble_eq_true rfl) ?_
  refine x_iload_n (pc' := 1) rfl rfl rfl ?_
  refine x_iconst (pc' := 2) rfl rfl iconst_1 ?_
  by_cases c1 : a < 1
  · have e : a_lots a = 1000000000 - (-4) := by simp [a_lots, c1]; try decide
    rw [e] at h
    refine x_icmp_ge (tgt := 12) (pc' := 5) rfl rfl rfl (fun q => absurd c1 (Int32.not_lt.mpr q)) (fun _ => ?_)
    refine x_aload_n (pc' := 6) rfl rfl rfl ?_
    refine x_bipush (pc' := 8) rfl rfl bipush_m4 ?_
    refine x_cV1i (d := 2) (pc' := 11) rfl rfl sX5_152 gX5_refuseFar (hS.1) ⟨Nat.le_of_ble_eq_true rfl, Nat.le_of_ble_eq_true rfl⟩ (Nat.le_of_ble_eq_true rfl) ⟨Nat.le_of_ble_eq_true rfl, Nat.le_of_ble_eq_true rfl⟩ ?_
    refine w_refuseFar (k := 4) (by decide) (by decide) hS (fun f1 hS1 hF1 => ⟨_, rfl, ?_⟩)
    exact x_ireturn rfl rfl rfl (Nat.le_of_ble_eq_true rfl) (Nat.le_of_ble_eq_true rfl) (h _ hF1)
  · refine x_icmp_ge (tgt := 12) (pc' := 5) rfl rfl rfl (fun _ => ?_) (fun q => absurd (Int32.not_lt.mp c1) q)
    refine x_iload_n (pc' := 13) rfl rfl rfl ?_
    refine x_bipush (pc' := 15) rfl rfl bipush_20 ?_
    by_cases c2 : 20 < a
    · have e : a_lots a = 1000000000 - (-6) := by simp [a_lots, c1, c2]; try decide
      rw [e] at h
      refine x_icmp_le (tgt := 25) (pc' := 18) rfl rfl rfl (fun q => absurd c2 (Int32.not_lt.mpr q)) (fun _ => ?_)
      refine x_aload_n (pc' := 19) rfl rfl rfl ?_
      refine x_bipush (pc' := 21) rfl rfl bipush_m6 ?_
      refine x_cV1i (d := 2) (pc' := 24) rfl rfl sX5_152 gX5_refuseFar (hS.1) ⟨Nat.le_of_ble_eq_true rfl, Nat.le_of_ble_eq_true rfl⟩ (Nat.le_of_ble_eq_true rfl) ⟨Nat.le_of_ble_eq_true rfl, Nat.le_of_ble_eq_true rfl⟩ ?_
      refine w_refuseFar (k := 6) (by decide) (by decide) hS (fun f1 hS1 hF1 => ⟨_, rfl, ?_⟩)
      exact x_ireturn rfl rfl rfl (Nat.le_of_ble_eq_true rfl) (Nat.le_of_ble_eq_true rfl) (h _ hF1)
    · have e : a_lots a = 1000000000 - (-3) := by simp [a_lots, c1, c2]; try decide
      rw [e] at h
      refine x_icmp_le (tgt := 25) (pc' := 18) rfl rfl rfl (fun _ => ?_) (fun q => absurd (Int32.not_lt.mp c2) q)
      refine x_aload_n (pc' := 26) rfl rfl rfl ?_
      refine x_get (pc' := 29) rfl rfl rfl (hS.1) rfl ?_
      refine x_get (pc' := 32) rfl rfl rfl ((hS.2.1 0 (by decide)).1) rfl ?_
      refine x_iconst (pc' := 33) rfl rfl iconst_2 ?_
      refine x_icmp_ge (tgt := 43) (pc' := 36) rfl rfl rfl (fun c33 => absurd c33 ((by decide : ¬ (2 : Int32) ≤ 0))) (fun _ => ?_)
      refine x_aload_n (pc' := 37) rfl rfl rfl ?_
      refine x_bipush (pc' := 39) rfl rfl bipush_m3 ?_
      refine x_cV1i (d := 2) (pc' := 42) rfl rfl sX5_152 gX5_refuseFar (hS.1) ⟨Nat.le_of_ble_eq_true rfl, Nat.le_of_ble_eq_true rfl⟩ (Nat.le_of_ble_eq_true rfl) ⟨Nat.le_of_ble_eq_true rfl, Nat.le_of_ble_eq_true rfl⟩ ?_
      refine w_refuseFar (k := 3) (by decide) (by decide) hS (fun f1 hS1 hF1 => ⟨_, rfl, ?_⟩)
      exact x_ireturn rfl rfl rfl (Nat.le_of_ble_eq_true rfl) (Nat.le_of_ble_eq_true rfl) (h _ hF1)
theorem f_image (hS : x_Sys z f x_S0) (h : x_P post f 0) : Y E 9 mX5_image [.ref 0] z f 0 0 post := by
  refine Y.intro gX5_image (lv := [(0, .ref 0)]) rfl (Nat.le_of_ble_eq_true rfl) ?_
  refine x_aload_n (pc' := 1) rfl rfl rfl ?_
  refine x_get (pc' := 4) rfl rfl rfl (hS.1) rfl ?_
  refine x_aload_n (pc' := 5) rfl rfl rfl ?_
  refine x_get (pc' := 8) rfl rfl rfl (hS.1) rfl ?_
  refine x_cV1v (d := 1) (pc' := 11) rfl rfl sX5_79 gX3_copyFrom ((hS.2.1 1 (by decide)).1) ⟨Nat.le_of_ble_eq_true rfl, Nat.le_of_ble_eq_true rfl⟩ (Nat.le_of_ble_eq_true rfl) ⟨Nat.le_of_ble_eq_true rfl, Nat.le_of_ble_eq_true rfl⟩ ?_
  refine w_copyFrom (hS.2.1 1 (by decide)) (hS.2.1 0 (by decide)) (by decide) (fun f1 hT1 hF1 => ⟨rfl, ?_⟩)
  have hS1 := hS.tab 1 (by decide) hT1 hF1
  have hG1 := hF1.mono (fun q hq => x_tpq 1 (by decide) hq)
  refine x_aload_n (pc' := 12) rfl rfl rfl ?_
  refine x_iconst (pc' := 13) rfl rfl iconst_1 ?_
  refine x_put (pc' := 16) rfl rfl rfl (hS1.1) (Nat.le_of_ble_eq_true rfl) rfl rfl rfl rfl (fun f1 e1 => ?_)
  have hS2 := hS1.num0 (upd x_S0.1 0 1) e1 (fun i hi => by unfold upd; rw [if_neg (by omega)])
  have hF2 := hG1.up e1 (by decide)
  refine x_aload_n (pc' := 17) rfl rfl rfl ?_
  refine x_get (pc' := 20) rfl rfl rfl (hS2.1) rfl ?_
  refine x_get (pc' := 23) rfl rfl rfl ((hS2.2.1 0 (by decide)).1) rfl ?_
  exact x_ireturn rfl rfl rfl (Nat.le_of_ble_eq_true rfl) (Nat.le_of_ble_eq_true rfl) (h _ hF2)
theorem f_on (hS : x_Sys z f x_S0) (h : x_P post f (-3)) : Y E 9 mX5_on [.ref 0] z f 0 0 post := by
  refine Y.intro gX5_on (lv := [(0, .ref 0)]) rfl (Nat.le_of_ble_eq_true rfl) ?_
  refine x_aload_n (pc' := 1) rfl rfl rfl ?_
  refine x_get (pc' := 4) rfl rfl rfl (hS.1) rfl ?_
  refine x_if_ne (tgt := 14) (pc' := 7) rfl rfl rfl (fun c4 => absurd (rfl) c4) (fun _ => ?_)
  refine x_aload_n (pc' := 8) rfl rfl rfl ?_
  refine x_bipush (pc' := 10) rfl rfl bipush_m3 ?_
  refine x_cV1i (d := 1) (pc' := 13) rfl rfl sX5_68 gX5_refuse (hS.1) ⟨Nat.le_of_ble_eq_true rfl, Nat.le_of_ble_eq_true rfl⟩ (Nat.le_of_ble_eq_true rfl) ⟨Nat.le_of_ble_eq_true rfl, Nat.le_of_ble_eq_true rfl⟩ ?_
  refine w_refuse (k := 3) (by decide) (by decide) hS (fun f1 hS1 hF1 => ⟨_, rfl, ?_⟩)
  exact x_ireturn rfl rfl rfl (Nat.le_of_ble_eq_true rfl) (Nat.le_of_ble_eq_true rfl) (h _ hF1)
end FRESHB
