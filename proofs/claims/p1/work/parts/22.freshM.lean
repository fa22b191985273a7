/-! The reference's first answers. -/
abbrev x_R (post : Option Value → x_H → Prop) (r : Int32) : Prop := ∀ f' : x_H, post (some (.int r)) f'
/-- as new, so far as answers go -/
def x_F (M : x_N) : Prop := M.1 3 = 0 ∧ M.1 7 = 0 ∧ (∀ j, M.2.1 2 j = 0) ∧ M.1 13 = 0
theorem x_F0 : x_F x_M0 := ⟨rfl, rfl, fun _ => rfl, rfl⟩
theorem noB {b : Int32} {m : Int32} (hm : m = 0) : ¬ (¬ b < 0 ∧ ¬ m - 1 < b) := by
  intro h
  have h1 := h.1
  have h2 := h.2
  subst hm
  rw [i32_lit] at h1 h2
  have t0 : (0 : Int32).toInt = 0 := by decide
  have t1 : ((0 : Int32) - 1).toInt = -1 := by decide
  omega
section FRESHM
variable {E : x_E} {z : Nat} {f : x_H} {M : x_N} {post : Option Value → x_H → Prop}
theorem m_letter {a : Int32} (hM : x_Mdl z f x_M0) (h : x_R post (a_letter a)) : Y E 9 mX6_letter [.ref 59, .int a] z f 0 0 post := by
  refine Y.intro gX6_letter (lv := [(0, .ref 59), (1, .int a)]) rfl (Nat.le_of_ble_eq_true rfl) ?_
  refine x_iload_n (pc' := 1) rfl rfl rfl ?_
  by_cases c1 : a < 0
  · have e : a_letter a = -4 := by simp [a_letter, c1]
    rw [e] at h
    refine x_if_ge (tgt := 11) (pc' := 4) rfl rfl rfl (fun q => absurd c1 (Int32.not_lt.mpr q)) (fun _ => ?_)
    refine x_aload_n (pc' := 5) rfl rfl rfl ?_
    refine x_bipush (pc' := 7) rfl rfl bipush_m4 ?_
    refine x_cV1i (d := 1) (pc' := 10) rfl rfl sX6_110 gX6_refuse (hM.1) ⟨Nat.le_of_ble_eq_true rfl, Nat.le_of_ble_eq_true rfl⟩ (Nat.le_of_ble_eq_true rfl) ⟨Nat.le_of_ble_eq_true rfl, Nat.le_of_ble_eq_true rfl⟩ ?_
    refine w_mRefuse (k := 3) (by decide) (by decide) hM (fun f1 hM1 hF1 => ⟨_, rfl, ?_⟩)
    exact x_ireturn rfl rfl rfl (Nat.le_of_ble_eq_true rfl) (Nat.le_of_ble_eq_true rfl) (h _)
  · refine x_if_ge (tgt := 11) (pc' := 4) rfl rfl rfl (fun _ => ?_) (fun q => absurd (Int32.not_lt.mp c1) q)
    refine x_iload_n (pc' := 12) rfl rfl rfl ?_
    refine x_sipush (pc' := 15) rfl rfl sipush_255 ?_
    by_cases c2 : 255 < a
    · have e : a_letter a = -6 := by simp [a_letter, c1, c2]
      rw [e] at h
      refine x_icmp_gt (tgt := 27) (pc' := 18) rfl rfl rfl (fun _ => ?_) (fun q => absurd c2 q)
      refine x_aload_n (pc' := 28) rfl rfl rfl ?_
      refine x_bipush (pc' := 30) rfl rfl bipush_m6 ?_
      refine x_cV1i (d := 1) (pc' := 33) rfl rfl sX6_110 gX6_refuse (hM.1) ⟨Nat.le_of_ble_eq_true rfl, Nat.le_of_ble_eq_true rfl⟩ (Nat.le_of_ble_eq_true rfl) ⟨Nat.le_of_ble_eq_true rfl, Nat.le_of_ble_eq_true rfl⟩ ?_
      refine w_mRefuse (k := 5) (by decide) (by decide) hM (fun f1 hM1 hF1 => ⟨_, rfl, ?_⟩)
      exact x_ireturn rfl rfl rfl (Nat.le_of_ble_eq_true rfl) (Nat.le_of_ble_eq_true rfl) (h _)
    · have e : a_letter a = 1 := by simp [a_letter, c1, c2]
      rw [e] at h
      refine x_icmp_gt (tgt := 27) (pc' := 18) rfl rfl rfl (fun q => absurd q c2) (fun _ => ?_)
      refine x_aload_n (pc' := 19) rfl rfl rfl ?_
      refine x_get (pc' := 22) rfl rfl rfl (hM.1) rfl ?_
      refine x_bipush (pc' := 24) rfl rfl bipush_96 ?_
      refine x_icmp_ne (tgt := 34) (pc' := 27) rfl rfl rfl (fun _ => ?_) (fun c24 => absurd c24 ((by decide : ¬ (0 : Int32) = 96)))
      refine x_aload_n (pc' := 35) rfl rfl rfl ?_
      refine x_get (pc' := 38) rfl rfl rfl (hM.1) rfl ?_
      refine x_aload_n (pc' := 39) rfl rfl rfl ?_
      refine x_get (pc' := 42) rfl rfl rfl (hM.1) rfl ?_
      refine x_iload_n (pc' := 43) rfl rfl rfl ?_
      refine x_iastore (pc' := 44) rfl rfl (hM.2.1 4 (by decide)) ((vp_in_nI (n := 0) (N := 96) (by decide) (by decide))) (fun f1 e1 => ?_)
      have hM1 := hM.arr 4 (by decide) e1
      refine x_aload_n (pc' := 45) rfl rfl rfl ?_
      refine x_dup (pc' := 46) rfl rfl rfl ?_
      refine x_get (pc' := 49) rfl rfl rfl (hM1.1) rfl ?_
      refine x_iconst (pc' := 50) rfl rfl iconst_1 ?_
      refine x_iadd (pc' := 51) rfl rfl ?_
      refine x_put (pc' := 54) rfl rfl rfl (hM1.1) (Nat.le_of_ble_eq_true rfl) rfl rfl rfl rfl (fun f2 e2 => ?_)
      have hM2 := hM1.num 11 e2 (x_mFs11 _ _)
      refine x_aload_n (pc' := 55) rfl rfl rfl ?_
      refine x_get (pc' := 58) rfl rfl rfl (hM2.1) rfl ?_
      exact x_ireturn rfl rfl rfl (Nat.le_of_ble_eq_true rfl) (Nat.le_of_ble_eq_true rfl) (h _)
theorem m_letterAt0 (hM : x_Mdl z f M) (h11 : M.1 11 = 0) (h : post (some (.int (-1))) f) : Y E 1 mX6_letterAt [.ref 59, .int 0] z f 0 0 post := by
  refine Y.intro gX6_letterAt (lv := [(0, .ref 59), (1, .int 0)]) rfl (Nat.le_of_ble_eq_true rfl) ?_
  refine x_iload_n (pc' := 1) rfl rfl rfl ?_
  refine x_aload_n (pc' := 2) rfl rfl rfl ?_
  refine x_get (pc' := 5) rfl rfl rfl (hM.1) rfl ?_
  refine x_icmp_ge (tgt := 17) (pc' := 8) rfl rfl rfl (fun _ => ?_) (fun c5 => absurd ((by rw [h11]; decide)) c5)
  refine x_iconst (pc' := 18) rfl rfl iconst_m1 ?_
  exact x_ireturn rfl rfl rfl (Nat.le_of_ble_eq_true rfl) (Nat.le_of_ble_eq_true rfl) (h)
theorem m_passes0 (hM : x_Mdl z f M) (h11 : M.1 11 = 0) (h : ∀ f' : x_H, x_Mdl z f' (upd M.1 20 0, M.2.1, M.2.2) → post (some (.int 0)) f') : Y E 3 mX6_passes [.ref 59, .int 0] z f 0 0 post := by
  refine Y.intro gX6_passes (lv := [(0, .ref 59), (1, .int 0)]) rfl (Nat.le_of_ble_eq_true rfl) ?_
  refine x_aload_n (pc' := 1) rfl rfl rfl ?_
  refine x_iload_n (pc' := 2) rfl rfl rfl ?_
  refine x_cV1i (d := 1) (pc' := 5) rfl rfl sX6_116 gX6_letterAt (hM.1) ⟨Nat.le_of_ble_eq_true rfl, Nat.le_of_ble_eq_true rfl⟩ (Nat.le_of_ble_eq_true rfl) ⟨Nat.le_of_ble_eq_true rfl, Nat.le_of_ble_eq_true rfl⟩ ?_
  refine m_letterAt0 hM h11 ⟨_, rfl, ?_⟩
  refine x_istore_n (pc' := 6) (lv' := [(2, _), (0, _), (1, _)]) rfl rfl (Nat.le_of_ble_eq_true rfl) rfl ?_
  refine x_iload_n (pc' := 7) rfl rfl rfl ?_
  refine x_iconst (pc' := 8) rfl rfl iconst_1 ?_
  refine x_iadd (pc' := 9) rfl rfl ?_
  refine x_istore_n (pc' := 10) (lv' := [(3, _), (2, _), (0, _), (1, _)]) rfl rfl (Nat.le_of_ble_eq_true rfl) rfl ?_
  refine x_iconst (pc' := 11) rfl rfl iconst_1 ?_
  refine x_istore (pc' := 13) (lv' := [(4, _), (3, _), (2, _), (0, _), (1, _)]) rfl rfl (Nat.le_of_ble_eq_true rfl) rfl ?_
  refine x_iconst (pc' := 14) rfl rfl iconst_1 ?_
  refine x_istore (pc' := 16) (lv' := [(5, _), (4, _), (3, _), (2, _), (0, _), (1, _)]) rfl rfl (Nat.le_of_ble_eq_true rfl) rfl ?_
  refine x_iload_n (pc' := 17) rfl rfl rfl ?_
  refine x_bipush (pc' := 19) rfl rfl bipush_98 ?_
  refine x_icmp_ne (tgt := 52) (pc' := 22) rfl rfl rfl (fun _ => ?_) (fun c19 => absurd c19 ((by decide)))
  refine x_iload_n (pc' := 53) rfl rfl rfl ?_
  refine x_bipush (pc' := 55) rfl rfl bipush_99 ?_
  refine x_icmp_ne (tgt := 67) (pc' := 58) rfl rfl rfl (fun _ => ?_) (fun c55 => absurd c55 ((by decide)))
  refine x_iload_n (pc' := 68) rfl rfl rfl ?_
  refine x_bipush (pc' := 70) rfl rfl bipush_115 ?_
  refine x_icmp_ne (tgt := 80) (pc' := 73) rfl rfl rfl (fun _ => ?_) (fun c70 => absurd c70 ((by decide)))
  refine x_iload_n (pc' := 81) rfl rfl rfl ?_
  refine x_bipush (pc' := 83) rfl rfl bipush_102 ?_
  refine x_icmp_eq (tgt := 105) (pc' := 86) rfl rfl rfl (fun c83 => absurd c83 ((by decide))) (fun _ => ?_)
  refine x_iload_n (pc' := 87) rfl rfl rfl ?_
  refine x_bipush (pc' := 89) rfl rfl bipush_108 ?_
  refine x_icmp_eq (tgt := 105) (pc' := 92) rfl rfl rfl (fun c89 => absurd c89 ((by decide))) (fun _ => ?_)
  refine x_iload_n (pc' := 93) rfl rfl rfl ?_
  refine x_bipush (pc' := 95) rfl rfl bipush_116 ?_
  refine x_icmp_eq (tgt := 105) (pc' := 98) rfl rfl rfl (fun c95 => absurd c95 ((by decide))) (fun _ => ?_)
  refine x_aload_n (pc' := 99) rfl rfl rfl ?_
  refine x_iload_n (pc' := 100) rfl rfl rfl ?_
  refine x_put (pc' := 103) rfl rfl rfl (hM.1) (Nat.le_of_ble_eq_true rfl) rfl rfl rfl rfl (fun f1 e1 => ?_)
  have hM1 := hM.num 20 e1 (x_mFs20 _ _)
  refine x_iload_n (pc' := 104) rfl rfl rfl ?_
  exact x_ireturn rfl rfl rfl (Nat.le_of_ble_eq_true rfl) (Nat.le_of_ble_eq_true rfl) (h _ hM1)
theorem m_game (hM : x_Mdl z f x_M0) (h : x_R post (-1000)) : Y E 9 mX6_game [.ref 59] z f 0 0 post := by
  refine Y.intro gX6_game (lv := [(0, .ref 59)]) rfl (Nat.le_of_ble_eq_true rfl) ?_
  refine x_aload_n (pc' := 1) rfl rfl rfl ?_
  refine x_iconst (pc' := 2) rfl rfl iconst_m1 ?_
  refine x_put (pc' := 5) rfl rfl rfl (hM.1) (Nat.le_of_ble_eq_true rfl) rfl rfl rfl rfl (fun f1 e1 => ?_)
  have hM1 := hM.num 20 e1 (x_mFs20 _ _)
  refine x_iconst (pc' := 6) rfl rfl iconst_0 ?_
  refine x_istore_n (pc' := 7) (lv' := [(1, _), (0, _)]) rfl rfl (Nat.le_of_ble_eq_true rfl) rfl ?_
  refine x_iconst (pc' := 8) rfl rfl iconst_0 ?_
  refine x_istore_n (pc' := 9) (lv' := [(2, _), (1, _), (0, _)]) rfl rfl (Nat.le_of_ble_eq_true rfl) rfl ?_
  refine x_aload_n (pc' := 10) rfl rfl rfl ?_
  refine x_get (pc' := 13) rfl rfl rfl (hM1.1) rfl ?_
  refine x_if_ge (tgt := 40) (pc' := 16) rfl rfl rfl (fun c13 => absurd c13 ((by decide : ¬ (0 : Int32) ≤ -1))) (fun _ => ?_)
  refine x_iload_n (pc' := 17) rfl rfl rfl ?_
  refine x_aload_n (pc' := 18) rfl rfl rfl ?_
  refine x_get (pc' := 21) rfl rfl rfl (hM1.1) rfl ?_
  refine x_icmp_lt (tgt := 28) (pc' := 24) rfl rfl rfl (fun c21 => absurd c21 ((by decide : ¬ (0 : Int32) < 0))) (fun _ => ?_)
  refine x_iload_n (pc' := 25) rfl rfl rfl ?_
  refine x_if_ne (tgt := 40) (pc' := 28) rfl rfl rfl (fun c25 => absurd (rfl) c25) (fun _ => ?_)
  refine x_aload_n (pc' := 29) rfl rfl rfl ?_
  refine x_iload_n (pc' := 30) rfl rfl rfl ?_
  refine x_cV1i (d := 3) (pc' := 33) rfl rfl sX6_151 gX6_passes (hM1.1) ⟨Nat.le_of_ble_eq_true rfl, Nat.le_of_ble_eq_true rfl⟩ (Nat.le_of_ble_eq_true rfl) ⟨Nat.le_of_ble_eq_true rfl, Nat.le_of_ble_eq_true rfl⟩ ?_
  refine m_passes0 hM1 rfl (fun f2 hM2 => ⟨_, rfl, ?_⟩)
  refine x_istore_n (pc' := 34) (lv' := [(1, _), (2, _), (0, _)]) rfl rfl (Nat.le_of_ble_eq_true rfl) rfl ?_
  refine x_iinc (pc' := 37) (lv' := [(2, _), (1, _), (0, _)]) rfl rfl (Nat.le_of_ble_eq_true rfl) rfl (rfl) rfl ?_
  refine x_goto (tgt := 9) rfl rfl ?_
  refine x_aload_n (pc' := 10) rfl rfl rfl ?_
  refine x_get (pc' := 13) rfl rfl rfl (hM2.1) rfl ?_
  refine x_if_ge (tgt := 40) (pc' := 16) rfl rfl rfl (fun _ => ?_) (fun c13 => absurd ((by decide : (0 : Int32) ≤ 0)) c13)
  refine x_aload_n (pc' := 41) rfl rfl rfl ?_
  refine x_get (pc' := 44) rfl rfl rfl (hM2.1) rfl ?_
  refine x_if_lt (tgt := 61) (pc' := 47) rfl rfl rfl (fun c44 => absurd c44 ((by decide : ¬ (0 : Int32) < 0))) (fun _ => ?_)
  refine x_aload_n (pc' := 48) rfl rfl rfl ?_
  refine x_iconst (pc' := 49) rfl rfl iconst_0 ?_
  refine x_put (pc' := 52) rfl rfl rfl (hM2.1) (Nat.le_of_ble_eq_true rfl) rfl rfl rfl rfl (fun f2 e2 => ?_)
  have hM3 := hM2.num 11 e2 (x_mFs11 _ _)
  refine x_sipush (pc' := 55) rfl rfl sipush_m1000 ?_
  refine x_aload_n (pc' := 56) rfl rfl rfl ?_
  refine x_get (pc' := 59) rfl rfl rfl (hM3.1) rfl ?_
  refine x_isub (pc' := 60) rfl rfl ?_
  exact x_ireturn rfl rfl rfl (Nat.le_of_ble_eq_true rfl) (Nat.le_of_ble_eq_true rfl) (h _)
theorem m_seeks0 {n : Int32} (hn : 0 < n) (hM : x_Mdl z f M) (hF : x_F M) (h : ∀ (f' : x_H) (M' : x_N), x_Mdl z f' M' → x_F M' → M'.1 22 = -9 → post (some (.int 0)) f') : Y E 3 mX6_seeks [.ref 59, .int n, .int 0] z f 0 0 post := by
  refine Y.intro gX6_seeks (lv := [(0, .ref 59), (1, .int n), (2, .int 0)]) rfl (Nat.le_of_ble_eq_true rfl) ?_
  obtain ⟨h3, h7, hp, h13⟩ := hF
  refine x_bipush (pc' := 2) rfl rfl bipush_m9 ?_
  refine x_istore_n (pc' := 3) (lv' := [(3, _), (0, _), (1, _), (2, _)]) rfl rfl (Nat.le_of_ble_eq_true rfl) rfl ?_
  refine x_aload_n (pc' := 4) rfl rfl rfl ?_
  refine x_get (pc' := 7) rfl rfl rfl (hM.1) rfl ?_
  refine x_aload_n (pc' := 8) rfl rfl rfl ?_
  refine x_get (pc' := 11) rfl rfl rfl (hM.1) rfl ?_
  refine x_eqi h7 ?_
  refine x_iaload (pc' := 12) rfl rfl (hM.2.1 2 (by decide)) ((vp_in_nI (n := 0) (N := 2) (by decide) (by decide))) ?_
  refine x_eqi (hp _) ?_
  refine x_aload_n (pc' := 13) rfl rfl rfl ?_
  refine x_get (pc' := 16) rfl rfl rfl (hM.1) rfl ?_
  refine x_iconst (pc' := 17) rfl rfl iconst_1 ?_
  refine x_aload_n (pc' := 18) rfl rfl rfl ?_
  refine x_get (pc' := 21) rfl rfl rfl (hM.1) rfl ?_
  refine x_eqi h7 ?_
  refine x_isub (pc' := 22) rfl rfl ?_
  refine x_iaload (pc' := 23) rfl rfl (hM.2.1 2 (by decide)) ((vp_in_nI (n := 1) (N := 2) (by decide) (by decide))) ?_
  refine x_eqi (hp _) ?_
  refine x_isub (pc' := 24) rfl rfl ?_
  refine x_eqi (show (0 : Int32) - 0 = 0 from by decide) ?_
  refine x_istore (pc' := 26) (lv' := [(4, _), (3, _), (0, _), (1, _), (2, _)]) rfl rfl (Nat.le_of_ble_eq_true rfl) rfl ?_
  refine x_iload_n (pc' := 27) rfl rfl rfl ?_
  refine x_if_le (tgt := 106) (pc' := 30) rfl rfl rfl (fun c27 => absurd c27 (Int32.not_le.mpr hn)) (fun _ => ?_)
  refine x_aload_n (pc' := 31) rfl rfl rfl ?_
  refine x_iload_n (pc' := 32) rfl rfl rfl ?_
  refine x_cV1v (d := 1) (pc' := 35) rfl rfl sX6_154 gX6_keeps (hM.1) ⟨Nat.le_of_ble_eq_true rfl, Nat.le_of_ble_eq_true rfl⟩ (Nat.le_of_ble_eq_true rfl) ⟨Nat.le_of_ble_eq_true rfl, Nat.le_of_ble_eq_true rfl⟩ ?_
  refine w_keeps (l := 0) (by decide) hM (fun f1 hM1 hF1 => ⟨rfl, ?_⟩)
  refine x_iconst (pc' := 36) rfl rfl iconst_0 ?_
  refine x_istore (pc' := 38) (lv' := [(5, _), (4, _), (3, _), (0, _), (1, _), (2, _)]) rfl rfl (Nat.le_of_ble_eq_true rfl) rfl ?_
  refine x_iload (pc' := 40) rfl rfl rfl ?_
  refine x_aload_n (pc' := 41) rfl rfl rfl ?_
  refine x_get (pc' := 44) rfl rfl rfl (hM1.1) rfl ?_
  refine x_eqi h3 ?_
  refine x_icmp_ge (tgt := 106) (pc' := 47) rfl rfl rfl (fun _ => ?_) (fun c44 => absurd (Int32.le_refl _) c44)
  refine x_aload_n (pc' := 107) rfl rfl rfl ?_
  refine x_iload_n (pc' := 108) rfl rfl rfl ?_
  refine x_put (pc' := 111) rfl rfl rfl (hM1.1) (Nat.le_of_ble_eq_true rfl) rfl rfl rfl rfl (fun f1 e1 => ?_)
  have hM2 := hM1.num 22 e1 (x_mFs22 _ _)
  refine x_iload (pc' := 113) rfl rfl rfl ?_
  exact x_ireturn rfl rfl rfl (Nat.le_of_ble_eq_true rfl) (Nat.le_of_ble_eq_true rfl) (h _ _ hM2 ⟨h3, h7, hp, h13⟩ rfl)
theorem m_worthOf0 {n : Int32} (hn : 0 < n) (hM : x_Mdl z f M) (hF : x_F M) (h : ∀ (f' : x_H) (M' : x_N), x_Mdl z f' M' → x_F M' → post (some (.int 0)) f') : Y E 4 mX6_worthOf [.ref 59, .int n] z f 0 0 post := by
  refine Y.intro gX6_worthOf (lv := [(0, .ref 59), (1, .int n)]) rfl (Nat.le_of_ble_eq_true rfl) ?_
  refine x_aload_n (pc' := 1) rfl rfl rfl ?_
  refine x_iload_n (pc' := 2) rfl rfl rfl ?_
  refine x_iconst (pc' := 3) rfl rfl iconst_0 ?_
  refine x_cV2i (d := 3) (pc' := 6) rfl rfl sX6_173 gX6_seeks (hM.1) ⟨Nat.le_of_ble_eq_true rfl, Nat.le_of_ble_eq_true rfl⟩ (Nat.le_of_ble_eq_true rfl) ⟨Nat.le_of_ble_eq_true rfl, Nat.le_of_ble_eq_true rfl⟩ ?_
  refine m_seeks0 hn hM hF (fun f1 M1 hM1 hG1 _ => ⟨_, rfl, ?_⟩)
  refine x_aload_n (pc' := 7) rfl rfl rfl ?_
  refine x_get (pc' := 10) rfl rfl rfl (hM1.1) rfl ?_
  refine x_aload_n (pc' := 11) rfl rfl rfl ?_
  refine x_get (pc' := 14) rfl rfl rfl (hM1.1) rfl ?_
  refine x_eqi hG1.2.1 ?_
  refine x_iaload (pc' := 15) rfl rfl (hM1.2.1 2 (by decide)) ((vp_in_nI (n := 0) (N := 2) (by decide) (by decide))) ?_
  refine x_eqi (hG1.2.2.1 _) ?_
  refine x_aload_n (pc' := 16) rfl rfl rfl ?_
  refine x_get (pc' := 19) rfl rfl rfl (hM1.1) rfl ?_
  refine x_iconst (pc' := 20) rfl rfl iconst_1 ?_
  refine x_aload_n (pc' := 21) rfl rfl rfl ?_
  refine x_get (pc' := 24) rfl rfl rfl (hM1.1) rfl ?_
  refine x_eqi hG1.2.1 ?_
  refine x_isub (pc' := 25) rfl rfl ?_
  refine x_iaload (pc' := 26) rfl rfl (hM1.2.1 2 (by decide)) ((vp_in_nI (n := 1) (N := 2) (by decide) (by decide))) ?_
  refine x_eqi (hG1.2.2.1 _) ?_
  refine x_isub (pc' := 27) rfl rfl ?_
  refine x_isub (pc' := 28) rfl rfl ?_
  refine x_eqi (show (0 : Int32) - (0 - 0) = 0 from by decide) ?_
  exact x_ireturn rfl rfl rfl (Nat.le_of_ble_eq_true rfl) (Nat.le_of_ble_eq_true rfl) (h _ _ hM1 hG1)
theorem m_best {a : Int32} (hM : x_Mdl z f x_M0) (h : x_R post (a_best a)) : Y E 9 mX6_best [.ref 59, .int a] z f 0 0 post := by
  refine Y.intro gX6_best (lv := [(0, .ref 59), (1, .int a)]) rfl (Nat.le_of_ble_eq_true rfl) ?_
  refine x_iload_n (pc' := 1) rfl rfl rfl ?_
  refine x_iconst (pc' := 2) rfl rfl iconst_1 ?_
  by_cases c1 : a < 1
  · have e : a_best a = -4 := by simp [a_best, c1]
    rw [e] at h
    refine x_icmp_ge (tgt := 12) (pc' := 5) rfl rfl rfl (fun q => absurd c1 (Int32.not_lt.mpr q)) (fun _ => ?_)
    refine x_aload_n (pc' := 6) rfl rfl rfl ?_
    refine x_bipush (pc' := 8) rfl rfl bipush_m4 ?_
    refine x_cV1i (d := 1) (pc' := 11) rfl rfl sX6_110 gX6_refuse (hM.1) ⟨Nat.le_of_ble_eq_true rfl, Nat.le_of_ble_eq_true rfl⟩ (Nat.le_of_ble_eq_true rfl) ⟨Nat.le_of_ble_eq_true rfl, Nat.le_of_ble_eq_true rfl⟩ ?_
    refine w_mRefuse (k := 3) (by decide) (by decide) hM (fun f1 hM1 hF1 => ⟨_, rfl, ?_⟩)
    exact x_ireturn rfl rfl rfl (Nat.le_of_ble_eq_true rfl) (Nat.le_of_ble_eq_true rfl) (h _)
  · refine x_icmp_ge (tgt := 12) (pc' := 5) rfl rfl rfl (fun _ => ?_) (fun q => absurd (Int32.not_lt.mp c1) q)
    refine x_iload_n (pc' := 13) rfl rfl rfl ?_
    refine x_iconst (pc' := 14) rfl rfl iconst_4 ?_
    by_cases c2 : 4 < a
    · have e : a_best a = -6 := by simp [a_best, c1, c2]
      rw [e] at h
      refine x_icmp_le (tgt := 24) (pc' := 17) rfl rfl rfl (fun q => absurd c2 (Int32.not_lt.mpr q)) (fun _ => ?_)
      refine x_aload_n (pc' := 18) rfl rfl rfl ?_
      refine x_bipush (pc' := 20) rfl rfl bipush_m6 ?_
      refine x_cV1i (d := 1) (pc' := 23) rfl rfl sX6_110 gX6_refuse (hM.1) ⟨Nat.le_of_ble_eq_true rfl, Nat.le_of_ble_eq_true rfl⟩ (Nat.le_of_ble_eq_true rfl) ⟨Nat.le_of_ble_eq_true rfl, Nat.le_of_ble_eq_true rfl⟩ ?_
      refine w_mRefuse (k := 5) (by decide) (by decide) hM (fun f1 hM1 hF1 => ⟨_, rfl, ?_⟩)
      exact x_ireturn rfl rfl rfl (Nat.le_of_ble_eq_true rfl) (Nat.le_of_ble_eq_true rfl) (h _)
    · have e : a_best a = -9 := by simp [a_best, c1, c2]
      rw [e] at h
      refine x_icmp_le (tgt := 24) (pc' := 17) rfl rfl rfl (fun _ => ?_) (fun q => absurd (Int32.not_lt.mp c2) q)
      refine x_aload_n (pc' := 25) rfl rfl rfl ?_
      refine x_iload_n (pc' := 26) rfl rfl rfl ?_
      refine x_iconst (pc' := 27) rfl rfl iconst_0 ?_
      refine x_cV2i (d := 3) (pc' := 30) rfl rfl sX6_173 gX6_seeks (hM.1) ⟨Nat.le_of_ble_eq_true rfl, Nat.le_of_ble_eq_true rfl⟩ (Nat.le_of_ble_eq_true rfl) ⟨Nat.le_of_ble_eq_true rfl, Nat.le_of_ble_eq_true rfl⟩ ?_
      refine m_seeks0 (Int32.lt_of_lt_of_le (by decide : (0 : Int32) < 1) (Int32.not_lt.mp c1)) hM x_F0 (fun f1 M1 hM1 hG1 h22 => ⟨_, rfl, ?_⟩)
      refine x_pop (pc' := 31) rfl rfl rfl ?_
      refine x_aload_n (pc' := 32) rfl rfl rfl ?_
      refine x_get (pc' := 35) rfl rfl rfl (hM1.1) rfl ?_
      refine x_eqi h22 ?_
      exact x_ireturn rfl rfl rfl (Nat.le_of_ble_eq_true rfl) (Nat.le_of_ble_eq_true rfl) (h _)
theorem m_worth {a : Int32} (hM : x_Mdl z f x_M0) (h : x_R post (a_worth a)) : Y E 9 mX6_worth [.ref 59, .int a] z f 0 0 post := by
  refine Y.intro gX6_worth (lv := [(0, .ref 59), (1, .int a)]) rfl (Nat.le_of_ble_eq_true rfl) ?_
  refine x_iload_n (pc' := 1) rfl rfl rfl ?_
  refine x_iconst (pc' := 2) rfl rfl iconst_1 ?_
  by_cases c1 : a < 1
  · have e : a_worth a = 1000000000 - (-4) := by simp [a_worth, c1]; try decide
    rw [e] at h
    refine x_icmp_ge (tgt := 12) (pc' := 5) rfl rfl rfl (fun q => absurd c1 (Int32.not_lt.mpr q)) (fun _ => ?_)
    refine x_aload_n (pc' := 6) rfl rfl rfl ?_
    refine x_bipush (pc' := 8) rfl rfl bipush_m4 ?_
    refine x_cV1i (d := 2) (pc' := 11) rfl rfl sX6_180 gX6_told (hM.1) ⟨Nat.le_of_ble_eq_true rfl, Nat.le_of_ble_eq_true rfl⟩ (Nat.le_of_ble_eq_true rfl) ⟨Nat.le_of_ble_eq_true rfl, Nat.le_of_ble_eq_true rfl⟩ ?_
    refine w_told (k := 3) (by decide) (by decide) hM (fun f1 hM1 hF1 => ⟨_, rfl, ?_⟩)
    exact x_ireturn rfl rfl rfl (Nat.le_of_ble_eq_true rfl) (Nat.le_of_ble_eq_true rfl) (h _)
  · refine x_icmp_ge (tgt := 12) (pc' := 5) rfl rfl rfl (fun _ => ?_) (fun q => absurd (Int32.not_lt.mp c1) q)
    refine x_iload_n (pc' := 13) rfl rfl rfl ?_
    refine x_iconst (pc' := 14) rfl rfl iconst_4 ?_
    by_cases c2 : 4 < a
    · have e : a_worth a = 1000000000 - (-6) := by simp [a_worth, c1, c2]; try decide
      rw [e] at h
      refine x_icmp_le (tgt := 24) (pc' := 17) rfl rfl rfl (fun q => absurd c2 (Int32.not_lt.mpr q)) (fun _ => ?_)
      refine x_aload_n (pc' := 18) rfl rfl rfl ?_
      refine x_bipush (pc' := 20) rfl rfl bipush_m6 ?_
      refine x_cV1i (d := 2) (pc' := 23) rfl rfl sX6_180 gX6_told (hM.1) ⟨Nat.le_of_ble_eq_true rfl, Nat.le_of_ble_eq_true rfl⟩ (Nat.le_of_ble_eq_true rfl) ⟨Nat.le_of_ble_eq_true rfl, Nat.le_of_ble_eq_true rfl⟩ ?_
      refine w_told (k := 5) (by decide) (by decide) hM (fun f1 hM1 hF1 => ⟨_, rfl, ?_⟩)
      exact x_ireturn rfl rfl rfl (Nat.le_of_ble_eq_true rfl) (Nat.le_of_ble_eq_true rfl) (h _)
    · have e : a_worth a = 0 := by simp [a_worth, c1, c2]
      rw [e] at h
      refine x_icmp_le (tgt := 24) (pc' := 17) rfl rfl rfl (fun _ => ?_) (fun q => absurd (Int32.not_lt.mp c2) q)
      refine x_aload_n (pc' := 25) rfl rfl rfl ?_
      refine x_iload_n (pc' := 26) rfl rfl rfl ?_
      refine x_cV1i (d := 4) (pc' := 29) rfl rfl sX6_183 gX6_worthOf (hM.1) ⟨Nat.le_of_ble_eq_true rfl, Nat.le_of_ble_eq_true rfl⟩ (Nat.le_of_ble_eq_true rfl) ⟨Nat.le_of_ble_eq_true rfl, Nat.le_of_ble_eq_true rfl⟩ ?_
      refine m_worthOf0 (Int32.lt_of_lt_of_le (by decide : (0 : Int32) < 1) (Int32.not_lt.mp c1)) hM x_F0 (fun f1 M1 hM1 hG1 => ⟨_, rfl, ?_⟩)
      exact x_ireturn rfl rfl rfl (Nat.le_of_ble_eq_true rfl) (Nat.le_of_ble_eq_true rfl) (h _)
theorem m_lost (hM : x_Mdl z f x_M0) (h : x_R post 1) : Y E 9 mX6_lost [.ref 59] z f 0 0 post := by
  refine Y.intro gX6_lost (lv := [(0, .ref 59)]) rfl (Nat.le_of_ble_eq_true rfl) ?_
  refine x_iconst (pc' := 1) rfl rfl iconst_0 ?_
  refine x_istore_n (pc' := 2) (lv' := [(1, _), (0, _)]) rfl rfl (Nat.le_of_ble_eq_true rfl) rfl ?_
  refine x_iload_n (pc' := 3) rfl rfl rfl ?_
  refine x_aload_n (pc' := 4) rfl rfl rfl ?_
  refine x_get (pc' := 7) rfl rfl rfl (hM.1) rfl ?_
  refine x_icmp_ge (tgt := 26) (pc' := 10) rfl rfl rfl (fun _ => ?_) (fun c7 => absurd ((by decide : (0 : Int32) ≤ 0)) c7)
  refine x_iconst (pc' := 27) rfl rfl iconst_1 ?_
  exact x_ireturn rfl rfl rfl (Nat.le_of_ble_eq_true rfl) (Nat.le_of_ble_eq_true rfl) (h _)
theorem m_longest (hM : x_Mdl z f x_M0) (h : x_R post (-9)) : Y E 9 mX6_longest [.ref 59] z f 0 0 post := by
  refine Y.intro gX6_longest (lv := [(0, .ref 59)]) rfl (Nat.le_of_ble_eq_true rfl) ?_
  refine x_bipush (pc' := 2) rfl rfl bipush_m9 ?_
  refine x_istore_n (pc' := 3) (lv' := [(1, _), (0, _)]) rfl rfl (Nat.le_of_ble_eq_true rfl) rfl ?_
  refine x_iconst (pc' := 4) rfl rfl iconst_0 ?_
  refine x_istore_n (pc' := 5) (lv' := [(2, _), (1, _), (0, _)]) rfl rfl (Nat.le_of_ble_eq_true rfl) rfl ?_
  refine x_aload_n (pc' := 6) rfl rfl rfl ?_
  refine x_iconst (pc' := 7) rfl rfl iconst_0 ?_
  refine x_cV1v (d := 1) (pc' := 10) rfl rfl sX6_154 gX6_keeps (hM.1) ⟨Nat.le_of_ble_eq_true rfl, Nat.le_of_ble_eq_true rfl⟩ (Nat.le_of_ble_eq_true rfl) ⟨Nat.le_of_ble_eq_true rfl, Nat.le_of_ble_eq_true rfl⟩ ?_
  refine w_keeps (l := 0) (by decide) hM (fun f1 hM1 hF1 => ⟨rfl, ?_⟩)
  refine x_iconst (pc' := 11) rfl rfl iconst_0 ?_
  refine x_istore_n (pc' := 12) (lv' := [(3, _), (2, _), (1, _), (0, _)]) rfl rfl (Nat.le_of_ble_eq_true rfl) rfl ?_
  refine x_iload_n (pc' := 13) rfl rfl rfl ?_
  refine x_aload_n (pc' := 14) rfl rfl rfl ?_
  refine x_get (pc' := 17) rfl rfl rfl (hM1.1) rfl ?_
  refine x_icmp_ge (tgt := 65) (pc' := 20) rfl rfl rfl (fun _ => ?_) (fun c17 => absurd ((by decide : (0 : Int32) ≤ 0)) c17)
  refine x_iload_n (pc' := 66) rfl rfl rfl ?_
  exact x_ireturn rfl rfl rfl (Nat.le_of_ble_eq_true rfl) (Nat.le_of_ble_eq_true rfl) (h _)
theorem m_change (hM : x_Mdl z f x_M0) (h : x_R post (-9)) : Y E 9 mX6_change [.ref 59] z f 0 0 post := by
  refine Y.intro gX6_change (lv := [(0, .ref 59)]) rfl (Nat.le_of_ble_eq_true rfl) ?_
  refine x_aload_n (pc' := 1) rfl rfl rfl ?_
  refine x_iconst (pc' := 2) rfl rfl iconst_2 ?_
  refine x_cV1i (d := 4) (pc' := 5) rfl rfl sX6_183 gX6_worthOf (hM.1) ⟨Nat.le_of_ble_eq_true rfl, Nat.le_of_ble_eq_true rfl⟩ (Nat.le_of_ble_eq_true rfl) ⟨Nat.le_of_ble_eq_true rfl, Nat.le_of_ble_eq_true rfl⟩ ?_
  refine m_worthOf0 (by decide) hM x_F0 (fun f1 M1 hM1 hG1 => ⟨_, rfl, ?_⟩)
  refine x_istore_n (pc' := 6) (lv' := [(1, _), (0, _)]) rfl rfl (Nat.le_of_ble_eq_true rfl) rfl ?_
  refine x_bipush (pc' := 8) rfl rfl bipush_m9 ?_
  refine x_istore_n (pc' := 9) (lv' := [(2, _), (1, _), (0, _)]) rfl rfl (Nat.le_of_ble_eq_true rfl) rfl ?_
  refine x_iconst (pc' := 10) rfl rfl iconst_0 ?_
  refine x_istore_n (pc' := 11) (lv' := [(3, _), (2, _), (1, _), (0, _)]) rfl rfl (Nat.le_of_ble_eq_true rfl) rfl ?_
  refine x_iload_n (pc' := 12) rfl rfl rfl ?_
  refine x_aload_n (pc' := 13) rfl rfl rfl ?_
  refine x_get (pc' := 16) rfl rfl rfl (hM1.1) rfl ?_
  refine x_eqi hG1.1 ?_
  refine x_icmp_ge (tgt := 83) (pc' := 19) rfl rfl rfl (fun _ => ?_) (fun c16 => absurd ((by decide : (0 : Int32) ≤ 0)) c16)
  refine x_iload_n (pc' := 84) rfl rfl rfl ?_
  exact x_ireturn rfl rfl rfl (Nat.le_of_ble_eq_true rfl) (Nat.le_of_ble_eq_true rfl) (h _)
theorem m_fair (hM : x_Mdl z f x_M0) (h : x_R post 1) : Y E 9 mX6_fair [.ref 59] z f 0 0 post := by
  refine Y.intro gX6_fair (lv := [(0, .ref 59)]) rfl (Nat.le_of_ble_eq_true rfl) ?_
  refine x_aload_n (pc' := 1) rfl rfl rfl ?_
  refine x_bipush (pc' := 3) rfl rfl bipush_7 ?_
  refine x_cV1v (d := 1) (pc' := 6) rfl rfl sX6_154 gX6_keeps (hM.1) ⟨Nat.le_of_ble_eq_true rfl, Nat.le_of_ble_eq_true rfl⟩ (Nat.le_of_ble_eq_true rfl) ⟨Nat.le_of_ble_eq_true rfl, Nat.le_of_ble_eq_true rfl⟩ ?_
  refine w_keeps (l := 7) (by decide) hM (fun f1 hM1 hF1 => ⟨rfl, ?_⟩)
  refine x_bipush (pc' := 8) rfl rfl bipush_m9 ?_
  refine x_istore_n (pc' := 9) (lv' := [(1, _), (0, _)]) rfl rfl (Nat.le_of_ble_eq_true rfl) rfl ?_
  refine x_iconst (pc' := 10) rfl rfl iconst_1 ?_
  refine x_istore_n (pc' := 11) (lv' := [(2, _), (1, _), (0, _)]) rfl rfl (Nat.le_of_ble_eq_true rfl) rfl ?_
  refine x_iload_n (pc' := 12) rfl rfl rfl ?_
  refine x_bipush (pc' := 14) rfl rfl bipush_10 ?_
  refine x_icmp_ge (tgt := 67) (pc' := 17) rfl rfl rfl (fun c14 => absurd c14 ((by decide))) (fun _ => ?_)
  refine x_iload_n (pc' := 18) rfl rfl rfl ?_
  refine x_bipush (pc' := 20) rfl rfl bipush_m9 ?_
  refine x_icmp_ne (tgt := 67) (pc' := 23) rfl rfl rfl (fun c20 => absurd (rfl) c20) (fun _ => ?_)
  refine x_iconst (pc' := 24) rfl rfl iconst_0 ?_
  refine x_istore_n (pc' := 25) (lv' := [(3, _), (2, _), (1, _), (0, _)]) rfl rfl (Nat.le_of_ble_eq_true rfl) rfl ?_
  refine x_iload_n (pc' := 26) rfl rfl rfl ?_
  refine x_aload_n (pc' := 27) rfl rfl rfl ?_
  refine x_get (pc' := 30) rfl rfl rfl (hM1.1) rfl ?_
  refine x_icmp_ge (tgt := 46) (pc' := 33) rfl rfl rfl (fun _ => ?_) (fun c30 => absurd ((by decide : (0 : Int32) ≤ 0)) c30)
  refine x_aload_n (pc' := 47) rfl rfl rfl ?_
  refine x_iconst (pc' := 48) rfl rfl iconst_2 ?_
  refine x_cV1i (d := 4) (pc' := 51) rfl rfl sX6_183 gX6_worthOf (hM1.1) ⟨Nat.le_of_ble_eq_true rfl, Nat.le_of_ble_eq_true rfl⟩ (Nat.le_of_ble_eq_true rfl) ⟨Nat.le_of_ble_eq_true rfl, Nat.le_of_ble_eq_true rfl⟩ ?_
  refine m_worthOf0 (by decide) hM1 ⟨rfl, rfl, fun _ => rfl, rfl⟩ (fun f2 M2 hM2 hG2 => ⟨_, rfl, ?_⟩)
  refine x_if_ne (tgt := 58) (pc' := 54) rfl rfl rfl (fun c51 => absurd (rfl) c51) (fun _ => ?_)
  refine x_iload_n (pc' := 55) rfl rfl rfl ?_
  refine x_goto (tgt := 60) rfl rfl ?_
  refine x_istore_n (pc' := 61) (lv' := [(1, _), (3, _), (2, _), (0, _)]) rfl rfl (Nat.le_of_ble_eq_true rfl) rfl ?_
  refine x_iinc (pc' := 64) (lv' := [(2, _), (1, _), (3, _), (0, _)]) rfl rfl (Nat.le_of_ble_eq_true rfl) rfl (rfl) rfl ?_
  refine x_goto (tgt := 11) rfl rfl ?_
  refine x_iload_n (pc' := 12) rfl rfl rfl ?_
  refine x_bipush (pc' := 14) rfl rfl bipush_10 ?_
  refine x_icmp_ge (tgt := 67) (pc' := 17) rfl rfl rfl (fun c14 => absurd c14 ((by decide))) (fun _ => ?_)
  refine x_iload_n (pc' := 18) rfl rfl rfl ?_
  refine x_bipush (pc' := 20) rfl rfl bipush_m9 ?_
  refine x_icmp_ne (tgt := 67) (pc' := 23) rfl rfl rfl (fun _ => ?_) (fun c20 => absurd c20 ((by decide)))
  refine x_aload_n (pc' := 68) rfl rfl rfl ?_
  refine x_bipush (pc' := 70) rfl rfl bipush_7 ?_
  refine x_cV1v (d := 1) (pc' := 73) rfl rfl sX6_160 gX6_lays (hM2.1) ⟨Nat.le_of_ble_eq_true rfl, Nat.le_of_ble_eq_true rfl⟩ (Nat.le_of_ble_eq_true rfl) ⟨Nat.le_of_ble_eq_true rfl, Nat.le_of_ble_eq_true rfl⟩ ?_
  refine w_lays (l := 7) (by decide) hM2 (fun f3 hM3 hF3 => ⟨rfl, ?_⟩)
  refine x_iload_n (pc' := 74) rfl rfl rfl ?_
  exact x_ireturn rfl rfl rfl (Nat.le_of_ble_eq_true rfl) (Nat.le_of_ble_eq_true rfl) (h _)
theorem m_plays0 (hM : x_Mdl z f M) (h13 : M.1 13 = 0) (h : post (some (.int 0)) f) : Y E 3 mX6_plays [.ref 59] z f 0 0 post := by
  refine Y.intro gX6_plays (lv := [(0, .ref 59)]) rfl (Nat.le_of_ble_eq_true rfl) ?_
  refine x_iconst (pc' := 1) rfl rfl iconst_0 ?_
  refine x_istore_n (pc' := 2) (lv' := [(1, _), (0, _)]) rfl rfl (Nat.le_of_ble_eq_true rfl) rfl ?_
  refine x_iload_n (pc' := 3) rfl rfl rfl ?_
  refine x_aload_n (pc' := 4) rfl rfl rfl ?_
  refine x_get (pc' := 7) rfl rfl rfl (hM.1) rfl ?_
  refine x_eqi h13 ?_
  refine x_icmp_ge (tgt := 39) (pc' := 10) rfl rfl rfl (fun _ => ?_) (fun c7 => absurd ((by decide : (0 : Int32) ≤ 0)) c7)
  refine x_iload_n (pc' := 40) rfl rfl rfl ?_
  exact x_ireturn rfl rfl rfl (Nat.le_of_ble_eq_true rfl) (Nat.le_of_ble_eq_true rfl) (h)
theorem m_judge (hM : x_Mdl z f x_M0) (h : x_R post (-9)) : Y E 9 mX6_judge [.ref 59] z f 0 0 post := by
  refine Y.intro gX6_judge (lv := [(0, .ref 59)]) rfl (Nat.le_of_ble_eq_true rfl) ?_
  refine x_aload_n (pc' := 1) rfl rfl rfl ?_
  refine x_iconst (pc' := 2) rfl rfl iconst_0 ?_
  refine x_cV1v (d := 1) (pc' := 5) rfl rfl sX6_154 gX6_keeps (hM.1) ⟨Nat.le_of_ble_eq_true rfl, Nat.le_of_ble_eq_true rfl⟩ (Nat.le_of_ble_eq_true rfl) ⟨Nat.le_of_ble_eq_true rfl, Nat.le_of_ble_eq_true rfl⟩ ?_
  refine w_keeps (l := 0) (by decide) hM (fun f1 hM1 hF1 => ⟨rfl, ?_⟩)
  refine x_aload_n (pc' := 6) rfl rfl rfl ?_
  refine x_cV0i (d := 3) (pc' := 9) rfl rfl sX6_215 gX6_plays (hM1.1) ⟨Nat.le_of_ble_eq_true rfl, Nat.le_of_ble_eq_true rfl⟩ (Nat.le_of_ble_eq_true rfl) ⟨Nat.le_of_ble_eq_true rfl, Nat.le_of_ble_eq_true rfl⟩ ?_
  refine m_plays0 hM1 rfl ⟨_, rfl, ?_⟩
  refine x_istore_n (pc' := 10) (lv' := [(1, _), (0, _)]) rfl rfl (Nat.le_of_ble_eq_true rfl) rfl ?_
  refine x_aload_n (pc' := 11) rfl rfl rfl ?_
  refine x_iconst (pc' := 12) rfl rfl iconst_0 ?_
  refine x_cV1v (d := 1) (pc' := 15) rfl rfl sX6_160 gX6_lays (hM1.1) ⟨Nat.le_of_ble_eq_true rfl, Nat.le_of_ble_eq_true rfl⟩ (Nat.le_of_ble_eq_true rfl) ⟨Nat.le_of_ble_eq_true rfl, Nat.le_of_ble_eq_true rfl⟩ ?_
  refine w_lays (l := 0) (by decide) hM1 (fun f2 hM2 hF2 => ⟨rfl, ?_⟩)
  refine x_iload_n (pc' := 16) rfl rfl rfl ?_
  refine x_aload_n (pc' := 17) rfl rfl rfl ?_
  refine x_get (pc' := 20) rfl rfl rfl (hM2.1) rfl ?_
  refine x_icmp_ge (tgt := 27) (pc' := 23) rfl rfl rfl (fun _ => ?_) (fun c20 => absurd ((by decide : (0 : Int32) ≤ 0)) c20)
  refine x_bipush (pc' := 29) rfl rfl bipush_m9 ?_
  refine x_istore_n (pc' := 30) (lv' := [(2, _), (1, _), (0, _)]) rfl rfl (Nat.le_of_ble_eq_true rfl) rfl ?_
  refine x_aload_n (pc' := 31) rfl rfl rfl ?_
  refine x_iconst (pc' := 32) rfl rfl iconst_0 ?_
  refine x_put (pc' := 35) rfl rfl rfl (hM2.1) (Nat.le_of_ble_eq_true rfl) rfl rfl rfl rfl (fun f1 e1 => ?_)
  refine x_iload_n (pc' := 36) rfl rfl rfl ?_
  exact x_ireturn rfl rfl rfl (Nat.le_of_ble_eq_true rfl) (Nat.le_of_ble_eq_true rfl) (h _)
theorem m_on (hM : x_Mdl z f x_M0) (h : x_R post (-3)) : Y E 9 mX6_on [.ref 59] z f 0 0 post := by
  refine Y.intro gX6_on (lv := [(0, .ref 59)]) rfl (Nat.le_of_ble_eq_true rfl) ?_
  refine x_aload_n (pc' := 1) rfl rfl rfl ?_
  refine x_get (pc' := 4) rfl rfl rfl (hM.1) rfl ?_
  refine x_if_ge (tgt := 14) (pc' := 7) rfl rfl rfl (fun c4 => absurd c4 ((by decide : ¬ (0 : Int32) ≤ -1))) (fun _ => ?_)
  refine x_aload_n (pc' := 8) rfl rfl rfl ?_
  refine x_bipush (pc' := 10) rfl rfl bipush_m3 ?_
  refine x_cV1i (d := 1) (pc' := 13) rfl rfl sX6_110 gX6_refuse (hM.1) ⟨Nat.le_of_ble_eq_true rfl, Nat.le_of_ble_eq_true rfl⟩ (Nat.le_of_ble_eq_true rfl) ⟨Nat.le_of_ble_eq_true rfl, Nat.le_of_ble_eq_true rfl⟩ ?_
  refine w_mRefuse (k := 2) (by decide) (by decide) hM (fun f1 hM1 hF1 => ⟨_, rfl, ?_⟩)
  exact x_ireturn rfl rfl rfl (Nat.le_of_ble_eq_true rfl) (Nat.le_of_ble_eq_true rfl) (h _)
theorem m_lots {a b : Int32} (hM : x_Mdl z f x_M0) (h : x_R post (a_lots a)) : Y E 9 mX6_lots [.ref 59, .int a, .int b] z f 0 0 post := by
  refine Y.intro gX6_lots (lv := [(0, .ref 59), (1, .int a), (2, .int b)]) rfl (Nat.le_of_ble_eq_true rfl) ?_
  refine x_iload_n (pc' := 1) rfl rfl rfl ?_
  refine x_iconst (pc' := 2) rfl rfl iconst_1 ?_
  by_cases c1 : a < 1
  · have e : a_lots a = 1000000000 - (-4) := by simp [a_lots, c1]; try decide
    rw [e] at h
    refine x_icmp_ge (tgt := 12) (pc' := 5) rfl rfl rfl (fun q => absurd c1 (Int32.not_lt.mpr q)) (fun _ => ?_)
    refine x_aload_n (pc' := 6) rfl rfl rfl ?_
    refine x_bipush (pc' := 8) rfl rfl bipush_m4 ?_
    refine x_cV1i (d := 2) (pc' := 11) rfl rfl sX6_180 gX6_told (hM.1) ⟨Nat.le_of_ble_eq_true rfl, Nat.le_of_ble_eq_true rfl⟩ (Nat.le_of_ble_eq_true rfl) ⟨Nat.le_of_ble_eq_true rfl, Nat.le_of_ble_eq_true rfl⟩ ?_
    refine w_told (k := 3) (by decide) (by decide) hM (fun f1 hM1 hF1 => ⟨_, rfl, ?_⟩)
    exact x_ireturn rfl rfl rfl (Nat.le_of_ble_eq_true rfl) (Nat.le_of_ble_eq_true rfl) (h _)
  · refine x_icmp_ge (tgt := 12) (pc' := 5) rfl rfl rfl (fun _ => ?_) (fun q => absurd (Int32.not_lt.mp c1) q)
    refine x_iload_n (pc' := 13) rfl rfl rfl ?_
    refine x_bipush (pc' := 15) rfl rfl bipush_20 ?_
    by_cases c2 : 20 < a
    · have e : a_lots a = 1000000000 - (-6) := by simp [a_lots, c1, c2]; try decide
      rw [e] at h
      refine x_icmp_le (tgt := 25) (pc' := 18) rfl rfl rfl (fun q => absurd c2 (Int32.not_lt.mpr q)) (fun _ => ?_)
      refine x_aload_n (pc' := 19) rfl rfl rfl ?_
      refine x_bipush (pc' := 21) rfl rfl bipush_m6 ?_
      refine x_cV1i (d := 2) (pc' := 24) rfl rfl sX6_180 gX6_told (hM.1) ⟨Nat.le_of_ble_eq_true rfl, Nat.le_of_ble_eq_true rfl⟩ (Nat.le_of_ble_eq_true rfl) ⟨Nat.le_of_ble_eq_true rfl, Nat.le_of_ble_eq_true rfl⟩ ?_
      refine w_told (k := 5) (by decide) (by decide) hM (fun f1 hM1 hF1 => ⟨_, rfl, ?_⟩)
      exact x_ireturn rfl rfl rfl (Nat.le_of_ble_eq_true rfl) (Nat.le_of_ble_eq_true rfl) (h _)
    · have e : a_lots a = 1000000000 - (-3) := by simp [a_lots, c1, c2]; try decide
      rw [e] at h
      refine x_icmp_le (tgt := 25) (pc' := 18) rfl rfl rfl (fun _ => ?_) (fun q => absurd (Int32.not_lt.mp c2) q)
      refine x_aload_n (pc' := 26) rfl rfl rfl ?_
      refine x_get (pc' := 29) rfl rfl rfl (hM.1) rfl ?_
      refine x_iconst (pc' := 30) rfl rfl iconst_2 ?_
      refine x_icmp_ge (tgt := 40) (pc' := 33) rfl rfl rfl (fun c30 => absurd c30 ((by decide : ¬ (2 : Int32) ≤ 0))) (fun _ => ?_)
      refine x_aload_n (pc' := 34) rfl rfl rfl ?_
      refine x_bipush (pc' := 36) rfl rfl bipush_m3 ?_
      refine x_cV1i (d := 2) (pc' := 39) rfl rfl sX6_180 gX6_told (hM.1) ⟨Nat.le_of_ble_eq_true rfl, Nat.le_of_ble_eq_true rfl⟩ (Nat.le_of_ble_eq_true rfl) ⟨Nat.le_of_ble_eq_true rfl, Nat.le_of_ble_eq_true rfl⟩ ?_
      refine w_told (k := 2) (by decide) (by decide) hM (fun f1 hM1 hF1 => ⟨_, rfl, ?_⟩)
      exact x_ireturn rfl rfl rfl (Nat.le_of_ble_eq_true rfl) (Nat.le_of_ble_eq_true rfl) (h _)
theorem m_row {a : Int32} (hM : x_Mdl z f x_M0) (h : x_R post (a_row a)) : Y E 9 mX6_row [.ref 59, .int a] z f 0 0 post := by
  refine Y.intro gX6_row (lv := [(0, .ref 59), (1, .int a)]) rfl (Nat.le_of_ble_eq_true rfl) ?_
  refine x_iload_n (pc' := 1) rfl rfl rfl ?_
  by_cases c1 : a < 0
  · have e : a_row a = -4 := by simp [a_row, c1]
    rw [e] at h
    refine x_if_ge (tgt := 11) (pc' := 4) rfl rfl rfl (fun q => absurd c1 (Int32.not_lt.mpr q)) (fun _ => ?_)
    refine x_aload_n (pc' := 5) rfl rfl rfl ?_
    refine x_bipush (pc' := 7) rfl rfl bipush_m4 ?_
    refine x_cV1i (d := 1) (pc' := 10) rfl rfl sX6_110 gX6_refuse (hM.1) ⟨Nat.le_of_ble_eq_true rfl, Nat.le_of_ble_eq_true rfl⟩ (Nat.le_of_ble_eq_true rfl) ⟨Nat.le_of_ble_eq_true rfl, Nat.le_of_ble_eq_true rfl⟩ ?_
    refine w_mRefuse (k := 3) (by decide) (by decide) hM (fun f1 hM1 hF1 => ⟨_, rfl, ?_⟩)
    exact x_ireturn rfl rfl rfl (Nat.le_of_ble_eq_true rfl) (Nat.le_of_ble_eq_true rfl) (h _)
  · refine x_if_ge (tgt := 11) (pc' := 4) rfl rfl rfl (fun _ => ?_) (fun q => absurd (Int32.not_lt.mp c1) q)
    refine x_iload_n (pc' := 12) rfl rfl rfl ?_
    refine x_bipush (pc' := 14) rfl rfl bipush_9 ?_
    by_cases c2 : 9 < a
    · have e : a_row a = -6 := by simp [a_row, c1, c2]
      rw [e] at h
      refine x_icmp_gt (tgt := 26) (pc' := 17) rfl rfl rfl (fun _ => ?_) (fun q => absurd c2 q)
      refine x_aload_n (pc' := 27) rfl rfl rfl ?_
      refine x_bipush (pc' := 29) rfl rfl bipush_m6 ?_
      refine x_cV1i (d := 1) (pc' := 32) rfl rfl sX6_110 gX6_refuse (hM.1) ⟨Nat.le_of_ble_eq_true rfl, Nat.le_of_ble_eq_true rfl⟩ (Nat.le_of_ble_eq_true rfl) ⟨Nat.le_of_ble_eq_true rfl, Nat.le_of_ble_eq_true rfl⟩ ?_
      refine w_mRefuse (k := 5) (by decide) (by decide) hM (fun f1 hM1 hF1 => ⟨_, rfl, ?_⟩)
      exact x_ireturn rfl rfl rfl (Nat.le_of_ble_eq_true rfl) (Nat.le_of_ble_eq_true rfl) (h _)
    · have e : a_row a = 1 := by simp [a_row, c1, c2]
      rw [e] at h
      refine x_icmp_gt (tgt := 26) (pc' := 17) rfl rfl rfl (fun q => absurd q c2) (fun _ => ?_)
      refine x_aload_n (pc' := 18) rfl rfl rfl ?_
      refine x_get (pc' := 21) rfl rfl rfl (hM.1) rfl ?_
      refine x_bipush (pc' := 23) rfl rfl bipush_12 ?_
      refine x_icmp_ne (tgt := 33) (pc' := 26) rfl rfl rfl (fun _ => ?_) (fun c23 => absurd c23 ((by decide : ¬ (0 : Int32) = 12)))
      refine x_aload_n (pc' := 34) rfl rfl rfl ?_
      refine x_get (pc' := 37) rfl rfl rfl (hM.1) rfl ?_
      refine x_aload_n (pc' := 38) rfl rfl rfl ?_
      refine x_get (pc' := 41) rfl rfl rfl (hM.1) rfl ?_
      refine x_iload_n (pc' := 42) rfl rfl rfl ?_
      refine x_iastore (pc' := 43) rfl rfl (hM.2.1 5 (by decide)) ((vp_in_nI (n := 0) (N := 12) (by decide) (by decide))) (fun f1 e1 => ?_)
      have hM1 := hM.arr 5 (by decide) e1
      refine x_aload_n (pc' := 44) rfl rfl rfl ?_
      refine x_dup (pc' := 45) rfl rfl rfl ?_
      refine x_get (pc' := 48) rfl rfl rfl (hM1.1) rfl ?_
      refine x_iconst (pc' := 49) rfl rfl iconst_1 ?_
      refine x_iadd (pc' := 50) rfl rfl ?_
      refine x_put (pc' := 53) rfl rfl rfl (hM1.1) (Nat.le_of_ble_eq_true rfl) rfl rfl rfl rfl (fun f2 e2 => ?_)
      have hM2 := hM1.num 13 e2 (x_mFs13 _ _)
      refine x_aload_n (pc' := 54) rfl rfl rfl ?_
      refine x_get (pc' := 57) rfl rfl rfl (hM2.1) rfl ?_
      exact x_ireturn rfl rfl rfl (Nat.le_of_ble_eq_true rfl) (Nat.le_of_ble_eq_true rfl) (h _)
theorem m_bowl {a : Int32} {b : Int32} (hM : x_Mdl z f x_M0) (h : x_R post (-1)) : Y E 9 mX6_bowl [.ref 59, .int a, .int b] z f 0 0 post := by
  refine Y.intro gX6_bowl (lv := [(0, .ref 59), (1, .int a), (2, .int b)]) rfl (Nat.le_of_ble_eq_true rfl) ?_
  refine x_aload_n (pc' := 1) rfl rfl rfl ?_
  refine x_iload_n (pc' := 2) rfl rfl rfl ?_
  refine x_cV1i (d := 2) (pc' := 5) rfl rfl sX6_103 gX6_isBowl (hM.1) ⟨Nat.le_of_ble_eq_true rfl, Nat.le_of_ble_eq_true rfl⟩ (Nat.le_of_ble_eq_true rfl) ⟨Nat.le_of_ble_eq_true rfl, Nat.le_of_ble_eq_true rfl⟩ ?_
  refine w_isBowl hM (fun q => absurd q (noB rfl)) (fun _ => ⟨_, rfl, ?_⟩)
  refine x_if_ne (tgt := 14) (pc' := 8) rfl rfl rfl (fun c5 => absurd ((by decide)) c5) (fun _ => ?_)
  refine x_aload_n (pc' := 9) rfl rfl rfl ?_
  refine x_iconst (pc' := 10) rfl rfl iconst_m1 ?_
  refine x_cV1i (d := 1) (pc' := 13) rfl rfl sX6_110 gX6_refuse (hM.1) ⟨Nat.le_of_ble_eq_true rfl, Nat.le_of_ble_eq_true rfl⟩ (Nat.le_of_ble_eq_true rfl) ⟨Nat.le_of_ble_eq_true rfl, Nat.le_of_ble_eq_true rfl⟩ ?_
  refine w_mRefuse (k := 0) (by decide) (by decide) hM (fun f1 hM1 hF1 => ⟨_, rfl, ?_⟩)
  exact x_ireturn rfl rfl rfl (Nat.le_of_ble_eq_true rfl) (Nat.le_of_ble_eq_true rfl) (h _)
theorem m_put {a : Int32} {b : Int32} (hM : x_Mdl z f x_M0) (h : x_R post (-1)) : Y E 9 mX6_put [.ref 59, .int a, .int b] z f 0 0 post := by
  refine Y.intro gX6_put (lv := [(0, .ref 59), (1, .int a), (2, .int b)]) rfl (Nat.le_of_ble_eq_true rfl) ?_
  refine x_aload_n (pc' := 1) rfl rfl rfl ?_
  refine x_iload_n (pc' := 2) rfl rfl rfl ?_
  refine x_cV1i (d := 2) (pc' := 5) rfl rfl sX6_103 gX6_isBowl (hM.1) ⟨Nat.le_of_ble_eq_true rfl, Nat.le_of_ble_eq_true rfl⟩ (Nat.le_of_ble_eq_true rfl) ⟨Nat.le_of_ble_eq_true rfl, Nat.le_of_ble_eq_true rfl⟩ ?_
  refine w_isBowl hM (fun q => absurd q (noB rfl)) (fun _ => ⟨_, rfl, ?_⟩)
  refine x_if_ne (tgt := 14) (pc' := 8) rfl rfl rfl (fun c5 => absurd ((by decide)) c5) (fun _ => ?_)
  refine x_aload_n (pc' := 9) rfl rfl rfl ?_
  refine x_iconst (pc' := 10) rfl rfl iconst_m1 ?_
  refine x_cV1i (d := 1) (pc' := 13) rfl rfl sX6_110 gX6_refuse (hM.1) ⟨Nat.le_of_ble_eq_true rfl, Nat.le_of_ble_eq_true rfl⟩ (Nat.le_of_ble_eq_true rfl) ⟨Nat.le_of_ble_eq_true rfl, Nat.le_of_ble_eq_true rfl⟩ ?_
  refine w_mRefuse (k := 0) (by decide) (by decide) hM (fun f1 hM1 hF1 => ⟨_, rfl, ?_⟩)
  exact x_ireturn rfl rfl rfl (Nat.le_of_ble_eq_true rfl) (Nat.le_of_ble_eq_true rfl) (h _)
theorem m_move {a : Int32} (hM : x_Mdl z f x_M0) (h : x_R post (-1)) : Y E 9 mX6_move [.ref 59, .int a] z f 0 0 post := by
  refine Y.intro gX6_move (lv := [(0, .ref 59), (1, .int a)]) rfl (Nat.le_of_ble_eq_true rfl) ?_
  refine x_aload_n (pc' := 1) rfl rfl rfl ?_
  refine x_iload_n (pc' := 2) rfl rfl rfl ?_
  refine x_cV1i (d := 2) (pc' := 5) rfl rfl sX6_103 gX6_isBowl (hM.1) ⟨Nat.le_of_ble_eq_true rfl, Nat.le_of_ble_eq_true rfl⟩ (Nat.le_of_ble_eq_true rfl) ⟨Nat.le_of_ble_eq_true rfl, Nat.le_of_ble_eq_true rfl⟩ ?_
  refine w_isBowl hM (fun q => absurd q (noB rfl)) (fun _ => ⟨_, rfl, ?_⟩)
  refine x_if_ne (tgt := 14) (pc' := 8) rfl rfl rfl (fun c5 => absurd ((by decide)) c5) (fun _ => ?_)
  refine x_aload_n (pc' := 9) rfl rfl rfl ?_
  refine x_iconst (pc' := 10) rfl rfl iconst_m1 ?_
  refine x_cV1i (d := 1) (pc' := 13) rfl rfl sX6_110 gX6_refuse (hM.1) ⟨Nat.le_of_ble_eq_true rfl, Nat.le_of_ble_eq_true rfl⟩ (Nat.le_of_ble_eq_true rfl) ⟨Nat.le_of_ble_eq_true rfl, Nat.le_of_ble_eq_true rfl⟩ ?_
  refine w_mRefuse (k := 0) (by decide) (by decide) hM (fun f1 hM1 hF1 => ⟨_, rfl, ?_⟩)
  exact x_ireturn rfl rfl rfl (Nat.le_of_ble_eq_true rfl) (Nat.le_of_ble_eq_true rfl) (h _)
theorem m_by {a : Int32} {b : Int32} (hM : x_Mdl z f x_M0) (h : x_R post (-1)) : Y E 9 mX6_by [.ref 59, .int a, .int b] z f 0 0 post := by
  refine Y.intro gX6_by (lv := [(0, .ref 59), (1, .int a), (2, .int b)]) rfl (Nat.le_of_ble_eq_true rfl) ?_
  refine x_aload_n (pc' := 1) rfl rfl rfl ?_
  refine x_iload_n (pc' := 2) rfl rfl rfl ?_
  refine x_cV1i (d := 2) (pc' := 5) rfl rfl sX6_103 gX6_isBowl (hM.1) ⟨Nat.le_of_ble_eq_true rfl, Nat.le_of_ble_eq_true rfl⟩ (Nat.le_of_ble_eq_true rfl) ⟨Nat.le_of_ble_eq_true rfl, Nat.le_of_ble_eq_true rfl⟩ ?_
  refine w_isBowl hM (fun q => absurd q (noB rfl)) (fun _ => ⟨_, rfl, ?_⟩)
  refine x_if_ne (tgt := 14) (pc' := 8) rfl rfl rfl (fun c5 => absurd ((by decide)) c5) (fun _ => ?_)
  refine x_aload_n (pc' := 9) rfl rfl rfl ?_
  refine x_iconst (pc' := 10) rfl rfl iconst_m1 ?_
  refine x_cV1i (d := 1) (pc' := 13) rfl rfl sX6_110 gX6_refuse (hM.1) ⟨Nat.le_of_ble_eq_true rfl, Nat.le_of_ble_eq_true rfl⟩ (Nat.le_of_ble_eq_true rfl) ⟨Nat.le_of_ble_eq_true rfl, Nat.le_of_ble_eq_true rfl⟩ ?_
  refine w_mRefuse (k := 0) (by decide) (by decide) hM (fun f1 hM1 hF1 => ⟨_, rfl, ?_⟩)
  exact x_ireturn rfl rfl rfl (Nat.le_of_ble_eq_true rfl) (Nat.le_of_ble_eq_true rfl) (h _)
theorem m_empties {a : Int32} (hM : x_Mdl z f x_M0) (h : x_R post (-1)) : Y E 9 mX6_empties [.ref 59, .int a] z f 0 0 post := by
  refine Y.intro gX6_empties (lv := [(0, .ref 59), (1, .int a)]) rfl (Nat.le_of_ble_eq_true rfl) ?_
  refine x_aload_n (pc' := 1) rfl rfl rfl ?_
  refine x_iload_n (pc' := 2) rfl rfl rfl ?_
  refine x_cV1i (d := 2) (pc' := 5) rfl rfl sX6_103 gX6_isBowl (hM.1) ⟨Nat.le_of_ble_eq_true rfl, Nat.le_of_ble_eq_true rfl⟩ (Nat.le_of_ble_eq_true rfl) ⟨Nat.le_of_ble_eq_true rfl, Nat.le_of_ble_eq_true rfl⟩ ?_
  refine w_isBowl hM (fun q => absurd q (noB rfl)) (fun _ => ⟨_, rfl, ?_⟩)
  refine x_if_ne (tgt := 14) (pc' := 8) rfl rfl rfl (fun c5 => absurd ((by decide)) c5) (fun _ => ?_)
  refine x_aload_n (pc' := 9) rfl rfl rfl ?_
  refine x_iconst (pc' := 10) rfl rfl iconst_m1 ?_
  refine x_cV1i (d := 1) (pc' := 13) rfl rfl sX6_110 gX6_refuse (hM.1) ⟨Nat.le_of_ble_eq_true rfl, Nat.le_of_ble_eq_true rfl⟩ (Nat.le_of_ble_eq_true rfl) ⟨Nat.le_of_ble_eq_true rfl, Nat.le_of_ble_eq_true rfl⟩ ?_
  refine w_mRefuse (k := 0) (by decide) (by decide) hM (fun f1 hM1 hF1 => ⟨_, rfl, ?_⟩)
  exact x_ireturn rfl rfl rfl (Nat.le_of_ble_eq_true rfl) (Nat.le_of_ble_eq_true rfl) (h _)
theorem m_back {a : Int32} (hM : x_Mdl z f x_M0) (h : x_R post (-1)) : Y E 9 mX6_back [.ref 59, .int a] z f 0 0 post := by
  refine Y.intro gX6_back (lv := [(0, .ref 59), (1, .int a)]) rfl (Nat.le_of_ble_eq_true rfl) ?_
  refine x_aload_n (pc' := 1) rfl rfl rfl ?_
  refine x_iload_n (pc' := 2) rfl rfl rfl ?_
  refine x_cV1i (d := 2) (pc' := 5) rfl rfl sX6_103 gX6_isBowl (hM.1) ⟨Nat.le_of_ble_eq_true rfl, Nat.le_of_ble_eq_true rfl⟩ (Nat.le_of_ble_eq_true rfl) ⟨Nat.le_of_ble_eq_true rfl, Nat.le_of_ble_eq_true rfl⟩ ?_
  refine w_isBowl hM (fun q => absurd q (noB rfl)) (fun _ => ⟨_, rfl, ?_⟩)
  refine x_if_ne (tgt := 14) (pc' := 8) rfl rfl rfl (fun c5 => absurd ((by decide)) c5) (fun _ => ?_)
  refine x_aload_n (pc' := 9) rfl rfl rfl ?_
  refine x_iconst (pc' := 10) rfl rfl iconst_m1 ?_
  refine x_cV1i (d := 1) (pc' := 13) rfl rfl sX6_110 gX6_refuse (hM.1) ⟨Nat.le_of_ble_eq_true rfl, Nat.le_of_ble_eq_true rfl⟩ (Nat.le_of_ble_eq_true rfl) ⟨Nat.le_of_ble_eq_true rfl, Nat.le_of_ble_eq_true rfl⟩ ?_
  refine w_mRefuse (k := 0) (by decide) (by decide) hM (fun f1 hM1 hF1 => ⟨_, rfl, ?_⟩)
  exact x_ireturn rfl rfl rfl (Nat.le_of_ble_eq_true rfl) (Nat.le_of_ble_eq_true rfl) (h _)
theorem m_loop {a : Int32} {b : Int32} (hM : x_Mdl z f x_M0) (h : x_R post (-1)) : Y E 9 mX6_loop [.ref 59, .int a, .int b] z f 0 0 post := by
  refine Y.intro gX6_loop (lv := [(0, .ref 59), (1, .int a), (2, .int b)]) rfl (Nat.le_of_ble_eq_true rfl) ?_
  refine x_aload_n (pc' := 1) rfl rfl rfl ?_
  refine x_iload_n (pc' := 2) rfl rfl rfl ?_
  refine x_cV1i (d := 2) (pc' := 5) rfl rfl sX6_103 gX6_isBowl (hM.1) ⟨Nat.le_of_ble_eq_true rfl, Nat.le_of_ble_eq_true rfl⟩ (Nat.le_of_ble_eq_true rfl) ⟨Nat.le_of_ble_eq_true rfl, Nat.le_of_ble_eq_true rfl⟩ ?_
  refine w_isBowl hM (fun q => absurd q (noB rfl)) (fun _ => ⟨_, rfl, ?_⟩)
  refine x_if_ne (tgt := 14) (pc' := 8) rfl rfl rfl (fun c5 => absurd ((by decide)) c5) (fun _ => ?_)
  refine x_aload_n (pc' := 9) rfl rfl rfl ?_
  refine x_iconst (pc' := 10) rfl rfl iconst_m1 ?_
  refine x_cV1i (d := 1) (pc' := 13) rfl rfl sX6_110 gX6_refuse (hM.1) ⟨Nat.le_of_ble_eq_true rfl, Nat.le_of_ble_eq_true rfl⟩ (Nat.le_of_ble_eq_true rfl) ⟨Nat.le_of_ble_eq_true rfl, Nat.le_of_ble_eq_true rfl⟩ ?_
  refine w_mRefuse (k := 0) (by decide) (by decide) hM (fun f1 hM1 hF1 => ⟨_, rfl, ?_⟩)
  exact x_ireturn rfl rfl rfl (Nat.le_of_ble_eq_true rfl) (Nat.le_of_ble_eq_true rfl) (h _)
theorem m_toEmpty {a : Int32} {b : Int32} (hM : x_Mdl z f x_M0) (h : x_R post (-1)) : Y E 9 mX6_toEmpty [.ref 59, .int a, .int b] z f 0 0 post := by
  refine Y.intro gX6_toEmpty (lv := [(0, .ref 59), (1, .int a), (2, .int b)]) rfl (Nat.le_of_ble_eq_true rfl) ?_
  refine x_aload_n (pc' := 1) rfl rfl rfl ?_
  refine x_iload_n (pc' := 2) rfl rfl rfl ?_
  refine x_cV1i (d := 2) (pc' := 5) rfl rfl sX6_103 gX6_isBowl (hM.1) ⟨Nat.le_of_ble_eq_true rfl, Nat.le_of_ble_eq_true rfl⟩ (Nat.le_of_ble_eq_true rfl) ⟨Nat.le_of_ble_eq_true rfl, Nat.le_of_ble_eq_true rfl⟩ ?_
  refine w_isBowl hM (fun q => absurd q (noB rfl)) (fun _ => ⟨_, rfl, ?_⟩)
  refine x_if_ne (tgt := 14) (pc' := 8) rfl rfl rfl (fun c5 => absurd ((by decide)) c5) (fun _ => ?_)
  refine x_aload_n (pc' := 9) rfl rfl rfl ?_
  refine x_iconst (pc' := 10) rfl rfl iconst_m1 ?_
  refine x_cV1i (d := 1) (pc' := 13) rfl rfl sX6_110 gX6_refuse (hM.1) ⟨Nat.le_of_ble_eq_true rfl, Nat.le_of_ble_eq_true rfl⟩ (Nat.le_of_ble_eq_true rfl) ⟨Nat.le_of_ble_eq_true rfl, Nat.le_of_ble_eq_true rfl⟩ ?_
  refine w_mRefuse (k := 0) (by decide) (by decide) hM (fun f1 hM1 hF1 => ⟨_, rfl, ?_⟩)
  exact x_ireturn rfl rfl rfl (Nat.le_of_ble_eq_true rfl) (Nat.le_of_ble_eq_true rfl) (h _)
theorem m_behind {a : Int32} {b : Int32} (hM : x_Mdl z f x_M0) (h : x_R post (-1)) : Y E 9 mX6_behind [.ref 59, .int a, .int b] z f 0 0 post := by
  refine Y.intro gX6_behind (lv := [(0, .ref 59), (1, .int a), (2, .int b)]) rfl (Nat.le_of_ble_eq_true rfl) ?_
  refine x_aload_n (pc' := 1) rfl rfl rfl ?_
  refine x_iload_n (pc' := 2) rfl rfl rfl ?_
  refine x_cV1i (d := 2) (pc' := 5) rfl rfl sX6_103 gX6_isBowl (hM.1) ⟨Nat.le_of_ble_eq_true rfl, Nat.le_of_ble_eq_true rfl⟩ (Nat.le_of_ble_eq_true rfl) ⟨Nat.le_of_ble_eq_true rfl, Nat.le_of_ble_eq_true rfl⟩ ?_
  refine w_isBowl hM (fun q => absurd q (noB rfl)) (fun _ => ⟨_, rfl, ?_⟩)
  refine x_if_eq (tgt := 16) (pc' := 8) rfl rfl rfl (fun _ => ?_) (fun c5 => absurd ((by decide)) c5)
  refine x_aload_n (pc' := 17) rfl rfl rfl ?_
  refine x_iconst (pc' := 18) rfl rfl iconst_m1 ?_
  refine x_cV1i (d := 1) (pc' := 21) rfl rfl sX6_110 gX6_refuse (hM.1) ⟨Nat.le_of_ble_eq_true rfl, Nat.le_of_ble_eq_true rfl⟩ (Nat.le_of_ble_eq_true rfl) ⟨Nat.le_of_ble_eq_true rfl, Nat.le_of_ble_eq_true rfl⟩ ?_
  refine w_mRefuse (k := 0) (by decide) (by decide) hM (fun f1 hM1 hF1 => ⟨_, rfl, ?_⟩)
  exact x_ireturn rfl rfl rfl (Nat.le_of_ble_eq_true rfl) (Nat.le_of_ble_eq_true rfl) (h _)
theorem m_price {a : Int32} (hM : x_Mdl z f x_M0) (h : x_R post (1000000000 - (-1))) : Y E 9 mX6_price [.ref 59, .int a] z f 0 0 post := by
  refine Y.intro gX6_price (lv := [(0, .ref 59), (1, .int a)]) rfl (Nat.le_of_ble_eq_true rfl) ?_
  refine x_aload_n (pc' := 1) rfl rfl rfl ?_
  refine x_iload_n (pc' := 2) rfl rfl rfl ?_
  refine x_cV1i (d := 2) (pc' := 5) rfl rfl sX6_103 gX6_isBowl (hM.1) ⟨Nat.le_of_ble_eq_true rfl, Nat.le_of_ble_eq_true rfl⟩ (Nat.le_of_ble_eq_true rfl) ⟨Nat.le_of_ble_eq_true rfl, Nat.le_of_ble_eq_true rfl⟩ ?_
  refine w_isBowl hM (fun q => absurd q (noB rfl)) (fun _ => ⟨_, rfl, ?_⟩)
  refine x_if_eq (tgt := 17) (pc' := 8) rfl rfl rfl (fun _ => ?_) (fun c5 => absurd ((by decide)) c5)
  refine x_aload_n (pc' := 18) rfl rfl rfl ?_
  refine x_iconst (pc' := 19) rfl rfl iconst_m1 ?_
  refine x_cV1i (d := 2) (pc' := 22) rfl rfl sX6_180 gX6_told (hM.1) ⟨Nat.le_of_ble_eq_true rfl, Nat.le_of_ble_eq_true rfl⟩ (Nat.le_of_ble_eq_true rfl) ⟨Nat.le_of_ble_eq_true rfl, Nat.le_of_ble_eq_true rfl⟩ ?_
  refine w_told (k := 0) (by decide) (by decide) hM (fun f1 hM1 hF1 => ⟨_, rfl, ?_⟩)
  exact x_ireturn rfl rfl rfl (Nat.le_of_ble_eq_true rfl) (Nat.le_of_ble_eq_true rfl) (h _)
theorem m_sold {a : Int32} (hM : x_Mdl z f x_M0) (h : x_R post (1000000000 - (-1))) : Y E 9 mX6_sold [.ref 59, .int a] z f 0 0 post := by
  refine Y.intro gX6_sold (lv := [(0, .ref 59), (1, .int a)]) rfl (Nat.le_of_ble_eq_true rfl) ?_
  refine x_aload_n (pc' := 1) rfl rfl rfl ?_
  refine x_iload_n (pc' := 2) rfl rfl rfl ?_
  refine x_cV1i (d := 2) (pc' := 5) rfl rfl sX6_103 gX6_isBowl (hM.1) ⟨Nat.le_of_ble_eq_true rfl, Nat.le_of_ble_eq_true rfl⟩ (Nat.le_of_ble_eq_true rfl) ⟨Nat.le_of_ble_eq_true rfl, Nat.le_of_ble_eq_true rfl⟩ ?_
  refine w_isBowl hM (fun q => absurd q (noB rfl)) (fun _ => ⟨_, rfl, ?_⟩)
  refine x_if_ne (tgt := 14) (pc' := 8) rfl rfl rfl (fun c5 => absurd ((by decide)) c5) (fun _ => ?_)
  refine x_aload_n (pc' := 9) rfl rfl rfl ?_
  refine x_iconst (pc' := 10) rfl rfl iconst_m1 ?_
  refine x_cV1i (d := 2) (pc' := 13) rfl rfl sX6_180 gX6_told (hM.1) ⟨Nat.le_of_ble_eq_true rfl, Nat.le_of_ble_eq_true rfl⟩ (Nat.le_of_ble_eq_true rfl) ⟨Nat.le_of_ble_eq_true rfl, Nat.le_of_ble_eq_true rfl⟩ ?_
  refine w_told (k := 0) (by decide) (by decide) hM (fun f1 hM1 hF1 => ⟨_, rfl, ?_⟩)
  exact x_ireturn rfl rfl rfl (Nat.le_of_ble_eq_true rfl) (Nat.le_of_ble_eq_true rfl) (h _)
end FRESHM
