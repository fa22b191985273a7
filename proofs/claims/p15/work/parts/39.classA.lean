/-! The class's calls that change the state, or look at it. -/
theorem nI_999 {n : Nat} (h : n ≤ 999) : nI n < 999 ↔ ¬ n = 999 := by
  rw [show (999 : Int32) = nI 999 from rfl, nI_ltI (by omega) (by decide)]
  omega
theorem q_sum_I (β : Nat → Nat) : ∀ n, x_sum (fun i => nI (β i)) n = nI (q_sum β n)
  | 0 => rfl
  | n + 1 => by
    show x_sum _ n + nI (β n) = _
    rw [q_sum_I β n]
    exact nI_add _ _
theorem q_up_same (f : Nat → Nat) (k : Nat) : q_up f k (f k) = f := by
  funext j
  unfold q_up
  split
  · rename_i h
    rw [h]
  · rfl
theorem i3_of {a : Int32} (d : ¬ (a < 0 ∨ 2 < a)) : a = 0 ∨ a = 1 ∨ a = 2 := by
  obtain ⟨k, hk, rfl⟩ := nI_of2 (n := 2) (M := 2) rfl (fun q => d (Or.inl q)) (Int32.not_lt.mp (fun q => d (Or.inr q)))
  have h3 : k = 0 ∨ k = 1 ∨ k = 2 := by omega
  rcases h3 with rfl | rfl | rfl
  · exact Or.inl rfl
  · exact Or.inr (Or.inl rfl)
  · exact Or.inr (Or.inr rfl)
theorem s_set0 (A : q_A) (b : Int32) : s_set A 0 b = if b < 1 then (s_no A 4, -4) else if 9 < b then (s_no A 6, -6) else (s_g A ((a_g A).1, (a_g A).2.1, (a_g A).2.2.1, g_n (a_g A), b.toNatClampNeg, g_l (a_g A), g_t (a_g A)), nI (g_f (a_g A))) := by
  unfold s_set g_set
  rw [if_neg (by decide), if_pos rfl, if_pos rfl, if_pos rfl, if_pos rfl]
theorem s_set1 (A : q_A) (b : Int32) : s_set A 1 b = if b < 0 then (s_no A 4, -4) else if 1 < b then (s_no A 6, -6) else (s_g A ((a_g A).1, (a_g A).2.1, (a_g A).2.2.1, g_n (a_g A), g_f (a_g A), b.toNatClampNeg, g_t (a_g A)), nI (g_l (a_g A))) := by
  unfold s_set g_set
  simp only [if_neg (show ¬ ((1 : Int32) < 0 ∨ (2 : Int32) < 1) by decide), if_neg (show ¬ (1 : Int32) = 0 by decide), if_true]
theorem s_set2 (A : q_A) (b : Int32) : s_set A 2 b = if b < 0 then (s_no A 4, -4) else if 1 < b then (s_no A 6, -6) else (s_g A ((a_g A).1, (a_g A).2.1, (a_g A).2.2.1, g_n (a_g A), g_f (a_g A), g_l (a_g A), b.toNatClampNeg), nI (g_t (a_g A))) := by
  unfold s_set g_set
  simp only [if_neg (show ¬ ((2 : Int32) < 0 ∨ (2 : Int32) < 2) by decide), if_neg (show ¬ (2 : Int32) = 0 by decide), if_neg (show ¬ (2 : Int32) = 1 by decide)]
section CA
variable {E : x_E} {z : Nat} {f : x_H} {S : x_S} {A : q_A} {post : Option Value → x_H → Prop} {a b : Int32}
theorem c_fr0 {j : Nat} {f' : x_H} (hj : j < 11) (h : x_fr (x_ot (x_tp j)) f f') : x_fr (fun q => 59 ≤ q) f f' := h.mono (fun q hq => x_tpq j hj hq)
theorem c_letter (hS : x_Sys z f S) (hA : c_is S A) (ho : a_ok A) (h : c_ends z f post (s_letter A a)) : Y E 9 mX5_letter [.ref 0, .int a] z f 0 0 post := by
  refine Y.intro gX5_letter (lv := [(0, .ref 0), (1, .int a)]) rfl (Nat.le_of_ble_eq_true rfl) ?_
  obtain ⟨b1, b2, b3, b4, b5, b6, b7, b8⟩ := id hA
  have hlc := ho.2.2.2.1
  refine x_iload_n (pc' := 1) rfl rfl rfl ?_
  refine x_if_ge (tgt := 11) (pc' := 4) rfl rfl rfl (fun c1 => ?_) (fun c1 => ?_)
  · have d1 : ¬ a < 0 := Int32.not_lt.mpr c1
    refine x_iload_n (pc' := 12) rfl rfl rfl ?_
    refine x_sipush (pc' := 15) rfl rfl sipush_255 ?_
    refine x_icmp_gt (tgt := 29) (pc' := 18) rfl rfl rfl (fun c15 => ?_) (fun c15 => ?_)
    · rw [show s_letter A a = _ from (if_neg d1).trans (if_pos (Or.inl c15))] at h
      refine x_aload_n (pc' := 30) rfl rfl rfl ?_
      refine x_bipush (pc' := 32) rfl rfl bipush_m6 ?_
      refine x_cV1i (d := 1) (pc' := 35) rfl rfl sX5_68 gX5_refuse (hS.1) ⟨Nat.le_of_ble_eq_true rfl, Nat.le_of_ble_eq_true rfl⟩ (Nat.le_of_ble_eq_true rfl) ⟨Nat.le_of_ble_eq_true rfl, Nat.le_of_ble_eq_true rfl⟩ ?_
      refine c_refuse (k := 6) (by decide) (by decide) hS hA (fun f1 S1 hS1 hA1 hF1 => ⟨_, rfl, ?_⟩)
      exact x_ireturn rfl rfl rfl (Nat.le_of_ble_eq_true rfl) (Nat.le_of_ble_eq_true rfl) (h _ _ hS1 hA1 hF1)
    · refine x_aload_n (pc' := 19) rfl rfl rfl ?_
      refine x_get (pc' := 22) rfl rfl rfl (hS.1) rfl ?_
      refine x_iload_n (pc' := 23) rfl rfl rfl ?_
      refine x_cV1i (d := 1) (pc' := 26) rfl rfl sX5_72 gX2_add (hS.lt) ⟨Nat.le_of_ble_eq_true rfl, Nat.le_of_ble_eq_true rfl⟩ (Nat.le_of_ble_eq_true rfl) ⟨Nat.le_of_ble_eq_true rfl, Nat.le_of_ble_eq_true rfl⟩ ?_
      refine w_add (n := a_lc A) hS b4 (fun hl f1 hS1 hF1 => ⟨_, rfl, ?_⟩) (fun hl _ => ⟨_, rfl, ?_⟩) (by omega)
      · rw [show s_letter A a = _ from (if_neg d1).trans (if_neg (fun q => q.elim c15 (by omega)))] at h
        refine x_if_ne (tgt := 36) (pc' := 29) rfl rfl rfl (fun _ => ?_) (fun c26 => absurd c26 ((by decide)))
        refine x_aload_n (pc' := 37) rfl rfl rfl ?_
        refine x_get (pc' := 40) rfl rfl rfl (hS1.1) rfl ?_
        refine x_get (pc' := 43) rfl rfl rfl (hS1.lt) rfl ?_
        obtain ⟨ka, hka, rfl⟩ := nI_of d1
        exact x_ireturn rfl rfl rfl (Nat.le_of_ble_eq_true rfl) (Nat.le_of_ble_eq_true rfl) (h _ _ hS1 ⟨b1, b2, b3, rfl, by show upd (S.2.2.1 0) (a_lc A) (nI ka) = fun i => nI (q_up (a_lf A) (a_lc A) (nI ka).toNatClampNeg i); rw [b5, q_up_I, nI_clamp hka], b6, b7, b8⟩ hF1)
      · rw [show s_letter A a = _ from (if_neg d1).trans (if_pos (Or.inr (by omega)))] at h
        refine x_if_ne (tgt := 36) (pc' := 29) rfl rfl rfl (fun c26 => absurd ((by decide)) c26) (fun _ => ?_)
        refine x_aload_n (pc' := 30) rfl rfl rfl ?_
        refine x_bipush (pc' := 32) rfl rfl bipush_m6 ?_
        refine x_cV1i (d := 1) (pc' := 35) rfl rfl sX5_68 gX5_refuse (hS.1) ⟨Nat.le_of_ble_eq_true rfl, Nat.le_of_ble_eq_true rfl⟩ (Nat.le_of_ble_eq_true rfl) ⟨Nat.le_of_ble_eq_true rfl, Nat.le_of_ble_eq_true rfl⟩ ?_
        refine c_refuse (k := 6) (by decide) (by decide) hS hA (fun f1 S1 hS1 hA1 hF1 => ⟨_, rfl, ?_⟩)
        exact x_ireturn rfl rfl rfl (Nat.le_of_ble_eq_true rfl) (Nat.le_of_ble_eq_true rfl) (h _ _ hS1 hA1 hF1)
  · rw [show s_letter A a = _ from if_pos (Int32.not_le.mp c1)] at h
    refine x_aload_n (pc' := 5) rfl rfl rfl ?_
    refine x_bipush (pc' := 7) rfl rfl bipush_m4 ?_
    refine x_cV1i (d := 1) (pc' := 10) rfl rfl sX5_68 gX5_refuse (hS.1) ⟨Nat.le_of_ble_eq_true rfl, Nat.le_of_ble_eq_true rfl⟩ (Nat.le_of_ble_eq_true rfl) ⟨Nat.le_of_ble_eq_true rfl, Nat.le_of_ble_eq_true rfl⟩ ?_
    refine c_refuse (k := 4) (by decide) (by decide) hS hA (fun f1 S1 hS1 hA1 hF1 => ⟨_, rfl, ?_⟩)
    exact x_ireturn rfl rfl rfl (Nat.le_of_ble_eq_true rfl) (Nat.le_of_ble_eq_true rfl) (h _ _ hS1 hA1 hF1)
theorem c_row (hS : x_Sys z f S) (hA : c_is S A) (ho : a_ok A) (h : c_ends z f post (s_row A a)) : Y E 9 mX5_row [.ref 0, .int a] z f 0 0 post := by
  refine Y.intro gX5_row (lv := [(0, .ref 0), (1, .int a)]) rfl (Nat.le_of_ble_eq_true rfl) ?_
  obtain ⟨b1, b2, b3, b4, b5, b6, b7, b8⟩ := id hA
  have hrc := ho.2.2.2.2.2.1
  refine x_iload_n (pc' := 1) rfl rfl rfl ?_
  refine x_if_ge (tgt := 11) (pc' := 4) rfl rfl rfl (fun c1 => ?_) (fun c1 => ?_)
  · have d1 : ¬ a < 0 := Int32.not_lt.mpr c1
    refine x_iload_n (pc' := 12) rfl rfl rfl ?_
    refine x_bipush (pc' := 14) rfl rfl bipush_9 ?_
    refine x_icmp_gt (tgt := 36) (pc' := 17) rfl rfl rfl (fun c14 => ?_) (fun c14 => ?_)
    · rw [show s_row A a = _ from (if_neg d1).trans (if_pos (Or.inl c14))] at h
      refine x_aload_n (pc' := 37) rfl rfl rfl ?_
      refine x_bipush (pc' := 39) rfl rfl bipush_m6 ?_
      refine x_cV1i (d := 1) (pc' := 42) rfl rfl sX5_68 gX5_refuse (hS.1) ⟨Nat.le_of_ble_eq_true rfl, Nat.le_of_ble_eq_true rfl⟩ (Nat.le_of_ble_eq_true rfl) ⟨Nat.le_of_ble_eq_true rfl, Nat.le_of_ble_eq_true rfl⟩ ?_
      refine c_refuse (k := 6) (by decide) (by decide) hS hA (fun f1 S1 hS1 hA1 hF1 => ⟨_, rfl, ?_⟩)
      exact x_ireturn rfl rfl rfl (Nat.le_of_ble_eq_true rfl) (Nat.le_of_ble_eq_true rfl) (h _ _ hS1 hA1 hF1)
    · refine x_aload_n (pc' := 18) rfl rfl rfl ?_
      refine x_get (pc' := 21) rfl rfl rfl (hS.1) rfl ?_
      refine x_eqi b6 ?_
      refine x_if_lt (tgt := 36) (pc' := 24) rfl rfl rfl (fun c21 => absurd c21 (nI_pos (by omega))) (fun _ => ?_)
      refine x_aload_n (pc' := 25) rfl rfl rfl ?_
      refine x_get (pc' := 28) rfl rfl rfl (hS.1) rfl ?_
      refine x_eqi b6 ?_
      refine x_aload_n (pc' := 29) rfl rfl rfl ?_
      refine x_get (pc' := 32) rfl rfl rfl (hS.1) rfl ?_
      refine x_alen (pc' := 33) rfl rfl (hS.2.2.1 5 (by decide)) ?_
      by_cases d3 : a_rc A = 12
      · rw [show s_row A a = _ from (if_neg d1).trans (if_pos (Or.inr d3))] at h
        refine x_icmp_lt (tgt := 43) (pc' := 36) rfl rfl rfl (fun q => absurd q (show ¬ nI (a_rc A) < nI 12 by rw [d3]; exact Int32.lt_irrefl)) (fun _ => ?_)
        refine x_aload_n (pc' := 37) rfl rfl rfl ?_
        refine x_bipush (pc' := 39) rfl rfl bipush_m6 ?_
        refine x_cV1i (d := 1) (pc' := 42) rfl rfl sX5_68 gX5_refuse (hS.1) ⟨Nat.le_of_ble_eq_true rfl, Nat.le_of_ble_eq_true rfl⟩ (Nat.le_of_ble_eq_true rfl) ⟨Nat.le_of_ble_eq_true rfl, Nat.le_of_ble_eq_true rfl⟩ ?_
        refine c_refuse (k := 6) (by decide) (by decide) hS hA (fun f1 S1 hS1 hA1 hF1 => ⟨_, rfl, ?_⟩)
        exact x_ireturn rfl rfl rfl (Nat.le_of_ble_eq_true rfl) (Nat.le_of_ble_eq_true rfl) (h _ _ hS1 hA1 hF1)
      · rw [show s_row A a = _ from (if_neg d1).trans (if_neg (fun q => q.elim c14 d3))] at h
        refine x_icmp_lt (tgt := 43) (pc' := 36) rfl rfl rfl (fun _ => ?_) (fun q => absurd (nI_lt (a := a_rc A) (b := 12) (by omega) (by decide)) q)
        refine x_aload_n (pc' := 44) rfl rfl rfl ?_
        refine x_get (pc' := 47) rfl rfl rfl (hS.1) rfl ?_
        obtain ⟨ka, hka, rfl⟩ := nI_of d1
        refine x_aload_n (pc' := 48) rfl rfl rfl ?_
        refine x_get (pc' := 51) rfl rfl rfl (hS.1) rfl ?_
        refine x_eqi b6 ?_
        refine x_iload_n (pc' := 52) rfl rfl rfl ?_
        refine x_iastore (pc' := 53) rfl rfl (hS.2.2.1 5 (by decide)) (vp_in_nI (n := a_rc A) (N := 12) (by omega) (by decide)) (fun f1 e1 => ?_)
        have hS1 := hS.arr 5 (by decide) e1
        have hF1 := (x_fr.rf (P := fun q => 59 ≤ q)).up e1 (by decide)
        rw [nI_clamp (by omega), b7, q_up_I] at hS1
        refine x_aload_n (pc' := 54) rfl rfl rfl ?_
        refine x_dup (pc' := 55) rfl rfl rfl ?_
        refine x_get (pc' := 58) rfl rfl rfl (hS1.1) rfl ?_
        refine x_eqi b6 ?_
        refine x_iconst (pc' := 59) rfl rfl iconst_1 ?_
        refine x_iadd (pc' := 60) rfl rfl ?_
        refine x_eqi (nI_1 _) ?_
        refine x_put (pc' := 63) rfl rfl rfl (hS1.1) (Nat.le_of_ble_eq_true rfl) rfl rfl rfl rfl (fun f2 e2 => ?_)
        have hS2 := hS1.num0 (upd S.1 1 (nI (a_rc A + 1))) (e2.trans (by rw [show (S.1, S.2.1, x_ua S.2.2.1 5 _, S.2.2.2).1 = S.1 from rfl, x_oFs1])) (fun i hi => pk_un (by omega))
        have hF2 := hF1.up e2 (by decide)
        refine x_aload_n (pc' := 64) rfl rfl rfl ?_
        refine x_get (pc' := 67) rfl rfl rfl (hS2.1) rfl ?_
        exact x_ireturn rfl rfl rfl (Nat.le_of_ble_eq_true rfl) (Nat.le_of_ble_eq_true rfl) (h _ _ hS2 ⟨b1, b2, b3, b4, b5, rfl, by show (fun i => nI (q_up (a_rf A) (a_rc A) ka i)) = fun i => nI (q_up (a_rf A) (a_rc A) (nI ka).toNatClampNeg i); rw [nI_clamp hka], b8⟩ hF2)
  · rw [show s_row A a = _ from if_pos (Int32.not_le.mp c1)] at h
    refine x_aload_n (pc' := 5) rfl rfl rfl ?_
    refine x_bipush (pc' := 7) rfl rfl bipush_m4 ?_
    refine x_cV1i (d := 1) (pc' := 10) rfl rfl sX5_68 gX5_refuse (hS.1) ⟨Nat.le_of_ble_eq_true rfl, Nat.le_of_ble_eq_true rfl⟩ (Nat.le_of_ble_eq_true rfl) ⟨Nat.le_of_ble_eq_true rfl, Nat.le_of_ble_eq_true rfl⟩ ?_
    refine c_refuse (k := 4) (by decide) (by decide) hS hA (fun f1 S1 hS1 hA1 hF1 => ⟨_, rfl, ?_⟩)
    exact x_ireturn rfl rfl rfl (Nat.le_of_ble_eq_true rfl) (Nat.le_of_ble_eq_true rfl) (h _ _ hS1 hA1 hF1)
theorem c_put (hS : x_Sys z f S) (hA : c_is S A) (ho : a_ok A) (h : c_ends z f post (s_put A a b)) : Y E 9 mX5_put [.ref 0, .int a, .int b] z f 0 0 post := by
  refine Y.intro gX5_put (lv := [(0, .ref 0), (1, .int a), (2, .int b)]) rfl (Nat.le_of_ble_eq_true rfl) ?_
  obtain ⟨b1, b2, b3, b4, b5, b6, b7, b8⟩ := id hA
  have hn9 := ho.1.1
  refine x_aload_n (pc' := 1) rfl rfl rfl ?_
  refine x_get (pc' := 4) rfl rfl rfl (hS.1) rfl ?_
  refine x_iload_n (pc' := 5) rfl rfl rfl ?_
  refine x_cV1i (d := 1) (pc' := 8) rfl rfl sX5_90 gX3_has ((hS.2.1 0 (by decide)).1) ⟨Nat.le_of_ble_eq_true rfl, Nat.le_of_ble_eq_true rfl⟩ (Nat.le_of_ble_eq_true rfl) ⟨Nat.le_of_ble_eq_true rfl, Nat.le_of_ble_eq_true rfl⟩ ?_
  refine c_has hS hA ho (fun d1 => ⟨_, rfl, ?_⟩) (fun d1 => ⟨_, rfl, ?_⟩)
  · obtain ⟨k, hk, hk2, rfl, hcl⟩ := q_in_k d1
    refine x_if_ne (tgt := 17) (pc' := 11) rfl rfl rfl (fun _ => ?_) (fun c8 => absurd c8 ((by decide)))
    refine x_iload_n (pc' := 18) rfl rfl rfl ?_
    refine x_if_ge (tgt := 28) (pc' := 21) rfl rfl rfl (fun c18 => ?_) (fun c18 => ?_)
    · have d2 : ¬ b < 0 := Int32.not_lt.mpr c18
      refine x_iload_n (pc' := 29) rfl rfl rfl ?_
      refine x_bipush (pc' := 31) rfl rfl bipush_20 ?_
      refine x_icmp_le (tgt := 41) (pc' := 34) rfl rfl rfl (fun c31 => ?_) (fun c31 => ?_)
      · rw [show s_put A (nI k) b = _ from (if_pos d1).trans ((if_neg d2).trans (if_neg (Int32.not_lt.mpr c31)))] at h
        refine x_aload_n (pc' := 42) rfl rfl rfl ?_
        refine x_get (pc' := 45) rfl rfl rfl (hS.1) rfl ?_
        refine x_iload_n (pc' := 46) rfl rfl rfl ?_
        refine x_cV1i (d := 2) (pc' := 49) rfl rfl sX5_96 gX3_beansOf ((hS.2.1 0 (by decide)).1) ⟨Nat.le_of_ble_eq_true rfl, Nat.le_of_ble_eq_true rfl⟩ (Nat.le_of_ble_eq_true rfl) ⟨Nat.le_of_ble_eq_true rfl, Nat.le_of_ble_eq_true rfl⟩ ?_
        refine w_beansOf (hS.2.1 0 (by decide)) (fun g => ⟨_, rfl, ?_⟩) (fun g => absurd (t_has_nI b1.2.2.2.1 hn9 hk) g)
        refine x_eqi (show (S.2.1 0).2.1 (nI k).toNatClampNeg = nI (g_β (a_g A) (nI k).toNatClampNeg) from by rw [b1.2.1]) ?_
        refine x_istore_n (pc' := 50) (lv' := [(3, _), (0, _), (1, _), (2, _)]) rfl rfl (Nat.le_of_ble_eq_true rfl) rfl ?_
        refine x_aload_n (pc' := 51) rfl rfl rfl ?_
        refine x_get (pc' := 54) rfl rfl rfl (hS.1) rfl ?_
        refine x_iload_n (pc' := 55) rfl rfl rfl ?_
        refine x_iload_n (pc' := 56) rfl rfl rfl ?_
        refine x_cV2v (d := 2) (pc' := 59) rfl rfl sX5_105 gX3_lay ((hS.2.1 0 (by decide)).1) ⟨Nat.le_of_ble_eq_true rfl, Nat.le_of_ble_eq_true rfl⟩ (Nat.le_of_ble_eq_true rfl) ⟨Nat.le_of_ble_eq_true rfl, Nat.le_of_ble_eq_true rfl⟩ ?_
        refine w_lay (hS.2.1 0 (by decide)) (fun _ f1 hT1 hF1 => ⟨rfl, ?_⟩) (fun g => absurd (t_has_nI b1.2.2.2.1 hn9 hk) g)
        have hS1 := hS.tab 0 (by decide) hT1 hF1
        obtain ⟨kb, hkb, rfl⟩ := nI_of d2
        refine x_iload_n (pc' := 60) rfl rfl rfl ?_
        exact x_ireturn rfl rfl rfl (Nat.le_of_ble_eq_true rfl) (Nat.le_of_ble_eq_true rfl) (h _ _ hS1 ⟨⟨b1.1, by show upd (S.2.1 0).2.1 (nI k).toNatClampNeg (nI kb) = fun i => nI (q_up (g_β (a_g A)) (nI k).toNatClampNeg (nI kb).toNatClampNeg i); rw [b1.2.1, q_up_I, nI_clamp hkb], b1.2.2⟩, b2, b3, b4, b5, b6, b7, b8⟩ (c_fr0 (j := 0) (by decide) hF1))
      · rw [show s_put A (nI k) b = _ from (if_pos d1).trans ((if_neg d2).trans (if_pos (Int32.not_le.mp c31)))] at h
        refine x_aload_n (pc' := 35) rfl rfl rfl ?_
        refine x_bipush (pc' := 37) rfl rfl bipush_m6 ?_
        refine x_cV1i (d := 1) (pc' := 40) rfl rfl sX5_68 gX5_refuse (hS.1) ⟨Nat.le_of_ble_eq_true rfl, Nat.le_of_ble_eq_true rfl⟩ (Nat.le_of_ble_eq_true rfl) ⟨Nat.le_of_ble_eq_true rfl, Nat.le_of_ble_eq_true rfl⟩ ?_
        refine c_refuse (k := 6) (by decide) (by decide) hS hA (fun f1 S1 hS1 hA1 hF1 => ⟨_, rfl, ?_⟩)
        exact x_ireturn rfl rfl rfl (Nat.le_of_ble_eq_true rfl) (Nat.le_of_ble_eq_true rfl) (h _ _ hS1 hA1 hF1)
    · rw [show s_put A (nI k) b = _ from (if_pos d1).trans (if_pos (Int32.not_le.mp c18))] at h
      refine x_aload_n (pc' := 22) rfl rfl rfl ?_
      refine x_bipush (pc' := 24) rfl rfl bipush_m4 ?_
      refine x_cV1i (d := 1) (pc' := 27) rfl rfl sX5_68 gX5_refuse (hS.1) ⟨Nat.le_of_ble_eq_true rfl, Nat.le_of_ble_eq_true rfl⟩ (Nat.le_of_ble_eq_true rfl) ⟨Nat.le_of_ble_eq_true rfl, Nat.le_of_ble_eq_true rfl⟩ ?_
      refine c_refuse (k := 4) (by decide) (by decide) hS hA (fun f1 S1 hS1 hA1 hF1 => ⟨_, rfl, ?_⟩)
      exact x_ireturn rfl rfl rfl (Nat.le_of_ble_eq_true rfl) (Nat.le_of_ble_eq_true rfl) (h _ _ hS1 hA1 hF1)
  · rw [show s_put A a b = _ from if_neg d1] at h
    refine x_if_ne (tgt := 17) (pc' := 11) rfl rfl rfl (fun c8 => absurd ((by decide)) c8) (fun _ => ?_)
    refine x_aload_n (pc' := 12) rfl rfl rfl ?_
    refine x_iconst (pc' := 13) rfl rfl iconst_m1 ?_
    refine x_cV1i (d := 1) (pc' := 16) rfl rfl sX5_68 gX5_refuse (hS.1) ⟨Nat.le_of_ble_eq_true rfl, Nat.le_of_ble_eq_true rfl⟩ (Nat.le_of_ble_eq_true rfl) ⟨Nat.le_of_ble_eq_true rfl, Nat.le_of_ble_eq_true rfl⟩ ?_
    refine c_refuse (k := 1) (by decide) (by decide) hS hA (fun f1 S1 hS1 hA1 hF1 => ⟨_, rfl, ?_⟩)
    exact x_ireturn rfl rfl rfl (Nat.le_of_ble_eq_true rfl) (Nat.le_of_ble_eq_true rfl) (h _ _ hS1 hA1 hF1)
theorem c_set (hS : x_Sys z f S) (hA : c_is S A) (h : c_ends z f post (s_set A a b)) : Y E 9 mX5_set [.ref 0, .int a, .int b] z f 0 0 post := by
  refine Y.intro gX5_set (lv := [(0, .ref 0), (1, .int a), (2, .int b)]) rfl (Nat.le_of_ble_eq_true rfl) ?_
  obtain ⟨b1, b2, b3, b4, b5, b6, b7, b8⟩ := id hA
  obtain ⟨t1, t2, t3, t4, t5, t6, t7⟩ := id b1
  have hT := hS.2.1 0 (by decide)
  by_cases d0 : a < 0
  · rw [show s_set A a b = _ from if_pos (Or.inl d0)] at h
    refine x_iload_n (pc' := 1) rfl rfl rfl ?_
    refine x_if_lt (tgt := 9) (pc' := 4) rfl rfl rfl (fun _ => ?_) (fun c1 => absurd (d0) c1)
    refine x_aload_n (pc' := 10) rfl rfl rfl ?_
    refine x_bipush (pc' := 12) rfl rfl bipush_m2 ?_
    refine x_cV1i (d := 1) (pc' := 15) rfl rfl sX5_68 gX5_refuse (hS.1) ⟨Nat.le_of_ble_eq_true rfl, Nat.le_of_ble_eq_true rfl⟩ (Nat.le_of_ble_eq_true rfl) ⟨Nat.le_of_ble_eq_true rfl, Nat.le_of_ble_eq_true rfl⟩ ?_
    refine c_refuse (k := 2) (by decide) (by decide) hS hA (fun f1 S1 hS1 hA1 hF1 => ⟨_, rfl, ?_⟩)
    exact x_ireturn rfl rfl rfl (Nat.le_of_ble_eq_true rfl) (Nat.le_of_ble_eq_true rfl) (h _ _ hS1 hA1 hF1)
  by_cases d9 : 2 < a
  · rw [show s_set A a b = _ from if_pos (Or.inr d9)] at h
    refine x_iload_n (pc' := 1) rfl rfl rfl ?_
    refine x_if_lt (tgt := 9) (pc' := 4) rfl rfl rfl (fun c1 => absurd c1 (d0)) (fun _ => ?_)
    refine x_iload_n (pc' := 5) rfl rfl rfl ?_
    refine x_iconst (pc' := 6) rfl rfl iconst_2 ?_
    refine x_icmp_le (tgt := 16) (pc' := 9) rfl rfl rfl (fun c6 => absurd c6 (Int32.not_le.mpr d9)) (fun _ => ?_)
    refine x_aload_n (pc' := 10) rfl rfl rfl ?_
    refine x_bipush (pc' := 12) rfl rfl bipush_m2 ?_
    refine x_cV1i (d := 1) (pc' := 15) rfl rfl sX5_68 gX5_refuse (hS.1) ⟨Nat.le_of_ble_eq_true rfl, Nat.le_of_ble_eq_true rfl⟩ (Nat.le_of_ble_eq_true rfl) ⟨Nat.le_of_ble_eq_true rfl, Nat.le_of_ble_eq_true rfl⟩ ?_
    refine c_refuse (k := 2) (by decide) (by decide) hS hA (fun f1 S1 hS1 hA1 hF1 => ⟨_, rfl, ?_⟩)
    exact x_ireturn rfl rfl rfl (Nat.le_of_ble_eq_true rfl) (Nat.le_of_ble_eq_true rfl) (h _ _ hS1 hA1 hF1)
  rcases i3_of (fun q => q.elim d0 d9) with rfl | rfl | rfl
  · rw [s_set0] at h
    refine x_iload_n (pc' := 1) rfl rfl rfl ?_
    refine x_if_lt (tgt := 9) (pc' := 4) rfl rfl rfl (fun c1 => absurd c1 ((by decide))) (fun _ => ?_)
    refine x_iload_n (pc' := 5) rfl rfl rfl ?_
    refine x_iconst (pc' := 6) rfl rfl iconst_2 ?_
    refine x_icmp_le (tgt := 16) (pc' := 9) rfl rfl rfl (fun _ => ?_) (fun c6 => absurd ((by decide)) c6)
    refine x_iload_n (pc' := 17) rfl rfl rfl ?_
    refine x_iload_n (pc' := 18) rfl rfl rfl ?_
    refine x_if_ne (tgt := 25) (pc' := 21) rfl rfl rfl (fun c18 => absurd (rfl) c18) (fun _ => ?_)
    refine x_iconst (pc' := 22) rfl rfl iconst_1 ?_
    refine x_goto (tgt := 26) rfl rfl ?_
    refine x_icmp_ge (tgt := 36) (pc' := 29) rfl rfl rfl (fun c26 => ?_) (fun c26 => ?_)
    · have d2 : ¬ b < 1 := Int32.not_lt.mpr c26
      rw [if_neg d2] at h
      refine x_iload_n (pc' := 37) rfl rfl rfl ?_
      refine x_iload_n (pc' := 38) rfl rfl rfl ?_
      refine x_if_ne (tgt := 46) (pc' := 41) rfl rfl rfl (fun c38 => absurd (rfl) c38) (fun _ => ?_)
      refine x_bipush (pc' := 43) rfl rfl bipush_9 ?_
      refine x_goto (tgt := 47) rfl rfl ?_
      refine x_icmp_le (tgt := 57) (pc' := 50) rfl rfl rfl (fun c47 => ?_) (fun c47 => ?_)
      · rw [if_neg (Int32.not_lt.mpr c47)] at h
        refine x_iload_n (pc' := 58) rfl rfl rfl ?_
        refine x_if_ne (tgt := 80) (pc' := 61) rfl rfl rfl (fun c58 => absurd (rfl) c58) (fun _ => ?_)
        refine x_aload_n (pc' := 62) rfl rfl rfl ?_
        refine x_get (pc' := 65) rfl rfl rfl (hS.1) rfl ?_
        refine x_get (pc' := 68) rfl rfl rfl (hT.1) rfl ?_
        refine x_eqi t5 ?_
        refine x_istore_n (pc' := 69) (lv' := [(3, _), (0, _), (1, _), (2, _)]) rfl rfl (Nat.le_of_ble_eq_true rfl) rfl ?_
        refine x_aload_n (pc' := 70) rfl rfl rfl ?_
        refine x_get (pc' := 73) rfl rfl rfl (hS.1) rfl ?_
        refine x_iload_n (pc' := 74) rfl rfl rfl ?_
        refine x_put (pc' := 77) rfl rfl rfl (hT.1) (Nat.le_of_ble_eq_true rfl) rfl rfl rfl rfl (fun f1 e1 => ?_)
        have hT1 := hT.num 1 e1 (x_tFs1 _ _ _)
        have hF1 := (x_fr.rf (P := x_ot 1)).up e1 (by decide)
        have hS1 := hS.tab 0 (by decide) hT1 hF1
        obtain ⟨kb, hkb, rfl⟩ := nI_of (fun q => d2 (Int32.lt_of_lt_of_le q (by decide)))
        refine x_goto (tgt := 120) rfl rfl ?_
        refine x_iload_n (pc' := 121) rfl rfl rfl ?_
        exact x_ireturn rfl rfl rfl (Nat.le_of_ble_eq_true rfl) (Nat.le_of_ble_eq_true rfl) (h _ _ hS1 ⟨(by rw [nI_clamp hkb]; exact ⟨t1, t2, t3, t4, rfl, t6, t7⟩), b2, b3, b4, b5, b6, b7, b8⟩ (c_fr0 (j := 0) (by decide) hF1))
      · rw [if_pos (Int32.not_le.mp c47)] at h
        refine x_aload_n (pc' := 51) rfl rfl rfl ?_
        refine x_bipush (pc' := 53) rfl rfl bipush_m6 ?_
        refine x_cV1i (d := 1) (pc' := 56) rfl rfl sX5_68 gX5_refuse (hS.1) ⟨Nat.le_of_ble_eq_true rfl, Nat.le_of_ble_eq_true rfl⟩ (Nat.le_of_ble_eq_true rfl) ⟨Nat.le_of_ble_eq_true rfl, Nat.le_of_ble_eq_true rfl⟩ ?_
        refine c_refuse (k := 6) (by decide) (by decide) hS hA (fun f1 S1 hS1 hA1 hF1 => ⟨_, rfl, ?_⟩)
        exact x_ireturn rfl rfl rfl (Nat.le_of_ble_eq_true rfl) (Nat.le_of_ble_eq_true rfl) (h _ _ hS1 hA1 hF1)
    · rw [if_pos (Int32.not_le.mp c26)] at h
      refine x_aload_n (pc' := 30) rfl rfl rfl ?_
      refine x_bipush (pc' := 32) rfl rfl bipush_m4 ?_
      refine x_cV1i (d := 1) (pc' := 35) rfl rfl sX5_68 gX5_refuse (hS.1) ⟨Nat.le_of_ble_eq_true rfl, Nat.le_of_ble_eq_true rfl⟩ (Nat.le_of_ble_eq_true rfl) ⟨Nat.le_of_ble_eq_true rfl, Nat.le_of_ble_eq_true rfl⟩ ?_
      refine c_refuse (k := 4) (by decide) (by decide) hS hA (fun f1 S1 hS1 hA1 hF1 => ⟨_, rfl, ?_⟩)
      exact x_ireturn rfl rfl rfl (Nat.le_of_ble_eq_true rfl) (Nat.le_of_ble_eq_true rfl) (h _ _ hS1 hA1 hF1)
  · rw [s_set1] at h
    refine x_iload_n (pc' := 1) rfl rfl rfl ?_
    refine x_if_lt (tgt := 9) (pc' := 4) rfl rfl rfl (fun c1 => absurd c1 ((by decide))) (fun _ => ?_)
    refine x_iload_n (pc' := 5) rfl rfl rfl ?_
    refine x_iconst (pc' := 6) rfl rfl iconst_2 ?_
    refine x_icmp_le (tgt := 16) (pc' := 9) rfl rfl rfl (fun _ => ?_) (fun c6 => absurd ((by decide)) c6)
    refine x_iload_n (pc' := 17) rfl rfl rfl ?_
    refine x_iload_n (pc' := 18) rfl rfl rfl ?_
    refine x_if_ne (tgt := 25) (pc' := 21) rfl rfl rfl (fun _ => ?_) (fun c18 => absurd c18 ((by decide)))
    refine x_iconst (pc' := 26) rfl rfl iconst_0 ?_
    refine x_icmp_ge (tgt := 36) (pc' := 29) rfl rfl rfl (fun c26 => ?_) (fun c26 => ?_)
    · have d2 : ¬ b < 0 := Int32.not_lt.mpr c26
      rw [if_neg d2] at h
      refine x_iload_n (pc' := 37) rfl rfl rfl ?_
      refine x_iload_n (pc' := 38) rfl rfl rfl ?_
      refine x_if_ne (tgt := 46) (pc' := 41) rfl rfl rfl (fun _ => ?_) (fun c38 => absurd c38 ((by decide)))
      refine x_iconst (pc' := 47) rfl rfl iconst_1 ?_
      refine x_icmp_le (tgt := 57) (pc' := 50) rfl rfl rfl (fun c47 => ?_) (fun c47 => ?_)
      · rw [if_neg (Int32.not_lt.mpr c47)] at h
        refine x_iload_n (pc' := 58) rfl rfl rfl ?_
        refine x_if_ne (tgt := 80) (pc' := 61) rfl rfl rfl (fun _ => ?_) (fun c58 => absurd c58 ((by decide)))
        refine x_iload_n (pc' := 81) rfl rfl rfl ?_
        refine x_iconst (pc' := 82) rfl rfl iconst_1 ?_
        refine x_icmp_ne (tgt := 104) (pc' := 85) rfl rfl rfl (fun c82 => absurd (rfl) c82) (fun _ => ?_)
        refine x_aload_n (pc' := 86) rfl rfl rfl ?_
        refine x_get (pc' := 89) rfl rfl rfl (hS.1) rfl ?_
        refine x_get (pc' := 92) rfl rfl rfl (hT.1) rfl ?_
        refine x_eqi t6 ?_
        refine x_istore_n (pc' := 93) (lv' := [(3, _), (0, _), (1, _), (2, _)]) rfl rfl (Nat.le_of_ble_eq_true rfl) rfl ?_
        refine x_aload_n (pc' := 94) rfl rfl rfl ?_
        refine x_get (pc' := 97) rfl rfl rfl (hS.1) rfl ?_
        refine x_iload_n (pc' := 98) rfl rfl rfl ?_
        refine x_put (pc' := 101) rfl rfl rfl (hT.1) (Nat.le_of_ble_eq_true rfl) rfl rfl rfl rfl (fun f1 e1 => ?_)
        have hT1 := hT.num 2 e1 (x_tFs2 _ _ _)
        have hF1 := (x_fr.rf (P := x_ot 1)).up e1 (by decide)
        have hS1 := hS.tab 0 (by decide) hT1 hF1
        obtain ⟨kb, hkb, rfl⟩ := nI_of (fun q => d2 (Int32.lt_of_lt_of_le q (by decide)))
        refine x_goto (tgt := 120) rfl rfl ?_
        refine x_iload_n (pc' := 121) rfl rfl rfl ?_
        exact x_ireturn rfl rfl rfl (Nat.le_of_ble_eq_true rfl) (Nat.le_of_ble_eq_true rfl) (h _ _ hS1 ⟨(by rw [nI_clamp hkb]; exact ⟨t1, t2, t3, t4, t5, rfl, t7⟩), b2, b3, b4, b5, b6, b7, b8⟩ (c_fr0 (j := 0) (by decide) hF1))
      · rw [if_pos (Int32.not_le.mp c47)] at h
        refine x_aload_n (pc' := 51) rfl rfl rfl ?_
        refine x_bipush (pc' := 53) rfl rfl bipush_m6 ?_
        refine x_cV1i (d := 1) (pc' := 56) rfl rfl sX5_68 gX5_refuse (hS.1) ⟨Nat.le_of_ble_eq_true rfl, Nat.le_of_ble_eq_true rfl⟩ (Nat.le_of_ble_eq_true rfl) ⟨Nat.le_of_ble_eq_true rfl, Nat.le_of_ble_eq_true rfl⟩ ?_
        refine c_refuse (k := 6) (by decide) (by decide) hS hA (fun f1 S1 hS1 hA1 hF1 => ⟨_, rfl, ?_⟩)
        exact x_ireturn rfl rfl rfl (Nat.le_of_ble_eq_true rfl) (Nat.le_of_ble_eq_true rfl) (h _ _ hS1 hA1 hF1)
    · rw [if_pos (Int32.not_le.mp c26)] at h
      refine x_aload_n (pc' := 30) rfl rfl rfl ?_
      refine x_bipush (pc' := 32) rfl rfl bipush_m4 ?_
      refine x_cV1i (d := 1) (pc' := 35) rfl rfl sX5_68 gX5_refuse (hS.1) ⟨Nat.le_of_ble_eq_true rfl, Nat.le_of_ble_eq_true rfl⟩ (Nat.le_of_ble_eq_true rfl) ⟨Nat.le_of_ble_eq_true rfl, Nat.le_of_ble_eq_true rfl⟩ ?_
      refine c_refuse (k := 4) (by decide) (by decide) hS hA (fun f1 S1 hS1 hA1 hF1 => ⟨_, rfl, ?_⟩)
      exact x_ireturn rfl rfl rfl (Nat.le_of_ble_eq_true rfl) (Nat.le_of_ble_eq_true rfl) (h _ _ hS1 hA1 hF1)
  · rw [s_set2] at h
    refine x_iload_n (pc' := 1) rfl rfl rfl ?_
    refine x_if_lt (tgt := 9) (pc' := 4) rfl rfl rfl (fun c1 => absurd c1 ((by decide))) (fun _ => ?_)
    refine x_iload_n (pc' := 5) rfl rfl rfl ?_
    refine x_iconst (pc' := 6) rfl rfl iconst_2 ?_
    refine x_icmp_le (tgt := 16) (pc' := 9) rfl rfl rfl (fun _ => ?_) (fun c6 => absurd ((by decide)) c6)
    refine x_iload_n (pc' := 17) rfl rfl rfl ?_
    refine x_iload_n (pc' := 18) rfl rfl rfl ?_
    refine x_if_ne (tgt := 25) (pc' := 21) rfl rfl rfl (fun _ => ?_) (fun c18 => absurd c18 ((by decide)))
    refine x_iconst (pc' := 26) rfl rfl iconst_0 ?_
    refine x_icmp_ge (tgt := 36) (pc' := 29) rfl rfl rfl (fun c26 => ?_) (fun c26 => ?_)
    · have d2 : ¬ b < 0 := Int32.not_lt.mpr c26
      rw [if_neg d2] at h
      refine x_iload_n (pc' := 37) rfl rfl rfl ?_
      refine x_iload_n (pc' := 38) rfl rfl rfl ?_
      refine x_if_ne (tgt := 46) (pc' := 41) rfl rfl rfl (fun _ => ?_) (fun c38 => absurd c38 ((by decide)))
      refine x_iconst (pc' := 47) rfl rfl iconst_1 ?_
      refine x_icmp_le (tgt := 57) (pc' := 50) rfl rfl rfl (fun c47 => ?_) (fun c47 => ?_)
      · rw [if_neg (Int32.not_lt.mpr c47)] at h
        refine x_iload_n (pc' := 58) rfl rfl rfl ?_
        refine x_if_ne (tgt := 80) (pc' := 61) rfl rfl rfl (fun _ => ?_) (fun c58 => absurd c58 ((by decide)))
        refine x_iload_n (pc' := 81) rfl rfl rfl ?_
        refine x_iconst (pc' := 82) rfl rfl iconst_1 ?_
        refine x_icmp_ne (tgt := 104) (pc' := 85) rfl rfl rfl (fun _ => ?_) (fun c82 => absurd c82 ((by decide)))
        refine x_aload_n (pc' := 105) rfl rfl rfl ?_
        refine x_get (pc' := 108) rfl rfl rfl (hS.1) rfl ?_
        refine x_get (pc' := 111) rfl rfl rfl (hT.1) rfl ?_
        refine x_eqi t7 ?_
        refine x_istore_n (pc' := 112) (lv' := [(3, _), (0, _), (1, _), (2, _)]) rfl rfl (Nat.le_of_ble_eq_true rfl) rfl ?_
        refine x_aload_n (pc' := 113) rfl rfl rfl ?_
        refine x_get (pc' := 116) rfl rfl rfl (hS.1) rfl ?_
        refine x_iload_n (pc' := 117) rfl rfl rfl ?_
        refine x_put (pc' := 120) rfl rfl rfl (hT.1) (Nat.le_of_ble_eq_true rfl) rfl rfl rfl rfl (fun f1 e1 => ?_)
        have hT1 := hT.num 3 e1 (x_tFs3 _ _ _)
        have hF1 := (x_fr.rf (P := x_ot 1)).up e1 (by decide)
        have hS1 := hS.tab 0 (by decide) hT1 hF1
        obtain ⟨kb, hkb, rfl⟩ := nI_of (fun q => d2 (Int32.lt_of_lt_of_le q (by decide)))
        refine x_iload_n (pc' := 121) rfl rfl rfl ?_
        exact x_ireturn rfl rfl rfl (Nat.le_of_ble_eq_true rfl) (Nat.le_of_ble_eq_true rfl) (h _ _ hS1 ⟨(by rw [nI_clamp hkb]; exact ⟨t1, t2, t3, t4, t5, t6, rfl⟩), b2, b3, b4, b5, b6, b7, b8⟩ (c_fr0 (j := 0) (by decide) hF1))
      · rw [if_pos (Int32.not_le.mp c47)] at h
        refine x_aload_n (pc' := 51) rfl rfl rfl ?_
        refine x_bipush (pc' := 53) rfl rfl bipush_m6 ?_
        refine x_cV1i (d := 1) (pc' := 56) rfl rfl sX5_68 gX5_refuse (hS.1) ⟨Nat.le_of_ble_eq_true rfl, Nat.le_of_ble_eq_true rfl⟩ (Nat.le_of_ble_eq_true rfl) ⟨Nat.le_of_ble_eq_true rfl, Nat.le_of_ble_eq_true rfl⟩ ?_
        refine c_refuse (k := 6) (by decide) (by decide) hS hA (fun f1 S1 hS1 hA1 hF1 => ⟨_, rfl, ?_⟩)
        exact x_ireturn rfl rfl rfl (Nat.le_of_ble_eq_true rfl) (Nat.le_of_ble_eq_true rfl) (h _ _ hS1 hA1 hF1)
    · rw [if_pos (Int32.not_le.mp c26)] at h
      refine x_aload_n (pc' := 30) rfl rfl rfl ?_
      refine x_bipush (pc' := 32) rfl rfl bipush_m4 ?_
      refine x_cV1i (d := 1) (pc' := 35) rfl rfl sX5_68 gX5_refuse (hS.1) ⟨Nat.le_of_ble_eq_true rfl, Nat.le_of_ble_eq_true rfl⟩ (Nat.le_of_ble_eq_true rfl) ⟨Nat.le_of_ble_eq_true rfl, Nat.le_of_ble_eq_true rfl⟩ ?_
      refine c_refuse (k := 4) (by decide) (by decide) hS hA (fun f1 S1 hS1 hA1 hF1 => ⟨_, rfl, ?_⟩)
      exact x_ireturn rfl rfl rfl (Nat.le_of_ble_eq_true rfl) (Nat.le_of_ble_eq_true rfl) (h _ _ hS1 hA1 hF1)
theorem c_move (hS : x_Sys z f S) (hA : c_is S A) (ho : a_ok A) (h : c_ends z f post (s_move A a)) : Y E 9 mX5_move [.ref 0, .int a] z f 0 0 post := by
  refine Y.intro gX5_move (lv := [(0, .ref 0), (1, .int a)]) rfl (Nat.le_of_ble_eq_true rfl) ?_
  obtain ⟨b1, b2, b3, b4, b5, b6, b7, b8⟩ := id hA
  have hmv := ho.2.1
  have hT := hS.2.1 0 (by decide)
  refine x_aload_n (pc' := 1) rfl rfl rfl ?_
  refine x_get (pc' := 4) rfl rfl rfl (hS.1) rfl ?_
  refine x_iload_n (pc' := 5) rfl rfl rfl ?_
  refine x_cV1i (d := 1) (pc' := 8) rfl rfl sX5_90 gX3_has (hT.1) ⟨Nat.le_of_ble_eq_true rfl, Nat.le_of_ble_eq_true rfl⟩ (Nat.le_of_ble_eq_true rfl) ⟨Nat.le_of_ble_eq_true rfl, Nat.le_of_ble_eq_true rfl⟩ ?_
  refine c_has hS hA ho (fun d1 => ⟨_, rfl, ?_⟩) (fun d1 => ⟨_, rfl, ?_⟩)
  · obtain ⟨k, hk, hk2, rfl, hcl⟩ := q_in_k d1
    refine x_if_ne (tgt := 17) (pc' := 11) rfl rfl rfl (fun _ => ?_) (fun c8 => absurd c8 ((by decide)))
    refine x_aload_n (pc' := 18) rfl rfl rfl ?_
    refine x_get (pc' := 21) rfl rfl rfl (hS.1) rfl ?_
    refine x_iload_n (pc' := 22) rfl rfl rfl ?_
    refine x_cV1i (d := 2) (pc' := 25) rfl rfl sX5_118 gX3_canMove (hT.1) ⟨Nat.le_of_ble_eq_true rfl, Nat.le_of_ble_eq_true rfl⟩ (Nat.le_of_ble_eq_true rfl) ⟨Nat.le_of_ble_eq_true rfl, Nat.le_of_ble_eq_true rfl⟩ ?_
    refine w_can hT b1 ho.1 (by decide) hk2 (fun d2 => ⟨_, rfl, ?_⟩) (fun d2 => ⟨_, rfl, ?_⟩)
    · have d3 : 2 ≤ g_n (a_g A) ∧ 0 < g_β (a_g A) (nI k).toNatClampNeg := ⟨d2.1, by rw [hcl]; exact d2.2.2⟩
      refine x_if_ne (tgt := 35) (pc' := 28) rfl rfl rfl (fun _ => ?_) (fun c25 => absurd c25 ((by decide)))
      refine x_aload_n (pc' := 36) rfl rfl rfl ?_
      refine x_get (pc' := 39) rfl rfl rfl (hS.1) rfl ?_
      refine x_get (pc' := 42) rfl rfl rfl (hT.1) rfl ?_
      refine x_eqi b2 ?_
      refine x_sipush (pc' := 45) rfl rfl sipush_999 ?_
      refine x_icmp_lt (tgt := 55) (pc' := 48) rfl rfl rfl (fun c45 => ?_) (fun c45 => ?_)
      · rw [show s_move A (nI k) = _ from (if_pos d1).trans ((if_pos d3).trans (if_neg ((nI_999 hmv).mp c45)))] at h
        refine x_aload_n (pc' := 56) rfl rfl rfl ?_
        refine x_get (pc' := 59) rfl rfl rfl (hS.1) rfl ?_
        refine x_iload_n (pc' := 60) rfl rfl rfl ?_
        refine x_cV1v (d := 4) (pc' := 63) rfl rfl sX5_124 gX3_makeMove (hT.1) ⟨Nat.le_of_ble_eq_true rfl, Nat.le_of_ble_eq_true rfl⟩ (Nat.le_of_ble_eq_true rfl) ⟨Nat.le_of_ble_eq_true rfl, Nat.le_of_ble_eq_true rfl⟩ ?_
        refine w_move hT b1 ho.1 (by decide) hk (fun f1 T1 hT1 g1 g4 g5 g6 g7 g8 hF1 => ⟨rfl, ?_⟩)
        have hS1 := hS.tab 0 (by decide) hT1 hF1
        rw [hcl] at h
        refine x_aload_n (pc' := 64) rfl rfl rfl ?_
        refine x_get (pc' := 67) rfl rfl rfl (hS1.1) rfl ?_
        refine x_get (pc' := 70) rfl rfl rfl (hT1.1) rfl ?_
        exact x_ireturn rfl rfl rfl (Nat.le_of_ble_eq_true rfl) (Nat.le_of_ble_eq_true rfl) (by rw [g8]; exact h _ _ hS1 ⟨g1, g4.trans (by rw [b2]; exact nI_1 _), b3, b4, b5, b6, b7, b8⟩ (c_fr0 (j := 0) (by decide) hF1))
      · rw [show s_move A (nI k) = _ from (if_pos d1).trans ((if_pos d3).trans (if_pos (Decidable.not_not.mp (fun q => c45 ((nI_999 hmv).mpr q)))))] at h
        refine x_aload_n (pc' := 49) rfl rfl rfl ?_
        refine x_bipush (pc' := 51) rfl rfl bipush_m6 ?_
        refine x_cV1i (d := 1) (pc' := 54) rfl rfl sX5_68 gX5_refuse (hS.1) ⟨Nat.le_of_ble_eq_true rfl, Nat.le_of_ble_eq_true rfl⟩ (Nat.le_of_ble_eq_true rfl) ⟨Nat.le_of_ble_eq_true rfl, Nat.le_of_ble_eq_true rfl⟩ ?_
        refine c_refuse (k := 6) (by decide) (by decide) hS hA (fun f1 S1 hS1 hA1 hF1 => ⟨_, rfl, ?_⟩)
        exact x_ireturn rfl rfl rfl (Nat.le_of_ble_eq_true rfl) (Nat.le_of_ble_eq_true rfl) (h _ _ hS1 hA1 hF1)
    · have d3 : ¬ (2 ≤ g_n (a_g A) ∧ 0 < g_β (a_g A) (nI k).toNatClampNeg) := fun q => d2 ⟨q.1, hk, by rw [← hcl]; exact q.2⟩
      rw [show s_move A (nI k) = _ from (if_pos d1).trans (if_neg d3)] at h
      refine x_if_ne (tgt := 35) (pc' := 28) rfl rfl rfl (fun c25 => absurd ((by decide)) c25) (fun _ => ?_)
      refine x_aload_n (pc' := 29) rfl rfl rfl ?_
      refine x_bipush (pc' := 31) rfl rfl bipush_m3 ?_
      refine x_cV1i (d := 1) (pc' := 34) rfl rfl sX5_68 gX5_refuse (hS.1) ⟨Nat.le_of_ble_eq_true rfl, Nat.le_of_ble_eq_true rfl⟩ (Nat.le_of_ble_eq_true rfl) ⟨Nat.le_of_ble_eq_true rfl, Nat.le_of_ble_eq_true rfl⟩ ?_
      refine c_refuse (k := 3) (by decide) (by decide) hS hA (fun f1 S1 hS1 hA1 hF1 => ⟨_, rfl, ?_⟩)
      exact x_ireturn rfl rfl rfl (Nat.le_of_ble_eq_true rfl) (Nat.le_of_ble_eq_true rfl) (h _ _ hS1 hA1 hF1)
  · rw [show s_move A a = _ from if_neg d1] at h
    refine x_if_ne (tgt := 17) (pc' := 11) rfl rfl rfl (fun c8 => absurd ((by decide)) c8) (fun _ => ?_)
    refine x_aload_n (pc' := 12) rfl rfl rfl ?_
    refine x_iconst (pc' := 13) rfl rfl iconst_m1 ?_
    refine x_cV1i (d := 1) (pc' := 16) rfl rfl sX5_68 gX5_refuse (hS.1) ⟨Nat.le_of_ble_eq_true rfl, Nat.le_of_ble_eq_true rfl⟩ (Nat.le_of_ble_eq_true rfl) ⟨Nat.le_of_ble_eq_true rfl, Nat.le_of_ble_eq_true rfl⟩ ?_
    refine c_refuse (k := 1) (by decide) (by decide) hS hA (fun f1 S1 hS1 hA1 hF1 => ⟨_, rfl, ?_⟩)
    exact x_ireturn rfl rfl rfl (Nat.le_of_ble_eq_true rfl) (Nat.le_of_ble_eq_true rfl) (h _ _ hS1 hA1 hF1)
theorem c_bowl (hS : x_Sys z f S) (hA : c_is S A) (ho : a_ok A) (h : c_ends z f post (s_bowl A a b)) : Y E 9 mX5_bowl [.ref 0, .int a, .int b] z f 0 0 post := by
  refine Y.intro gX5_bowl (lv := [(0, .ref 0), (1, .int a), (2, .int b)]) rfl (Nat.le_of_ble_eq_true rfl) ?_
  obtain ⟨b1, b2, b3, b4, b5, b6, b7, b8⟩ := id hA
  obtain ⟨t1, t2, t3, t4, t5, t6, t7⟩ := id b1
  obtain ⟨a1, a2, a3, a4, a5, a6, a7, a8, a9⟩ := ho.1
  have hT := hS.2.1 0 (by decide)
  by_cases d1 : q_in (g_n (a_g A)) a
  · obtain ⟨k, hk, hk2, rfl, hcl⟩ := q_in_k d1
    have hhas := t_has_nI (T := S.2.1 0) t4 a1 hk
    rw [show s_bowl A (nI k) b = _ from if_pos d1, hcl] at h
    by_cases e0 : b = 0
    · rw [if_pos e0] at h
      subst e0
      refine x_aload_n (pc' := 1) rfl rfl rfl ?_
      refine x_get (pc' := 4) rfl rfl rfl (hS.1) rfl ?_
      refine x_iload_n (pc' := 5) rfl rfl rfl ?_
      refine x_cV1i (d := 1) (pc' := 8) rfl rfl sX5_90 gX3_has (hT.1) ⟨Nat.le_of_ble_eq_true rfl, Nat.le_of_ble_eq_true rfl⟩ (Nat.le_of_ble_eq_true rfl) ⟨Nat.le_of_ble_eq_true rfl, Nat.le_of_ble_eq_true rfl⟩ ?_
      refine w_has hT (fun _ => ⟨_, rfl, ?_⟩) (fun g => absurd hhas g)
      refine x_if_ne (tgt := 17) (pc' := 11) rfl rfl rfl (fun _ => ?_) (fun c8 => absurd c8 ((by decide)))
      refine x_iload_n (pc' := 18) rfl rfl rfl ?_
      refine x_tableIn (tgt := 48) rfl (by decide) (by decide) rfl rfl ?_
      refine x_aload_n (pc' := 49) rfl rfl rfl ?_
      refine x_get (pc' := 52) rfl rfl rfl (hS.1) rfl ?_
      refine x_iload_n (pc' := 53) rfl rfl rfl ?_
      refine x_cV1i (d := 2) (pc' := 56) rfl rfl sX5_93 gX3_kindOf (hT.1) ⟨Nat.le_of_ble_eq_true rfl, Nat.le_of_ble_eq_true rfl⟩ (Nat.le_of_ble_eq_true rfl) ⟨Nat.le_of_ble_eq_true rfl, Nat.le_of_ble_eq_true rfl⟩ ?_
      refine w_kindOf hT (fun _ => ⟨_, rfl, ?_⟩) (fun g => absurd hhas g)
      refine x_eqi (show (S.2.1 0).1 (nI k).toNatClampNeg = nI (g_κ (a_g A) k) from by rw [hcl, t1]) ?_
      exact x_ireturn rfl rfl rfl (Nat.le_of_ble_eq_true rfl) (Nat.le_of_ble_eq_true rfl) (h _ _ hS hA x_fr.rf)
    rw [if_neg e0] at h
    by_cases e1 : b = 1
    · rw [if_pos e1] at h
      subst e1
      refine x_aload_n (pc' := 1) rfl rfl rfl ?_
      refine x_get (pc' := 4) rfl rfl rfl (hS.1) rfl ?_
      refine x_iload_n (pc' := 5) rfl rfl rfl ?_
      refine x_cV1i (d := 1) (pc' := 8) rfl rfl sX5_90 gX3_has (hT.1) ⟨Nat.le_of_ble_eq_true rfl, Nat.le_of_ble_eq_true rfl⟩ (Nat.le_of_ble_eq_true rfl) ⟨Nat.le_of_ble_eq_true rfl, Nat.le_of_ble_eq_true rfl⟩ ?_
      refine w_has hT (fun _ => ⟨_, rfl, ?_⟩) (fun g => absurd hhas g)
      refine x_if_ne (tgt := 17) (pc' := 11) rfl rfl rfl (fun _ => ?_) (fun c8 => absurd c8 ((by decide)))
      refine x_iload_n (pc' := 18) rfl rfl rfl ?_
      refine x_tableIn (tgt := 57) rfl (by decide) (by decide) rfl rfl ?_
      refine x_aload_n (pc' := 58) rfl rfl rfl ?_
      refine x_get (pc' := 61) rfl rfl rfl (hS.1) rfl ?_
      refine x_iload_n (pc' := 62) rfl rfl rfl ?_
      refine x_cV1i (d := 2) (pc' := 65) rfl rfl sX5_96 gX3_beansOf (hT.1) ⟨Nat.le_of_ble_eq_true rfl, Nat.le_of_ble_eq_true rfl⟩ (Nat.le_of_ble_eq_true rfl) ⟨Nat.le_of_ble_eq_true rfl, Nat.le_of_ble_eq_true rfl⟩ ?_
      refine w_beansOf hT (fun _ => ⟨_, rfl, ?_⟩) (fun g => absurd hhas g)
      refine x_eqi (show (S.2.1 0).2.1 (nI k).toNatClampNeg = nI (g_β (a_g A) k) from by rw [hcl, t2]) ?_
      exact x_ireturn rfl rfl rfl (Nat.le_of_ble_eq_true rfl) (Nat.le_of_ble_eq_true rfl) (h _ _ hS hA x_fr.rf)
    rw [if_neg e1] at h
    by_cases e2 : b = 2
    · rw [if_pos e2] at h
      subst e2
      refine x_aload_n (pc' := 1) rfl rfl rfl ?_
      refine x_get (pc' := 4) rfl rfl rfl (hS.1) rfl ?_
      refine x_iload_n (pc' := 5) rfl rfl rfl ?_
      refine x_cV1i (d := 1) (pc' := 8) rfl rfl sX5_90 gX3_has (hT.1) ⟨Nat.le_of_ble_eq_true rfl, Nat.le_of_ble_eq_true rfl⟩ (Nat.le_of_ble_eq_true rfl) ⟨Nat.le_of_ble_eq_true rfl, Nat.le_of_ble_eq_true rfl⟩ ?_
      refine w_has hT (fun _ => ⟨_, rfl, ?_⟩) (fun g => absurd hhas g)
      refine x_if_ne (tgt := 17) (pc' := 11) rfl rfl rfl (fun _ => ?_) (fun c8 => absurd c8 ((by decide)))
      refine x_iload_n (pc' := 18) rfl rfl rfl ?_
      refine x_tableIn (tgt := 66) rfl (by decide) (by decide) rfl rfl ?_
      refine x_aload_n (pc' := 67) rfl rfl rfl ?_
      refine x_get (pc' := 70) rfl rfl rfl (hS.1) rfl ?_
      refine x_iload_n (pc' := 71) rfl rfl rfl ?_
      refine x_cV1i (d := 2) (pc' := 74) rfl rfl sX5_99 gX3_soundsFrom (hT.1) ⟨Nat.le_of_ble_eq_true rfl, Nat.le_of_ble_eq_true rfl⟩ (Nat.le_of_ble_eq_true rfl) ⟨Nat.le_of_ble_eq_true rfl, Nat.le_of_ble_eq_true rfl⟩ ?_
      refine w_sounds hT t4 a1 t5 (by omega) t1 a5 hk ⟨_, rfl, ?_⟩
      exact x_ireturn rfl rfl rfl (Nat.le_of_ble_eq_true rfl) (Nat.le_of_ble_eq_true rfl) (h _ _ hS hA x_fr.rf)
    rw [if_neg e2] at h
    by_cases e3 : b = 3
    · rw [if_pos e3] at h
      subst e3
      refine x_aload_n (pc' := 1) rfl rfl rfl ?_
      refine x_get (pc' := 4) rfl rfl rfl (hS.1) rfl ?_
      refine x_iload_n (pc' := 5) rfl rfl rfl ?_
      refine x_cV1i (d := 1) (pc' := 8) rfl rfl sX5_90 gX3_has (hT.1) ⟨Nat.le_of_ble_eq_true rfl, Nat.le_of_ble_eq_true rfl⟩ (Nat.le_of_ble_eq_true rfl) ⟨Nat.le_of_ble_eq_true rfl, Nat.le_of_ble_eq_true rfl⟩ ?_
      refine w_has hT (fun _ => ⟨_, rfl, ?_⟩) (fun g => absurd hhas g)
      refine x_if_ne (tgt := 17) (pc' := 11) rfl rfl rfl (fun _ => ?_) (fun c8 => absurd c8 ((by decide)))
      refine x_iload_n (pc' := 18) rfl rfl rfl ?_
      refine x_tableIn (tgt := 75) rfl (by decide) (by decide) rfl rfl ?_
      refine x_aload_n (pc' := 76) rfl rfl rfl ?_
      refine x_get (pc' := 79) rfl rfl rfl (hS.1) rfl ?_
      refine x_iload_n (pc' := 80) rfl rfl rfl ?_
      refine x_cV1i (d := 2) (pc' := 83) rfl rfl sX5_102 gX3_takes (hT.1) ⟨Nat.le_of_ble_eq_true rfl, Nat.le_of_ble_eq_true rfl⟩ (Nat.le_of_ble_eq_true rfl) ⟨Nat.le_of_ble_eq_true rfl, Nat.le_of_ble_eq_true rfl⟩ ?_
      refine w_takes hT t4 a1 t5 (by omega) t1 t2 a5 (fun i => Nat.le_trans (a6 i) (by decide)) hk (fun d => ⟨_, rfl, ?_⟩) (fun d => ⟨_, rfl, ?_⟩)
      · rw [if_pos d] at h
        refine x_if_eq (tgt := 90) (pc' := 86) rfl rfl rfl (fun c83 => absurd c83 ((by decide))) (fun _ => ?_)
        refine x_iconst (pc' := 87) rfl rfl iconst_1 ?_
        refine x_goto (tgt := 91) rfl rfl ?_
        exact x_ireturn rfl rfl rfl (Nat.le_of_ble_eq_true rfl) (Nat.le_of_ble_eq_true rfl) (h _ _ hS hA x_fr.rf)
      · rw [if_neg d] at h
        refine x_if_eq (tgt := 90) (pc' := 86) rfl rfl rfl (fun _ => ?_) (fun c83 => absurd ((by decide)) c83)
        refine x_iconst (pc' := 91) rfl rfl iconst_0 ?_
        exact x_ireturn rfl rfl rfl (Nat.le_of_ble_eq_true rfl) (Nat.le_of_ble_eq_true rfl) (h _ _ hS hA x_fr.rf)
    rw [if_neg e3] at h
    refine x_aload_n (pc' := 1) rfl rfl rfl ?_
    refine x_get (pc' := 4) rfl rfl rfl (hS.1) rfl ?_
    refine x_iload_n (pc' := 5) rfl rfl rfl ?_
    refine x_cV1i (d := 1) (pc' := 8) rfl rfl sX5_90 gX3_has (hT.1) ⟨Nat.le_of_ble_eq_true rfl, Nat.le_of_ble_eq_true rfl⟩ (Nat.le_of_ble_eq_true rfl) ⟨Nat.le_of_ble_eq_true rfl, Nat.le_of_ble_eq_true rfl⟩ ?_
    refine w_has hT (fun _ => ⟨_, rfl, ?_⟩) (fun g => absurd hhas g)
    refine x_if_ne (tgt := 17) (pc' := 11) rfl rfl rfl (fun _ => ?_) (fun c8 => absurd c8 ((by decide)))
    refine x_iload_n (pc' := 18) rfl rfl rfl ?_
    refine x_tableOut (tgt := 92) rfl (x_tab_out (fun q h1 h2 => (by have h3 : q = 0 ∨ q = 1 ∨ q = 2 ∨ q = 3 := (by omega); rcases h3 with rfl | rfl | rfl | rfl <;> assumption))) rfl ?_
    refine x_aload_n (pc' := 93) rfl rfl rfl ?_
    refine x_bipush (pc' := 95) rfl rfl bipush_m2 ?_
    refine x_cV1i (d := 1) (pc' := 98) rfl rfl sX5_68 gX5_refuse (hS.1) ⟨Nat.le_of_ble_eq_true rfl, Nat.le_of_ble_eq_true rfl⟩ (Nat.le_of_ble_eq_true rfl) ⟨Nat.le_of_ble_eq_true rfl, Nat.le_of_ble_eq_true rfl⟩ ?_
    refine c_refuse (k := 2) (by decide) (by decide) hS hA (fun f1 S1 hS1 hA1 hF1 => ⟨_, rfl, ?_⟩)
    exact x_ireturn rfl rfl rfl (Nat.le_of_ble_eq_true rfl) (Nat.le_of_ble_eq_true rfl) (h _ _ hS1 hA1 hF1)
  · rw [show s_bowl A a b = _ from if_neg d1] at h
    refine x_aload_n (pc' := 1) rfl rfl rfl ?_
    refine x_get (pc' := 4) rfl rfl rfl (hS.1) rfl ?_
    refine x_iload_n (pc' := 5) rfl rfl rfl ?_
    refine x_cV1i (d := 1) (pc' := 8) rfl rfl sX5_90 gX3_has (hT.1) ⟨Nat.le_of_ble_eq_true rfl, Nat.le_of_ble_eq_true rfl⟩ (Nat.le_of_ble_eq_true rfl) ⟨Nat.le_of_ble_eq_true rfl, Nat.le_of_ble_eq_true rfl⟩ ?_
    refine c_has hS hA ho (fun g => absurd g d1) (fun g => ⟨_, rfl, ?_⟩)
    refine x_if_ne (tgt := 17) (pc' := 11) rfl rfl rfl (fun c8 => absurd ((by decide)) c8) (fun _ => ?_)
    refine x_aload_n (pc' := 12) rfl rfl rfl ?_
    refine x_iconst (pc' := 13) rfl rfl iconst_m1 ?_
    refine x_cV1i (d := 1) (pc' := 16) rfl rfl sX5_68 gX5_refuse (hS.1) ⟨Nat.le_of_ble_eq_true rfl, Nat.le_of_ble_eq_true rfl⟩ (Nat.le_of_ble_eq_true rfl) ⟨Nat.le_of_ble_eq_true rfl, Nat.le_of_ble_eq_true rfl⟩ ?_
    refine c_refuse (k := 1) (by decide) (by decide) hS hA (fun f1 S1 hS1 hA1 hF1 => ⟨_, rfl, ?_⟩)
    exact x_ireturn rfl rfl rfl (Nat.le_of_ble_eq_true rfl) (Nat.le_of_ble_eq_true rfl) (h _ _ hS1 hA1 hF1)
theorem c_tryMove {k : Nat} (hS : x_Sys z f S) (hA : c_is S A) (ho : a_ok A) (hk2 : k < 2 ^ 31) (h1 : g_can (a_g A) k → ∀ (f' : x_H) (T' : x_T), x_Sys z f' (S.1, x_ut S.2.1 2 T', S.2.2.1, S.2.2.2) → t_is T' (g_mv (a_g A) k) → T'.2.2.2 5 = nI (g_v (a_g A) k).2.1 → T'.2.2.2 6 = q_lI (g_v (a_g A) k).2.2.2 → T'.2.2.2 7 = nI (g_v (a_g A) k).2.2.1 → T'.2.2.2 8 = (if q_tk1 (g_v (a_g A) k).1 (g_π (a_g A) (g_t (a_g A))) (g_v (a_g A) k).2.2.2 = true then 1 else 0) → x_fr (fun q => 59 ≤ q) f f' → post (some (.int 1)) f') (h0 : ¬ g_can (a_g A) k → post (some (.int 0)) f) : Y E 5 mX5_tryMove [.ref 0, .int (nI k)] z f 0 0 post := by
  refine Y.intro gX5_tryMove (lv := [(0, .ref 0), (1, .int (nI k))]) rfl (Nat.le_of_ble_eq_true rfl) ?_
  obtain ⟨b1, b2, b3, b4, b5, b6, b7, b8⟩ := id hA
  have hT := hS.2.1 0 (by decide)
  refine x_aload_n (pc' := 1) rfl rfl rfl ?_
  refine x_get (pc' := 4) rfl rfl rfl (hS.1) rfl ?_
  refine x_iload_n (pc' := 5) rfl rfl rfl ?_
  refine x_cV1i (d := 2) (pc' := 8) rfl rfl sX5_118 gX3_canMove (hT.1) ⟨Nat.le_of_ble_eq_true rfl, Nat.le_of_ble_eq_true rfl⟩ (Nat.le_of_ble_eq_true rfl) ⟨Nat.le_of_ble_eq_true rfl, Nat.le_of_ble_eq_true rfl⟩ ?_
  refine w_can hT b1 ho.1 (by decide) hk2 (fun d2 => ⟨_, rfl, ?_⟩) (fun d2 => ⟨_, rfl, ?_⟩)
  · refine x_if_ne (tgt := 13) (pc' := 11) rfl rfl rfl (fun _ => ?_) (fun c8 => absurd c8 (by decide))
    refine x_aload_n (pc' := 14) rfl rfl rfl ?_
    refine x_get (pc' := 17) rfl rfl rfl (hS.1) rfl ?_
    refine x_aload_n (pc' := 18) rfl rfl rfl ?_
    refine x_get (pc' := 21) rfl rfl rfl (hS.1) rfl ?_
    refine x_cV1v (d := 1) (pc' := 24) rfl rfl sX5_79 gX3_copyFrom ((hS.2.1 2 (by decide)).1) ⟨Nat.le_of_ble_eq_true rfl, Nat.le_of_ble_eq_true rfl⟩ (Nat.le_of_ble_eq_true rfl) ⟨Nat.le_of_ble_eq_true rfl, Nat.le_of_ble_eq_true rfl⟩ ?_
    refine w_copyFrom (hS.2.1 2 (by decide)) hT (by decide) (fun f1 hT1 hF1 => ⟨rfl, ?_⟩)
    have hS1 := hS.tab 2 (by decide) hT1 hF1
    refine x_aload_n (pc' := 25) rfl rfl rfl ?_
    refine x_get (pc' := 28) rfl rfl rfl (hS1.1) rfl ?_
    refine x_iload_n (pc' := 29) rfl rfl rfl ?_
    refine x_cV1v (d := 4) (pc' := 32) rfl rfl sX5_124 gX3_makeMove (hT1.1) ⟨Nat.le_of_ble_eq_true rfl, Nat.le_of_ble_eq_true rfl⟩ (Nat.le_of_ble_eq_true rfl) ⟨Nat.le_of_ble_eq_true rfl, Nat.le_of_ble_eq_true rfl⟩ ?_
    refine w_move hT1 (x_cp_is b1) ho.1 (by decide) d2.2.1 (fun f2 T2 hT2 g1 g4 g5 g6 g7 g8 hF2 => ⟨rfl, ?_⟩)
    have hS2 := hS.tab 2 (by decide) hT2 (hF1.trans hF2)
    refine x_iconst (pc' := 33) rfl rfl iconst_1 ?_
    exact x_ireturn rfl rfl rfl (Nat.le_of_ble_eq_true rfl) (Nat.le_of_ble_eq_true rfl) (h1 d2 _ T2 hS2 g1 g5 g6 g7 g8 (c_fr0 (j := 2) (by decide) (hF1.trans hF2)))
  · refine x_if_ne (tgt := 13) (pc' := 11) rfl rfl rfl (fun c8 => absurd (by decide) c8) (fun _ => ?_)
    refine x_iconst (pc' := 12) rfl rfl iconst_0 ?_
    exact x_ireturn rfl rfl rfl (Nat.le_of_ble_eq_true rfl) (Nat.le_of_ble_eq_true rfl) (h0 d2)
end CA
