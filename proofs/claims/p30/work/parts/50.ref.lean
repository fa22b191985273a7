section
-- == 50.refA
/-! The reference's calls: those that change the state, those that look at it. -/
section RA
variable {E : x_E} {z : Nat} {f : x_H} {M : x_N} {A : q_A} {post : Option Value → x_H → Prop} {a b : Int32} {g : q_G} {C : Nat}
theorem r_fr0 {k : Nat} {f' : x_H} {c : x_C} (e : f' = x_up f k c) (hk : 59 ≤ k) : x_fr (fun q => q < 59) f f' := (x_fr.rf (P := fun q => q < 59)).up e (Nat.not_lt.mpr hk)
theorem r_in {u v : Int64} {lo hi : Int32} (hu : u = lo.toInt64) (hv : v = hi.toInt64) (h1 : ¬ (a < lo ∨ hi < a) → post (some (.int 1)) f) (h0 : (a < lo ∨ hi < a) → post (some (.int 0)) f) : Y E 1 mX6_in [.long a.toInt64, .long u, .long v] z f 0 0 post := by
  subst hu hv
  refine w_in (fun q => h1 ?_) (fun q => h0 ?_)
  · rw [i64_lt, i64_lt] at q
    exact fun k => k.elim q.1 q.2
  · rw [i64_lt, i64_lt] at q
    by_cases k1 : a < lo
    · exact Or.inl k1
    · by_cases k2 : hi < a
      · exact Or.inr k2
      · exact absurd ⟨k1, k2⟩ q
theorem m_can1 {k : Nat} (hM : x_Mdl z f M) (hg : m_is M g) (hok : g_ok C g) (hC : C ≤ 100) (hk : k < 2 ^ 31) (h1 : g_can g k → post (some (.int 1)) f) (h0 : ¬ g_can g k → post (some (.int 0)) f) : Y E 3 mX6_canMove [.ref 59, .int (nI k)] z f 0 0 post := by
  refine m_can hM hg hok hC (fun b' e d => h1 ?_) (fun d => h0 (d k rfl hk))
  have hb' : b' < 2 ^ 31 := by have := d.2.1; have := hok.1; omega
  rw [(nI_eq hk hb').mp e]
  exact d
theorem r_letter (hM : x_Mdl z f M) (hA : r_is M A) (ho : a_ok A) (h : r_ends z f post (s_letter A a)) : Y E 9 mX6_letter [.ref 59, .int a] z f 0 0 post := by
  refine Y.intro gX6_letter (lv := [(0, .ref 59), (1, .int a)]) rfl (Nat.le_of_ble_eq_true rfl) ?_
  obtain ⟨b1, b2, b3, b4, b5, b6, b7, b8, b9⟩ := id hA
  have hlc := ho.2.2.2.1
  refine x_iload_n (pc' := 1) rfl rfl rfl ?_
  refine x_if_ge (tgt := 11) (pc' := 4) rfl rfl rfl (fun c1 => ?_) (fun c1 => ?_)
  · have d1 : ¬ a < 0 := Int32.not_lt.mpr c1
    refine x_iload_n (pc' := 12) rfl rfl rfl ?_
    refine x_sipush (pc' := 15) rfl rfl sipush_255 ?_
    refine x_icmp_gt (tgt := 27) (pc' := 18) rfl rfl rfl (fun c15 => ?_) (fun c15 => ?_)
    · rw [show s_letter A a = _ from (if_neg d1).trans (if_pos (Or.inl c15))] at h
      refine x_aload_n (pc' := 28) rfl rfl rfl ?_
      refine x_bipush (pc' := 30) rfl rfl bipush_m6 ?_
      refine x_cV1i (d := 1) (pc' := 33) rfl rfl sX6_110 gX6_refuse (hM.1) ⟨Nat.le_of_ble_eq_true rfl, Nat.le_of_ble_eq_true rfl⟩ (Nat.le_of_ble_eq_true rfl) ⟨Nat.le_of_ble_eq_true rfl, Nat.le_of_ble_eq_true rfl⟩ ?_
      refine r_refuse (k := 5) (by decide) (by decide) hM hA (fun f1 M1 hM1 hA1 hF1 => ⟨_, rfl, ?_⟩)
      exact x_ireturn rfl rfl rfl (Nat.le_of_ble_eq_true rfl) (Nat.le_of_ble_eq_true rfl) (h _ _ hM1 hA1 hF1)
    · refine x_aload_n (pc' := 19) rfl rfl rfl ?_
      refine x_get (pc' := 22) rfl rfl rfl (hM.1) rfl ?_
      refine x_eqi b5 ?_
      refine x_bipush (pc' := 24) rfl rfl bipush_96 ?_
      by_cases d3 : a_lc A = 96
      · rw [show s_letter A a = _ from (if_neg d1).trans (if_pos (Or.inr d3))] at h
        refine x_icmp_ne (tgt := 34) (pc' := 27) rfl rfl rfl (fun q => absurd (show nI (a_lc A) = 96 by rw [d3]; rfl) q) (fun _ => ?_)
        refine x_aload_n (pc' := 28) rfl rfl rfl ?_
        refine x_bipush (pc' := 30) rfl rfl bipush_m6 ?_
        refine x_cV1i (d := 1) (pc' := 33) rfl rfl sX6_110 gX6_refuse (hM.1) ⟨Nat.le_of_ble_eq_true rfl, Nat.le_of_ble_eq_true rfl⟩ (Nat.le_of_ble_eq_true rfl) ⟨Nat.le_of_ble_eq_true rfl, Nat.le_of_ble_eq_true rfl⟩ ?_
        refine r_refuse (k := 5) (by decide) (by decide) hM hA (fun f1 M1 hM1 hA1 hF1 => ⟨_, rfl, ?_⟩)
        exact x_ireturn rfl rfl rfl (Nat.le_of_ble_eq_true rfl) (Nat.le_of_ble_eq_true rfl) (h _ _ hM1 hA1 hF1)
      · rw [show s_letter A a = _ from (if_neg d1).trans (if_neg (fun q => q.elim c15 d3))] at h
        refine x_icmp_ne (tgt := 34) (pc' := 27) rfl rfl rfl (fun _ => ?_) (fun q => absurd ((nI_eq (a := a_lc A) (b := 96) (by omega) (by decide)).mp q) d3)
        refine x_aload_n (pc' := 35) rfl rfl rfl ?_
        refine x_get (pc' := 38) rfl rfl rfl (hM.1) rfl ?_
        obtain ⟨ka, hka, rfl⟩ := nI_of d1
        refine x_aload_n (pc' := 39) rfl rfl rfl ?_
        refine x_get (pc' := 42) rfl rfl rfl (hM.1) rfl ?_
        refine x_eqi b5 ?_
        refine x_iload_n (pc' := 43) rfl rfl rfl ?_
        refine x_iastore (pc' := 44) rfl rfl (hM.2.1 4 (by decide)) (vp_in_nI (n := a_lc A) (N := 96) (by omega) (by decide)) (fun f1 e1 => ?_)
        have hM1 := hM.arr 4 (by decide) e1
        have hF1 := r_fr0 e1 (by decide)
        rw [nI_clamp (by omega), b6, q_up_I] at hM1
        refine x_aload_n (pc' := 45) rfl rfl rfl ?_
        refine x_dup (pc' := 46) rfl rfl rfl ?_
        refine x_get (pc' := 49) rfl rfl rfl (hM1.1) rfl ?_
        refine x_eqi b5 ?_
        refine x_iconst (pc' := 50) rfl rfl iconst_1 ?_
        refine x_iadd (pc' := 51) rfl rfl ?_
        refine x_eqi (nI_1 _) ?_
        refine x_put (pc' := 54) rfl rfl rfl (hM1.1) (Nat.le_of_ble_eq_true rfl) rfl rfl rfl rfl (fun f2 e2 => ?_)
        have hM2 := hM1.num 11 e2 (x_mFs11 _ _)
        have hF2 := hF1.up e2 (by decide)
        refine x_aload_n (pc' := 55) rfl rfl rfl ?_
        refine x_get (pc' := 58) rfl rfl rfl (hM2.1) rfl ?_
        exact x_ireturn rfl rfl rfl (Nat.le_of_ble_eq_true rfl) (Nat.le_of_ble_eq_true rfl) (h _ _ hM2 ⟨b1, b2, b3, b4.eq (fun i hi => pk_un (by omega)) rfl rfl, rfl, by show (fun i => nI (q_up (a_lf A) (a_lc A) ka i)) = fun i => nI (q_up (a_lf A) (a_lc A) (nI ka).toNatClampNeg i); rw [nI_clamp hka], b7, b8, b9⟩ hF2)
  · rw [show s_letter A a = _ from if_pos (Int32.not_le.mp c1)] at h
    refine x_aload_n (pc' := 5) rfl rfl rfl ?_
    refine x_bipush (pc' := 7) rfl rfl bipush_m4 ?_
    refine x_cV1i (d := 1) (pc' := 10) rfl rfl sX6_110 gX6_refuse (hM.1) ⟨Nat.le_of_ble_eq_true rfl, Nat.le_of_ble_eq_true rfl⟩ (Nat.le_of_ble_eq_true rfl) ⟨Nat.le_of_ble_eq_true rfl, Nat.le_of_ble_eq_true rfl⟩ ?_
    refine r_refuse (k := 3) (by decide) (by decide) hM hA (fun f1 M1 hM1 hA1 hF1 => ⟨_, rfl, ?_⟩)
    exact x_ireturn rfl rfl rfl (Nat.le_of_ble_eq_true rfl) (Nat.le_of_ble_eq_true rfl) (h _ _ hM1 hA1 hF1)
theorem r_row (hM : x_Mdl z f M) (hA : r_is M A) (ho : a_ok A) (h : r_ends z f post (s_row A a)) : Y E 9 mX6_row [.ref 59, .int a] z f 0 0 post := by
  refine Y.intro gX6_row (lv := [(0, .ref 59), (1, .int a)]) rfl (Nat.le_of_ble_eq_true rfl) ?_
  obtain ⟨b1, b2, b3, b4, b5, b6, b7, b8, b9⟩ := id hA
  have hrc := ho.2.2.2.2.2.1
  refine x_iload_n (pc' := 1) rfl rfl rfl ?_
  refine x_if_ge (tgt := 11) (pc' := 4) rfl rfl rfl (fun c1 => ?_) (fun c1 => ?_)
  · have d1 : ¬ a < 0 := Int32.not_lt.mpr c1
    refine x_iload_n (pc' := 12) rfl rfl rfl ?_
    refine x_bipush (pc' := 14) rfl rfl bipush_9 ?_
    refine x_icmp_gt (tgt := 26) (pc' := 17) rfl rfl rfl (fun c14 => ?_) (fun c14 => ?_)
    · rw [show s_row A a = _ from (if_neg d1).trans (if_pos (Or.inl c14))] at h
      refine x_aload_n (pc' := 27) rfl rfl rfl ?_
      refine x_bipush (pc' := 29) rfl rfl bipush_m6 ?_
      refine x_cV1i (d := 1) (pc' := 32) rfl rfl sX6_110 gX6_refuse (hM.1) ⟨Nat.le_of_ble_eq_true rfl, Nat.le_of_ble_eq_true rfl⟩ (Nat.le_of_ble_eq_true rfl) ⟨Nat.le_of_ble_eq_true rfl, Nat.le_of_ble_eq_true rfl⟩ ?_
      refine r_refuse (k := 5) (by decide) (by decide) hM hA (fun f1 M1 hM1 hA1 hF1 => ⟨_, rfl, ?_⟩)
      exact x_ireturn rfl rfl rfl (Nat.le_of_ble_eq_true rfl) (Nat.le_of_ble_eq_true rfl) (h _ _ hM1 hA1 hF1)
    · refine x_aload_n (pc' := 18) rfl rfl rfl ?_
      refine x_get (pc' := 21) rfl rfl rfl (hM.1) rfl ?_
      refine x_eqi b7 ?_
      refine x_bipush (pc' := 23) rfl rfl bipush_12 ?_
      by_cases d3 : a_rc A = 12
      · rw [show s_row A a = _ from (if_neg d1).trans (if_pos (Or.inr d3))] at h
        refine x_icmp_ne (tgt := 33) (pc' := 26) rfl rfl rfl (fun q => absurd (show nI (a_rc A) = 12 by rw [d3]; rfl) q) (fun _ => ?_)
        refine x_aload_n (pc' := 27) rfl rfl rfl ?_
        refine x_bipush (pc' := 29) rfl rfl bipush_m6 ?_
        refine x_cV1i (d := 1) (pc' := 32) rfl rfl sX6_110 gX6_refuse (hM.1) ⟨Nat.le_of_ble_eq_true rfl, Nat.le_of_ble_eq_true rfl⟩ (Nat.le_of_ble_eq_true rfl) ⟨Nat.le_of_ble_eq_true rfl, Nat.le_of_ble_eq_true rfl⟩ ?_
        refine r_refuse (k := 5) (by decide) (by decide) hM hA (fun f1 M1 hM1 hA1 hF1 => ⟨_, rfl, ?_⟩)
        exact x_ireturn rfl rfl rfl (Nat.le_of_ble_eq_true rfl) (Nat.le_of_ble_eq_true rfl) (h _ _ hM1 hA1 hF1)
      · rw [show s_row A a = _ from (if_neg d1).trans (if_neg (fun q => q.elim c14 d3))] at h
        refine x_icmp_ne (tgt := 33) (pc' := 26) rfl rfl rfl (fun _ => ?_) (fun q => absurd ((nI_eq (a := a_rc A) (b := 12) (by omega) (by decide)).mp q) d3)
        refine x_aload_n (pc' := 34) rfl rfl rfl ?_
        refine x_get (pc' := 37) rfl rfl rfl (hM.1) rfl ?_
        obtain ⟨ka, hka, rfl⟩ := nI_of d1
        refine x_aload_n (pc' := 38) rfl rfl rfl ?_
        refine x_get (pc' := 41) rfl rfl rfl (hM.1) rfl ?_
        refine x_eqi b7 ?_
        refine x_iload_n (pc' := 42) rfl rfl rfl ?_
        refine x_iastore (pc' := 43) rfl rfl (hM.2.1 5 (by decide)) (vp_in_nI (n := a_rc A) (N := 12) (by omega) (by decide)) (fun f1 e1 => ?_)
        have hM1 := hM.arr 5 (by decide) e1
        have hF1 := r_fr0 e1 (by decide)
        rw [nI_clamp (by omega), b8, q_up_I] at hM1
        refine x_aload_n (pc' := 44) rfl rfl rfl ?_
        refine x_dup (pc' := 45) rfl rfl rfl ?_
        refine x_get (pc' := 48) rfl rfl rfl (hM1.1) rfl ?_
        refine x_eqi b7 ?_
        refine x_iconst (pc' := 49) rfl rfl iconst_1 ?_
        refine x_iadd (pc' := 50) rfl rfl ?_
        refine x_eqi (nI_1 _) ?_
        refine x_put (pc' := 53) rfl rfl rfl (hM1.1) (Nat.le_of_ble_eq_true rfl) rfl rfl rfl rfl (fun f2 e2 => ?_)
        have hM2 := hM1.num 13 e2 (x_mFs13 _ _)
        have hF2 := hF1.up e2 (by decide)
        refine x_aload_n (pc' := 54) rfl rfl rfl ?_
        refine x_get (pc' := 57) rfl rfl rfl (hM2.1) rfl ?_
        exact x_ireturn rfl rfl rfl (Nat.le_of_ble_eq_true rfl) (Nat.le_of_ble_eq_true rfl) (h _ _ hM2 ⟨b1, b2, b3, b4.eq (fun i hi => pk_un (by omega)) rfl rfl, b5, b6, rfl, by show (fun i => nI (q_up (a_rf A) (a_rc A) ka i)) = fun i => nI (q_up (a_rf A) (a_rc A) (nI ka).toNatClampNeg i); rw [nI_clamp hka], b9⟩ hF2)
  · rw [show s_row A a = _ from if_pos (Int32.not_le.mp c1)] at h
    refine x_aload_n (pc' := 5) rfl rfl rfl ?_
    refine x_bipush (pc' := 7) rfl rfl bipush_m4 ?_
    refine x_cV1i (d := 1) (pc' := 10) rfl rfl sX6_110 gX6_refuse (hM.1) ⟨Nat.le_of_ble_eq_true rfl, Nat.le_of_ble_eq_true rfl⟩ (Nat.le_of_ble_eq_true rfl) ⟨Nat.le_of_ble_eq_true rfl, Nat.le_of_ble_eq_true rfl⟩ ?_
    refine r_refuse (k := 3) (by decide) (by decide) hM hA (fun f1 M1 hM1 hA1 hF1 => ⟨_, rfl, ?_⟩)
    exact x_ireturn rfl rfl rfl (Nat.le_of_ble_eq_true rfl) (Nat.le_of_ble_eq_true rfl) (h _ _ hM1 hA1 hF1)
theorem r_put (hM : x_Mdl z f M) (hA : r_is M A) (ho : a_ok A) (h : r_ends z f post (s_put A a b)) : Y E 9 mX6_put [.ref 59, .int a, .int b] z f 0 0 post := by
  refine Y.intro gX6_put (lv := [(0, .ref 59), (1, .int a), (2, .int b)]) rfl (Nat.le_of_ble_eq_true rfl) ?_
  obtain ⟨b1, b2, b3, b4, b5, b6, b7, b8, b9⟩ := id hA
  have hn9 := ho.1.1
  refine x_aload_n (pc' := 1) rfl rfl rfl ?_
  refine x_iload_n (pc' := 2) rfl rfl rfl ?_
  refine x_cV1i (d := 2) (pc' := 5) rfl rfl sX6_103 gX6_isBowl (hM.1) ⟨Nat.le_of_ble_eq_true rfl, Nat.le_of_ble_eq_true rfl⟩ (Nat.le_of_ble_eq_true rfl) ⟨Nat.le_of_ble_eq_true rfl, Nat.le_of_ble_eq_true rfl⟩ ?_
  refine r_bowl hM hA ho (fun d1 => ⟨_, rfl, ?_⟩) (fun d1 => ⟨_, rfl, ?_⟩)
  · obtain ⟨k, hk, hk2, rfl, hcl⟩ := q_in_k d1
    refine x_if_ne (tgt := 14) (pc' := 8) rfl rfl rfl (fun _ => ?_) (fun c5 => absurd c5 ((by decide)))
    refine x_iload_n (pc' := 15) rfl rfl rfl ?_
    refine x_if_ge (tgt := 25) (pc' := 18) rfl rfl rfl (fun c15 => ?_) (fun c15 => ?_)
    · have d2 : ¬ b < 0 := Int32.not_lt.mpr c15
      refine x_iload_n (pc' := 26) rfl rfl rfl ?_
      refine x_bipush (pc' := 28) rfl rfl bipush_20 ?_
      refine x_icmp_le (tgt := 38) (pc' := 31) rfl rfl rfl (fun c28 => ?_) (fun c28 => ?_)
      · rw [show s_put A (nI k) b = _ from (if_pos d1).trans ((if_neg d2).trans (if_neg (Int32.not_lt.mpr c28)))] at h
        refine x_aload_n (pc' := 39) rfl rfl rfl ?_
        refine x_get (pc' := 42) rfl rfl rfl (hM.1) rfl ?_
        refine x_iload_n (pc' := 43) rfl rfl rfl ?_
        refine x_iaload (pc' := 44) rfl rfl (hM.2.1 1 (by decide)) (vp_in_nI (n := k) (N := 9) (by omega) (by decide)) ?_
        refine x_eqi (show M.2.1 1 (nI k).toNatClampNeg = nI (g_β (a_g A) (nI k).toNatClampNeg) from by rw [b1.2.1]) ?_
        refine x_istore_n (pc' := 45) (lv' := [(3, _), (0, _), (1, _), (2, _)]) rfl rfl (Nat.le_of_ble_eq_true rfl) rfl ?_
        refine x_aload_n (pc' := 46) rfl rfl rfl ?_
        refine x_get (pc' := 49) rfl rfl rfl (hM.1) rfl ?_
        obtain ⟨kb, hkb, rfl⟩ := nI_of d2
        refine x_iload_n (pc' := 50) rfl rfl rfl ?_
        refine x_iload_n (pc' := 51) rfl rfl rfl ?_
        refine x_iastore (pc' := 52) rfl rfl (hM.2.1 1 (by decide)) (vp_in_nI (n := k) (N := 9) (by omega) (by decide)) (fun f1 e1 => ?_)
        have hM1 := hM.arr 1 (by decide) e1
        have hF1 := r_fr0 e1 (by decide)
        refine x_iload_n (pc' := 53) rfl rfl rfl ?_
        exact x_ireturn rfl rfl rfl (Nat.le_of_ble_eq_true rfl) (Nat.le_of_ble_eq_true rfl) (h _ _ hM1 ⟨⟨b1.1, by show upd (M.2.1 1) (nI k).toNatClampNeg (nI kb) = fun i => nI (q_up (g_β (a_g A)) (nI k).toNatClampNeg (nI kb).toNatClampNeg i); rw [b1.2.1, q_up_I, nI_clamp hkb], b1.2.2⟩, b2, b3, b4.eq (fun _ _ => rfl) rfl rfl, b5, b6, b7, b8, b9⟩ hF1)
      · rw [show s_put A (nI k) b = _ from (if_pos d1).trans ((if_neg d2).trans (if_pos (Int32.not_le.mp c28)))] at h
        refine x_aload_n (pc' := 32) rfl rfl rfl ?_
        refine x_bipush (pc' := 34) rfl rfl bipush_m6 ?_
        refine x_cV1i (d := 1) (pc' := 37) rfl rfl sX6_110 gX6_refuse (hM.1) ⟨Nat.le_of_ble_eq_true rfl, Nat.le_of_ble_eq_true rfl⟩ (Nat.le_of_ble_eq_true rfl) ⟨Nat.le_of_ble_eq_true rfl, Nat.le_of_ble_eq_true rfl⟩ ?_
        refine r_refuse (k := 5) (by decide) (by decide) hM hA (fun f1 M1 hM1 hA1 hF1 => ⟨_, rfl, ?_⟩)
        exact x_ireturn rfl rfl rfl (Nat.le_of_ble_eq_true rfl) (Nat.le_of_ble_eq_true rfl) (h _ _ hM1 hA1 hF1)
    · rw [show s_put A (nI k) b = _ from (if_pos d1).trans (if_pos (Int32.not_le.mp c15))] at h
      refine x_aload_n (pc' := 19) rfl rfl rfl ?_
      refine x_bipush (pc' := 21) rfl rfl bipush_m4 ?_
      refine x_cV1i (d := 1) (pc' := 24) rfl rfl sX6_110 gX6_refuse (hM.1) ⟨Nat.le_of_ble_eq_true rfl, Nat.le_of_ble_eq_true rfl⟩ (Nat.le_of_ble_eq_true rfl) ⟨Nat.le_of_ble_eq_true rfl, Nat.le_of_ble_eq_true rfl⟩ ?_
      refine r_refuse (k := 3) (by decide) (by decide) hM hA (fun f1 M1 hM1 hA1 hF1 => ⟨_, rfl, ?_⟩)
      exact x_ireturn rfl rfl rfl (Nat.le_of_ble_eq_true rfl) (Nat.le_of_ble_eq_true rfl) (h _ _ hM1 hA1 hF1)
  · rw [show s_put A a b = _ from if_neg d1] at h
    refine x_if_ne (tgt := 14) (pc' := 8) rfl rfl rfl (fun c5 => absurd (rfl) c5) (fun _ => ?_)
    refine x_aload_n (pc' := 9) rfl rfl rfl ?_
    refine x_iconst (pc' := 10) rfl rfl iconst_m1 ?_
    refine x_cV1i (d := 1) (pc' := 13) rfl rfl sX6_110 gX6_refuse (hM.1) ⟨Nat.le_of_ble_eq_true rfl, Nat.le_of_ble_eq_true rfl⟩ (Nat.le_of_ble_eq_true rfl) ⟨Nat.le_of_ble_eq_true rfl, Nat.le_of_ble_eq_true rfl⟩ ?_
    refine r_refuse (k := 0) (by decide) (by decide) hM hA (fun f1 M1 hM1 hA1 hF1 => ⟨_, rfl, ?_⟩)
    exact x_ireturn rfl rfl rfl (Nat.le_of_ble_eq_true rfl) (Nat.le_of_ble_eq_true rfl) (h _ _ hM1 hA1 hF1)
theorem r_set (hM : x_Mdl z f M) (hA : r_is M A) (h : r_ends z f post (s_set A a b)) : Y E 9 mX6_set [.ref 59, .int a, .int b] z f 0 0 post := by
  refine Y.intro gX6_set (lv := [(0, .ref 59), (1, .int a), (2, .int b)]) rfl (Nat.le_of_ble_eq_true rfl) ?_
  obtain ⟨b1, b2, b3, b4, b5, b6, b7, b8, b9⟩ := id hA
  obtain ⟨t1, t2, t3, t4, t5, t6, t7⟩ := id b1
  by_cases d0 : a < 0 ∨ 2 < a
  · rw [show s_set A a b = _ from if_pos d0] at h
    refine x_iload_n (pc' := 1) rfl rfl rfl ?_
    refine x_i2l (pc' := 2) rfl rfl ?_
    refine x_lconst (pc' := 3) rfl rfl lconst_0 ?_
    refine x_ldc2 (pc' := 6) rfl rfl rfl ?_
    refine x_cS3i (d := 1) (pc' := 9) rfl rfl sX6_63 gX6_in ⟨Nat.le_of_ble_eq_true rfl, Nat.le_of_ble_eq_true rfl⟩ (Nat.le_of_ble_eq_true rfl) ⟨Nat.le_of_ble_eq_true rfl, Nat.le_of_ble_eq_true rfl⟩ ?_
    refine r_in (lo := 0) (hi := 2) (by decide) (by decide) (fun q => absurd d0 q) (fun _ => ⟨_, rfl, ?_⟩)
    refine x_if_ne (tgt := 19) (pc' := 12) rfl rfl rfl (fun c9 => absurd (rfl) c9) (fun _ => ?_)
    refine x_aload_n (pc' := 13) rfl rfl rfl ?_
    refine x_bipush (pc' := 15) rfl rfl bipush_m2 ?_
    refine x_cV1i (d := 1) (pc' := 18) rfl rfl sX6_110 gX6_refuse (hM.1) ⟨Nat.le_of_ble_eq_true rfl, Nat.le_of_ble_eq_true rfl⟩ (Nat.le_of_ble_eq_true rfl) ⟨Nat.le_of_ble_eq_true rfl, Nat.le_of_ble_eq_true rfl⟩ ?_
    refine r_refuse (k := 1) (by decide) (by decide) hM hA (fun f1 M1 hM1 hA1 hF1 => ⟨_, rfl, ?_⟩)
    exact x_ireturn rfl rfl rfl (Nat.le_of_ble_eq_true rfl) (Nat.le_of_ble_eq_true rfl) (h _ _ hM1 hA1 hF1)
  rcases i3_of d0 with rfl | rfl | rfl
  · rw [s_set0] at h
    refine x_iload_n (pc' := 1) rfl rfl rfl ?_
    refine x_i2l (pc' := 2) rfl rfl ?_
    refine x_lconst (pc' := 3) rfl rfl lconst_0 ?_
    refine x_ldc2 (pc' := 6) rfl rfl rfl ?_
    refine x_cS3i (d := 1) (pc' := 9) rfl rfl sX6_63 gX6_in ⟨Nat.le_of_ble_eq_true rfl, Nat.le_of_ble_eq_true rfl⟩ (Nat.le_of_ble_eq_true rfl) ⟨Nat.le_of_ble_eq_true rfl, Nat.le_of_ble_eq_true rfl⟩ ?_
    refine r_in (lo := 0) (hi := 2) (by decide) (by decide) (fun _ => ⟨_, rfl, ?_⟩) (fun q => absurd q d0)
    refine x_if_ne (tgt := 19) (pc' := 12) rfl rfl rfl (fun _ => ?_) (fun c9 => absurd c9 ((by decide)))
    refine x_iload_n (pc' := 20) rfl rfl rfl ?_
    refine x_iload_n (pc' := 21) rfl rfl rfl ?_
    refine x_if_ne (tgt := 28) (pc' := 24) rfl rfl rfl (fun c21 => absurd (rfl) c21) (fun _ => ?_)
    refine x_iconst (pc' := 25) rfl rfl iconst_1 ?_
    refine x_goto (tgt := 29) rfl rfl ?_
    refine x_icmp_ge (tgt := 39) (pc' := 32) rfl rfl rfl (fun c29 => ?_) (fun c29 => ?_)
    · have d2 : ¬ b < 1 := Int32.not_lt.mpr c29
      rw [if_neg d2] at h
      refine x_iload_n (pc' := 40) rfl rfl rfl ?_
      refine x_iload_n (pc' := 41) rfl rfl rfl ?_
      refine x_if_ne (tgt := 49) (pc' := 44) rfl rfl rfl (fun c41 => absurd (rfl) c41) (fun _ => ?_)
      refine x_bipush (pc' := 46) rfl rfl bipush_9 ?_
      refine x_goto (tgt := 50) rfl rfl ?_
      refine x_icmp_le (tgt := 60) (pc' := 53) rfl rfl rfl (fun c50 => ?_) (fun c50 => ?_)
      · rw [if_neg (Int32.not_lt.mpr c50)] at h
        refine x_iload_n (pc' := 61) rfl rfl rfl ?_
        refine x_if_ne (tgt := 71) (pc' := 64) rfl rfl rfl (fun c61 => absurd (rfl) c61) (fun _ => ?_)
        refine x_aload_n (pc' := 65) rfl rfl rfl ?_
        refine x_get (pc' := 68) rfl rfl rfl (hM.1) rfl ?_
        refine x_eqi t5 ?_
        obtain ⟨kb, hkb, rfl⟩ := nI_of (fun q => d2 (Int32.lt_trans q (by decide)))
        refine x_goto (tgt := 87) rfl rfl ?_
        refine x_istore_n (pc' := 88) (lv' := [(3, _), (0, _), (1, _), (2, _)]) rfl rfl (Nat.le_of_ble_eq_true rfl) rfl ?_
        refine x_iload_n (pc' := 89) rfl rfl rfl ?_
        refine x_if_ne (tgt := 100) (pc' := 92) rfl rfl rfl (fun c89 => absurd (rfl) c89) (fun _ => ?_)
        refine x_aload_n (pc' := 93) rfl rfl rfl ?_
        refine x_iload_n (pc' := 94) rfl rfl rfl ?_
        refine x_put (pc' := 97) rfl rfl rfl (hM.1) (Nat.le_of_ble_eq_true rfl) rfl rfl rfl rfl (fun f1 e1 => ?_)
        have hM1 := hM.num 4 e1 (x_mFs4 _ _)
        have hF1 := r_fr0 e1 (by decide)
        refine x_goto (tgt := 118) rfl rfl ?_
        refine x_iload_n (pc' := 119) rfl rfl rfl ?_
        exact x_ireturn rfl rfl rfl (Nat.le_of_ble_eq_true rfl) (Nat.le_of_ble_eq_true rfl) (h _ _ hM1 ⟨⟨t1, t2, t3, t4, by show nI kb = nI (nI kb).toNatClampNeg; rw [nI_clamp hkb], t6, t7⟩, b2, b3, b4.eq (fun i hi => pk_un (by omega)) rfl rfl, b5, b6, b7, b8, b9⟩ hF1)
      · rw [if_pos (Int32.not_le.mp c50)] at h
        refine x_aload_n (pc' := 54) rfl rfl rfl ?_
        refine x_bipush (pc' := 56) rfl rfl bipush_m6 ?_
        refine x_cV1i (d := 1) (pc' := 59) rfl rfl sX6_110 gX6_refuse (hM.1) ⟨Nat.le_of_ble_eq_true rfl, Nat.le_of_ble_eq_true rfl⟩ (Nat.le_of_ble_eq_true rfl) ⟨Nat.le_of_ble_eq_true rfl, Nat.le_of_ble_eq_true rfl⟩ ?_
        refine r_refuse (k := 5) (by decide) (by decide) hM hA (fun f1 M1 hM1 hA1 hF1 => ⟨_, rfl, ?_⟩)
        exact x_ireturn rfl rfl rfl (Nat.le_of_ble_eq_true rfl) (Nat.le_of_ble_eq_true rfl) (h _ _ hM1 hA1 hF1)
    · rw [if_pos (Int32.not_le.mp c29)] at h
      refine x_aload_n (pc' := 33) rfl rfl rfl ?_
      refine x_bipush (pc' := 35) rfl rfl bipush_m4 ?_
      refine x_cV1i (d := 1) (pc' := 38) rfl rfl sX6_110 gX6_refuse (hM.1) ⟨Nat.le_of_ble_eq_true rfl, Nat.le_of_ble_eq_true rfl⟩ (Nat.le_of_ble_eq_true rfl) ⟨Nat.le_of_ble_eq_true rfl, Nat.le_of_ble_eq_true rfl⟩ ?_
      refine r_refuse (k := 3) (by decide) (by decide) hM hA (fun f1 M1 hM1 hA1 hF1 => ⟨_, rfl, ?_⟩)
      exact x_ireturn rfl rfl rfl (Nat.le_of_ble_eq_true rfl) (Nat.le_of_ble_eq_true rfl) (h _ _ hM1 hA1 hF1)
  · rw [s_set1] at h
    refine x_iload_n (pc' := 1) rfl rfl rfl ?_
    refine x_i2l (pc' := 2) rfl rfl ?_
    refine x_lconst (pc' := 3) rfl rfl lconst_0 ?_
    refine x_ldc2 (pc' := 6) rfl rfl rfl ?_
    refine x_cS3i (d := 1) (pc' := 9) rfl rfl sX6_63 gX6_in ⟨Nat.le_of_ble_eq_true rfl, Nat.le_of_ble_eq_true rfl⟩ (Nat.le_of_ble_eq_true rfl) ⟨Nat.le_of_ble_eq_true rfl, Nat.le_of_ble_eq_true rfl⟩ ?_
    refine r_in (lo := 0) (hi := 2) (by decide) (by decide) (fun _ => ⟨_, rfl, ?_⟩) (fun q => absurd q d0)
    refine x_if_ne (tgt := 19) (pc' := 12) rfl rfl rfl (fun _ => ?_) (fun c9 => absurd c9 ((by decide)))
    refine x_iload_n (pc' := 20) rfl rfl rfl ?_
    refine x_iload_n (pc' := 21) rfl rfl rfl ?_
    refine x_if_ne (tgt := 28) (pc' := 24) rfl rfl rfl (fun _ => ?_) (fun c21 => absurd c21 ((by decide)))
    refine x_iconst (pc' := 29) rfl rfl iconst_0 ?_
    refine x_icmp_ge (tgt := 39) (pc' := 32) rfl rfl rfl (fun c29 => ?_) (fun c29 => ?_)
    · have d2 : ¬ b < 0 := Int32.not_lt.mpr c29
      rw [if_neg d2] at h
      refine x_iload_n (pc' := 40) rfl rfl rfl ?_
      refine x_iload_n (pc' := 41) rfl rfl rfl ?_
      refine x_if_ne (tgt := 49) (pc' := 44) rfl rfl rfl (fun _ => ?_) (fun c41 => absurd c41 ((by decide)))
      refine x_iconst (pc' := 50) rfl rfl iconst_1 ?_
      refine x_icmp_le (tgt := 60) (pc' := 53) rfl rfl rfl (fun c50 => ?_) (fun c50 => ?_)
      · rw [if_neg (Int32.not_lt.mpr c50)] at h
        refine x_iload_n (pc' := 61) rfl rfl rfl ?_
        refine x_if_ne (tgt := 71) (pc' := 64) rfl rfl rfl (fun _ => ?_) (fun c61 => absurd c61 ((by decide)))
        refine x_iload_n (pc' := 72) rfl rfl rfl ?_
        refine x_iconst (pc' := 73) rfl rfl iconst_1 ?_
        refine x_icmp_ne (tgt := 83) (pc' := 76) rfl rfl rfl (fun c73 => absurd (rfl) c73) (fun _ => ?_)
        refine x_aload_n (pc' := 77) rfl rfl rfl ?_
        refine x_get (pc' := 80) rfl rfl rfl (hM.1) rfl ?_
        refine x_eqi t6 ?_
        obtain ⟨kb, hkb, rfl⟩ := nI_of d2
        refine x_goto (tgt := 87) rfl rfl ?_
        refine x_istore_n (pc' := 88) (lv' := [(3, _), (0, _), (1, _), (2, _)]) rfl rfl (Nat.le_of_ble_eq_true rfl) rfl ?_
        refine x_iload_n (pc' := 89) rfl rfl rfl ?_
        refine x_if_ne (tgt := 100) (pc' := 92) rfl rfl rfl (fun _ => ?_) (fun c89 => absurd c89 ((by decide)))
        refine x_iload_n (pc' := 101) rfl rfl rfl ?_
        refine x_iconst (pc' := 102) rfl rfl iconst_1 ?_
        refine x_icmp_ne (tgt := 113) (pc' := 105) rfl rfl rfl (fun c102 => absurd (rfl) c102) (fun _ => ?_)
        refine x_aload_n (pc' := 106) rfl rfl rfl ?_
        refine x_iload_n (pc' := 107) rfl rfl rfl ?_
        refine x_put (pc' := 110) rfl rfl rfl (hM.1) (Nat.le_of_ble_eq_true rfl) rfl rfl rfl rfl (fun f1 e1 => ?_)
        have hM1 := hM.num 5 e1 (x_mFs5 _ _)
        have hF1 := r_fr0 e1 (by decide)
        refine x_goto (tgt := 118) rfl rfl ?_
        refine x_iload_n (pc' := 119) rfl rfl rfl ?_
        exact x_ireturn rfl rfl rfl (Nat.le_of_ble_eq_true rfl) (Nat.le_of_ble_eq_true rfl) (h _ _ hM1 ⟨⟨t1, t2, t3, t4, t5, by show nI kb = nI (nI kb).toNatClampNeg; rw [nI_clamp hkb], t7⟩, b2, b3, b4.eq (fun i hi => pk_un (by omega)) rfl rfl, b5, b6, b7, b8, b9⟩ hF1)
      · rw [if_pos (Int32.not_le.mp c50)] at h
        refine x_aload_n (pc' := 54) rfl rfl rfl ?_
        refine x_bipush (pc' := 56) rfl rfl bipush_m6 ?_
        refine x_cV1i (d := 1) (pc' := 59) rfl rfl sX6_110 gX6_refuse (hM.1) ⟨Nat.le_of_ble_eq_true rfl, Nat.le_of_ble_eq_true rfl⟩ (Nat.le_of_ble_eq_true rfl) ⟨Nat.le_of_ble_eq_true rfl, Nat.le_of_ble_eq_true rfl⟩ ?_
        refine r_refuse (k := 5) (by decide) (by decide) hM hA (fun f1 M1 hM1 hA1 hF1 => ⟨_, rfl, ?_⟩)
        exact x_ireturn rfl rfl rfl (Nat.le_of_ble_eq_true rfl) (Nat.le_of_ble_eq_true rfl) (h _ _ hM1 hA1 hF1)
    · rw [if_pos (Int32.not_le.mp c29)] at h
      refine x_aload_n (pc' := 33) rfl rfl rfl ?_
      refine x_bipush (pc' := 35) rfl rfl bipush_m4 ?_
      refine x_cV1i (d := 1) (pc' := 38) rfl rfl sX6_110 gX6_refuse (hM.1) ⟨Nat.le_of_ble_eq_true rfl, Nat.le_of_ble_eq_true rfl⟩ (Nat.le_of_ble_eq_true rfl) ⟨Nat.le_of_ble_eq_true rfl, Nat.le_of_ble_eq_true rfl⟩ ?_
      refine r_refuse (k := 3) (by decide) (by decide) hM hA (fun f1 M1 hM1 hA1 hF1 => ⟨_, rfl, ?_⟩)
      exact x_ireturn rfl rfl rfl (Nat.le_of_ble_eq_true rfl) (Nat.le_of_ble_eq_true rfl) (h _ _ hM1 hA1 hF1)
  · rw [s_set2] at h
    refine x_iload_n (pc' := 1) rfl rfl rfl ?_
    refine x_i2l (pc' := 2) rfl rfl ?_
    refine x_lconst (pc' := 3) rfl rfl lconst_0 ?_
    refine x_ldc2 (pc' := 6) rfl rfl rfl ?_
    refine x_cS3i (d := 1) (pc' := 9) rfl rfl sX6_63 gX6_in ⟨Nat.le_of_ble_eq_true rfl, Nat.le_of_ble_eq_true rfl⟩ (Nat.le_of_ble_eq_true rfl) ⟨Nat.le_of_ble_eq_true rfl, Nat.le_of_ble_eq_true rfl⟩ ?_
    refine r_in (lo := 0) (hi := 2) (by decide) (by decide) (fun _ => ⟨_, rfl, ?_⟩) (fun q => absurd q d0)
    refine x_if_ne (tgt := 19) (pc' := 12) rfl rfl rfl (fun _ => ?_) (fun c9 => absurd c9 ((by decide)))
    refine x_iload_n (pc' := 20) rfl rfl rfl ?_
    refine x_iload_n (pc' := 21) rfl rfl rfl ?_
    refine x_if_ne (tgt := 28) (pc' := 24) rfl rfl rfl (fun _ => ?_) (fun c21 => absurd c21 ((by decide)))
    refine x_iconst (pc' := 29) rfl rfl iconst_0 ?_
    refine x_icmp_ge (tgt := 39) (pc' := 32) rfl rfl rfl (fun c29 => ?_) (fun c29 => ?_)
    · have d2 : ¬ b < 0 := Int32.not_lt.mpr c29
      rw [if_neg d2] at h
      refine x_iload_n (pc' := 40) rfl rfl rfl ?_
      refine x_iload_n (pc' := 41) rfl rfl rfl ?_
      refine x_if_ne (tgt := 49) (pc' := 44) rfl rfl rfl (fun _ => ?_) (fun c41 => absurd c41 ((by decide)))
      refine x_iconst (pc' := 50) rfl rfl iconst_1 ?_
      refine x_icmp_le (tgt := 60) (pc' := 53) rfl rfl rfl (fun c50 => ?_) (fun c50 => ?_)
      · rw [if_neg (Int32.not_lt.mpr c50)] at h
        refine x_iload_n (pc' := 61) rfl rfl rfl ?_
        refine x_if_ne (tgt := 71) (pc' := 64) rfl rfl rfl (fun _ => ?_) (fun c61 => absurd c61 ((by decide)))
        refine x_iload_n (pc' := 72) rfl rfl rfl ?_
        refine x_iconst (pc' := 73) rfl rfl iconst_1 ?_
        refine x_icmp_ne (tgt := 83) (pc' := 76) rfl rfl rfl (fun _ => ?_) (fun c73 => absurd c73 ((by decide)))
        refine x_aload_n (pc' := 84) rfl rfl rfl ?_
        refine x_get (pc' := 87) rfl rfl rfl (hM.1) rfl ?_
        refine x_eqi t7 ?_
        obtain ⟨kb, hkb, rfl⟩ := nI_of d2
        refine x_istore_n (pc' := 88) (lv' := [(3, _), (0, _), (1, _), (2, _)]) rfl rfl (Nat.le_of_ble_eq_true rfl) rfl ?_
        refine x_iload_n (pc' := 89) rfl rfl rfl ?_
        refine x_if_ne (tgt := 100) (pc' := 92) rfl rfl rfl (fun _ => ?_) (fun c89 => absurd c89 ((by decide)))
        refine x_iload_n (pc' := 101) rfl rfl rfl ?_
        refine x_iconst (pc' := 102) rfl rfl iconst_1 ?_
        refine x_icmp_ne (tgt := 113) (pc' := 105) rfl rfl rfl (fun _ => ?_) (fun c102 => absurd c102 ((by decide)))
        refine x_aload_n (pc' := 114) rfl rfl rfl ?_
        refine x_iload_n (pc' := 115) rfl rfl rfl ?_
        refine x_put (pc' := 118) rfl rfl rfl (hM.1) (Nat.le_of_ble_eq_true rfl) rfl rfl rfl rfl (fun f1 e1 => ?_)
        have hM1 := hM.num 7 e1 (x_mFs7 _ _)
        have hF1 := r_fr0 e1 (by decide)
        refine x_iload_n (pc' := 119) rfl rfl rfl ?_
        exact x_ireturn rfl rfl rfl (Nat.le_of_ble_eq_true rfl) (Nat.le_of_ble_eq_true rfl) (h _ _ hM1 ⟨⟨t1, t2, t3, t4, t5, t6, by show nI kb = nI (nI kb).toNatClampNeg; rw [nI_clamp hkb]⟩, b2, b3, b4.eq (fun i hi => pk_un (by omega)) rfl rfl, b5, b6, b7, b8, b9⟩ hF1)
      · rw [if_pos (Int32.not_le.mp c50)] at h
        refine x_aload_n (pc' := 54) rfl rfl rfl ?_
        refine x_bipush (pc' := 56) rfl rfl bipush_m6 ?_
        refine x_cV1i (d := 1) (pc' := 59) rfl rfl sX6_110 gX6_refuse (hM.1) ⟨Nat.le_of_ble_eq_true rfl, Nat.le_of_ble_eq_true rfl⟩ (Nat.le_of_ble_eq_true rfl) ⟨Nat.le_of_ble_eq_true rfl, Nat.le_of_ble_eq_true rfl⟩ ?_
        refine r_refuse (k := 5) (by decide) (by decide) hM hA (fun f1 M1 hM1 hA1 hF1 => ⟨_, rfl, ?_⟩)
        exact x_ireturn rfl rfl rfl (Nat.le_of_ble_eq_true rfl) (Nat.le_of_ble_eq_true rfl) (h _ _ hM1 hA1 hF1)
    · rw [if_pos (Int32.not_le.mp c29)] at h
      refine x_aload_n (pc' := 33) rfl rfl rfl ?_
      refine x_bipush (pc' := 35) rfl rfl bipush_m4 ?_
      refine x_cV1i (d := 1) (pc' := 38) rfl rfl sX6_110 gX6_refuse (hM.1) ⟨Nat.le_of_ble_eq_true rfl, Nat.le_of_ble_eq_true rfl⟩ (Nat.le_of_ble_eq_true rfl) ⟨Nat.le_of_ble_eq_true rfl, Nat.le_of_ble_eq_true rfl⟩ ?_
      refine r_refuse (k := 3) (by decide) (by decide) hM hA (fun f1 M1 hM1 hA1 hF1 => ⟨_, rfl, ?_⟩)
      exact x_ireturn rfl rfl rfl (Nat.le_of_ble_eq_true rfl) (Nat.le_of_ble_eq_true rfl) (h _ _ hM1 hA1 hF1)
theorem r_bowlQ (hM : x_Mdl z f M) (hA : r_is M A) (ho : a_ok A) (h : r_ends z f post (s_bowl A a b)) : Y E 9 mX6_bowl [.ref 59, .int a, .int b] z f 0 0 post := by
  refine Y.intro gX6_bowl (lv := [(0, .ref 59), (1, .int a), (2, .int b)]) rfl (Nat.le_of_ble_eq_true rfl) ?_
  obtain ⟨t1, t2, t3, t4, t5, t6, t7⟩ := id hA.1
  obtain ⟨o1, o2, o3, o4, o5, o6, o7, o8, o9⟩ := id ho.1
  by_cases d1 : q_in (g_n (a_g A)) a
  · obtain ⟨k, hk, hk2, rfl, hcl⟩ := q_in_k d1
    have hv9 : vp_in (nI k) 9 := vp_in_nI (by omega) (by decide)
    have hκ5 := o5 k
    have eκ : M.2.1 0 (nI k).toNatClampNeg = nI (g_κ (a_g A) k) := by rw [hcl, t1]
    rw [show s_bowl A (nI k) b = _ from if_pos d1, hcl] at h
    by_cases e9 : b < 0 ∨ 3 < b
    · have hb0 : ¬ b = 0 := fun q => by rw [q] at e9; exact absurd e9 (by decide)
      have hb1 : ¬ b = 1 := fun q => by rw [q] at e9; exact absurd e9 (by decide)
      have hb2 : ¬ b = 2 := fun q => by rw [q] at e9; exact absurd e9 (by decide)
      have hb3 : ¬ b = 3 := fun q => by rw [q] at e9; exact absurd e9 (by decide)
      rw [if_neg hb0, if_neg hb1, if_neg hb2, if_neg hb3] at h
      refine x_aload_n (pc' := 1) rfl rfl rfl ?_
      refine x_iload_n (pc' := 2) rfl rfl rfl ?_
      refine x_cV1i (d := 2) (pc' := 5) rfl rfl sX6_103 gX6_isBowl (hM.1) ⟨Nat.le_of_ble_eq_true rfl, Nat.le_of_ble_eq_true rfl⟩ (Nat.le_of_ble_eq_true rfl) ⟨Nat.le_of_ble_eq_true rfl, Nat.le_of_ble_eq_true rfl⟩ ?_
      refine r_bowl hM hA ho (fun _ => ⟨_, rfl, ?_⟩) (fun q => absurd d1 q)
      refine x_if_ne (tgt := 14) (pc' := 8) rfl rfl rfl (fun _ => ?_) (fun c5 => absurd c5 ((by decide)))
      refine x_iload_n (pc' := 15) rfl rfl rfl ?_
      refine x_i2l (pc' := 16) rfl rfl ?_
      refine x_lconst (pc' := 17) rfl rfl lconst_0 ?_
      refine x_ldc2 (pc' := 20) rfl rfl rfl ?_
      refine x_cS3i (d := 1) (pc' := 23) rfl rfl sX6_63 gX6_in ⟨Nat.le_of_ble_eq_true rfl, Nat.le_of_ble_eq_true rfl⟩ (Nat.le_of_ble_eq_true rfl) ⟨Nat.le_of_ble_eq_true rfl, Nat.le_of_ble_eq_true rfl⟩ ?_
      refine r_in (lo := 0) (hi := 3) (by decide) (by decide) (fun q => absurd e9 q) (fun _ => ⟨_, rfl, ?_⟩)
      refine x_if_ne (tgt := 33) (pc' := 26) rfl rfl rfl (fun c23 => absurd (rfl) c23) (fun _ => ?_)
      refine x_aload_n (pc' := 27) rfl rfl rfl ?_
      refine x_bipush (pc' := 29) rfl rfl bipush_m2 ?_
      refine x_cV1i (d := 1) (pc' := 32) rfl rfl sX6_110 gX6_refuse (hM.1) ⟨Nat.le_of_ble_eq_true rfl, Nat.le_of_ble_eq_true rfl⟩ (Nat.le_of_ble_eq_true rfl) ⟨Nat.le_of_ble_eq_true rfl, Nat.le_of_ble_eq_true rfl⟩ ?_
      refine r_refuse (k := 1) (by decide) (by decide) hM hA (fun f1 M1 hM1 hA1 hF1 => ⟨_, rfl, ?_⟩)
      exact x_ireturn rfl rfl rfl (Nat.le_of_ble_eq_true rfl) (Nat.le_of_ble_eq_true rfl) (h _ _ hM1 hA1 hF1)
    obtain ⟨kb, hkb, rfl⟩ := nI_of2 (n := 3) (M := 3) rfl (fun q => e9 (Or.inl q)) (Int32.not_lt.mp (fun q => e9 (Or.inr q)))
    have hkb4 : kb = 0 ∨ kb = 1 ∨ kb = 2 ∨ kb = 3 := by omega
    have hq : q_from (g_κ (a_g A) k) (g_f (a_g A)) ≤ 100 := by
      unfold q_from
      repeat' split
      all_goals omega
    refine x_aload_n (pc' := 1) rfl rfl rfl ?_
    refine x_iload_n (pc' := 2) rfl rfl rfl ?_
    refine x_cV1i (d := 2) (pc' := 5) rfl rfl sX6_103 gX6_isBowl (hM.1) ⟨Nat.le_of_ble_eq_true rfl, Nat.le_of_ble_eq_true rfl⟩ (Nat.le_of_ble_eq_true rfl) ⟨Nat.le_of_ble_eq_true rfl, Nat.le_of_ble_eq_true rfl⟩ ?_
    refine r_bowl hM hA ho (fun _ => ⟨_, rfl, ?_⟩) (fun q => absurd d1 q)
    refine x_if_ne (tgt := 14) (pc' := 8) rfl rfl rfl (fun _ => ?_) (fun c5 => absurd c5 ((by decide)))
    refine x_iload_n (pc' := 15) rfl rfl rfl ?_
    refine x_i2l (pc' := 16) rfl rfl ?_
    refine x_lconst (pc' := 17) rfl rfl lconst_0 ?_
    refine x_ldc2 (pc' := 20) rfl rfl rfl ?_
    refine x_cS3i (d := 1) (pc' := 23) rfl rfl sX6_63 gX6_in ⟨Nat.le_of_ble_eq_true rfl, Nat.le_of_ble_eq_true rfl⟩ (Nat.le_of_ble_eq_true rfl) ⟨Nat.le_of_ble_eq_true rfl, Nat.le_of_ble_eq_true rfl⟩ ?_
    refine r_in (lo := 0) (hi := 3) (by decide) (by decide) (fun _ => ⟨_, rfl, ?_⟩) (fun q => absurd q e9)
    refine x_if_ne (tgt := 33) (pc' := 26) rfl rfl rfl (fun _ => ?_) (fun c23 => absurd c23 ((by decide)))
    refine x_aload_n (pc' := 34) rfl rfl rfl ?_
    refine x_aload_n (pc' := 35) rfl rfl rfl ?_
    refine x_get (pc' := 38) rfl rfl rfl (hM.1) rfl ?_
    refine x_iload_n (pc' := 39) rfl rfl rfl ?_
    refine x_iaload (pc' := 40) rfl rfl (hM.2.1 0 (by decide)) (hv9) ?_
    refine x_eqi eκ ?_
    refine x_cV1i (d := 1) (pc' := 43) rfl rfl sX6_93 gX6_soundsFrom (hM.1) ⟨Nat.le_of_ble_eq_true rfl, Nat.le_of_ble_eq_true rfl⟩ (Nat.le_of_ble_eq_true rfl) ⟨Nat.le_of_ble_eq_true rfl, Nat.le_of_ble_eq_true rfl⟩ ?_
    refine m_sounds1 hM t5 (by omega) hκ5 ⟨_, rfl, ?_⟩
    refine x_istore_n (pc' := 44) (lv' := [(3, _), (0, _), (1, _), (2, _)]) rfl rfl (Nat.le_of_ble_eq_true rfl) rfl ?_
    rcases hkb4 with rfl | rfl | rfl | rfl
    · rw [if_pos (by decide)] at h
      refine x_iload_n (pc' := 45) rfl rfl rfl ?_
      refine x_if_ne (tgt := 57) (pc' := 48) rfl rfl rfl (fun c45 => absurd (rfl) c45) (fun _ => ?_)
      refine x_aload_n (pc' := 49) rfl rfl rfl ?_
      refine x_get (pc' := 52) rfl rfl rfl (hM.1) rfl ?_
      refine x_iload_n (pc' := 53) rfl rfl rfl ?_
      refine x_iaload (pc' := 54) rfl rfl (hM.2.1 0 (by decide)) (hv9) ?_
      refine x_eqi eκ ?_
      refine x_goto (tgt := 105) rfl rfl ?_
      exact x_ireturn rfl rfl rfl (Nat.le_of_ble_eq_true rfl) (Nat.le_of_ble_eq_true rfl) (h _ _ hM hA x_fr.rf)
    · rw [if_neg (by decide), if_pos (by decide)] at h
      refine x_iload_n (pc' := 45) rfl rfl rfl ?_
      refine x_if_ne (tgt := 57) (pc' := 48) rfl rfl rfl (fun _ => ?_) (fun c45 => absurd c45 ((by decide)))
      refine x_iload_n (pc' := 58) rfl rfl rfl ?_
      refine x_iconst (pc' := 59) rfl rfl iconst_1 ?_
      refine x_icmp_ne (tgt := 71) (pc' := 62) rfl rfl rfl (fun c59 => absurd (rfl) c59) (fun _ => ?_)
      refine x_aload_n (pc' := 63) rfl rfl rfl ?_
      refine x_get (pc' := 66) rfl rfl rfl (hM.1) rfl ?_
      refine x_iload_n (pc' := 67) rfl rfl rfl ?_
      refine x_iaload (pc' := 68) rfl rfl (hM.2.1 1 (by decide)) (hv9) ?_
      refine x_eqi (show M.2.1 1 (nI k).toNatClampNeg = nI (g_β (a_g A) k) from by rw [hcl, t2]) ?_
      refine x_goto (tgt := 105) rfl rfl ?_
      exact x_ireturn rfl rfl rfl (Nat.le_of_ble_eq_true rfl) (Nat.le_of_ble_eq_true rfl) (h _ _ hM hA x_fr.rf)
    · rw [if_neg (by decide), if_neg (by decide), if_pos (by decide)] at h
      refine x_iload_n (pc' := 45) rfl rfl rfl ?_
      refine x_if_ne (tgt := 57) (pc' := 48) rfl rfl rfl (fun _ => ?_) (fun c45 => absurd c45 ((by decide)))
      refine x_iload_n (pc' := 58) rfl rfl rfl ?_
      refine x_iconst (pc' := 59) rfl rfl iconst_1 ?_
      refine x_icmp_ne (tgt := 71) (pc' := 62) rfl rfl rfl (fun _ => ?_) (fun c59 => absurd c59 ((by decide)))
      refine x_iload_n (pc' := 72) rfl rfl rfl ?_
      refine x_iconst (pc' := 73) rfl rfl iconst_2 ?_
      refine x_icmp_ne (tgt := 92) (pc' := 76) rfl rfl rfl (fun c73 => absurd (rfl) c73) (fun _ => ?_)
      refine x_iload_n (pc' := 77) rfl rfl rfl ?_
      refine x_sipush (pc' := 80) rfl rfl sipush_1000 ?_
      by_cases d2 : g_κ (a_g A) k = 2
      · rw [if_pos d2] at h
        rw [if_pos d2]
        refine x_icmp_ne (tgt := 88) (pc' := 83) rfl rfl rfl (fun q => absurd rfl q) (fun _ => ?_)
        refine x_bipush (pc' := 85) rfl rfl bipush_m9 ?_
        refine x_goto (tgt := 105) rfl rfl ?_
        exact x_ireturn rfl rfl rfl (Nat.le_of_ble_eq_true rfl) (Nat.le_of_ble_eq_true rfl) (h _ _ hM hA x_fr.rf)
      · rw [if_neg d2] at h
        rw [if_neg d2]
        refine x_icmp_ne (tgt := 88) (pc' := 83) rfl rfl rfl (fun _ => ?_) (fun q => absurd ((nI_eq (b := 1000) (by omega) (by decide)).mp q) (by omega))
        refine x_iload_n (pc' := 89) rfl rfl rfl ?_
        refine x_goto (tgt := 105) rfl rfl ?_
        exact x_ireturn rfl rfl rfl (Nat.le_of_ble_eq_true rfl) (Nat.le_of_ble_eq_true rfl) (h _ _ hM hA x_fr.rf)
    · rw [if_neg (by decide), if_neg (by decide), if_neg (by decide), if_pos (by decide)] at h
      refine x_iload_n (pc' := 45) rfl rfl rfl ?_
      refine x_if_ne (tgt := 57) (pc' := 48) rfl rfl rfl (fun _ => ?_) (fun c45 => absurd c45 ((by decide)))
      refine x_iload_n (pc' := 58) rfl rfl rfl ?_
      refine x_iconst (pc' := 59) rfl rfl iconst_1 ?_
      refine x_icmp_ne (tgt := 71) (pc' := 62) rfl rfl rfl (fun _ => ?_) (fun c59 => absurd c59 ((by decide)))
      refine x_iload_n (pc' := 72) rfl rfl rfl ?_
      refine x_iconst (pc' := 73) rfl rfl iconst_2 ?_
      refine x_icmp_ne (tgt := 92) (pc' := 76) rfl rfl rfl (fun _ => ?_) (fun c73 => absurd c73 ((by decide)))
      refine x_aload_n (pc' := 93) rfl rfl rfl ?_
      refine x_iload_n (pc' := 94) rfl rfl rfl ?_
      refine x_cV1i (d := 1) (pc' := 97) rfl rfl sX6_74 gX6_takes (hM.1) ⟨Nat.le_of_ble_eq_true rfl, Nat.le_of_ble_eq_true rfl⟩ (Nat.le_of_ble_eq_true rfl) ⟨Nat.le_of_ble_eq_true rfl, Nat.le_of_ble_eq_true rfl⟩ ?_
      refine m_takes (n := g_n (a_g A)) hM o1 t5 (by omega) t1 t2 o5 (fun i => Nat.le_trans (o6 i) (by decide)) hk (fun d4 => ⟨_, rfl, ?_⟩) (fun d4 => ⟨_, rfl, ?_⟩)
      · rw [if_pos d4] at h
        refine x_if_eq (tgt := 104) (pc' := 100) rfl rfl rfl (fun c97 => absurd c97 ((by decide))) (fun _ => ?_)
        refine x_iconst (pc' := 101) rfl rfl iconst_1 ?_
        refine x_goto (tgt := 105) rfl rfl ?_
        exact x_ireturn rfl rfl rfl (Nat.le_of_ble_eq_true rfl) (Nat.le_of_ble_eq_true rfl) (h _ _ hM hA x_fr.rf)
      · rw [if_neg d4] at h
        refine x_if_eq (tgt := 104) (pc' := 100) rfl rfl rfl (fun _ => ?_) (fun c97 => absurd (rfl) c97)
        refine x_iconst (pc' := 105) rfl rfl iconst_0 ?_
        exact x_ireturn rfl rfl rfl (Nat.le_of_ble_eq_true rfl) (Nat.le_of_ble_eq_true rfl) (h _ _ hM hA x_fr.rf)
  · rw [show s_bowl A a b = _ from if_neg d1] at h
    refine x_aload_n (pc' := 1) rfl rfl rfl ?_
    refine x_iload_n (pc' := 2) rfl rfl rfl ?_
    refine x_cV1i (d := 2) (pc' := 5) rfl rfl sX6_103 gX6_isBowl (hM.1) ⟨Nat.le_of_ble_eq_true rfl, Nat.le_of_ble_eq_true rfl⟩ (Nat.le_of_ble_eq_true rfl) ⟨Nat.le_of_ble_eq_true rfl, Nat.le_of_ble_eq_true rfl⟩ ?_
    refine r_bowl hM hA ho (fun q => absurd q d1) (fun _ => ⟨_, rfl, ?_⟩)
    refine x_if_ne (tgt := 14) (pc' := 8) rfl rfl rfl (fun c5 => absurd (rfl) c5) (fun _ => ?_)
    refine x_aload_n (pc' := 9) rfl rfl rfl ?_
    refine x_iconst (pc' := 10) rfl rfl iconst_m1 ?_
    refine x_cV1i (d := 1) (pc' := 13) rfl rfl sX6_110 gX6_refuse (hM.1) ⟨Nat.le_of_ble_eq_true rfl, Nat.le_of_ble_eq_true rfl⟩ (Nat.le_of_ble_eq_true rfl) ⟨Nat.le_of_ble_eq_true rfl, Nat.le_of_ble_eq_true rfl⟩ ?_
    refine r_refuse (k := 0) (by decide) (by decide) hM hA (fun f1 M1 hM1 hA1 hF1 => ⟨_, rfl, ?_⟩)
    exact x_ireturn rfl rfl rfl (Nat.le_of_ble_eq_true rfl) (Nat.le_of_ble_eq_true rfl) (h _ _ hM1 hA1 hF1)
theorem r_move (hM : x_Mdl z f M) (hA : r_is M A) (ho : a_ok A) (h : r_ends z f post (s_move A a)) : Y E 9 mX6_move [.ref 59, .int a] z f 0 0 post := by
  refine Y.intro gX6_move (lv := [(0, .ref 59), (1, .int a)]) rfl (Nat.le_of_ble_eq_true rfl) ?_
  obtain ⟨b1, b2, b3, b4, b5, b6, b7, b8, b9⟩ := id hA
  have hmv := ho.2.1
  by_cases d1 : q_in (g_n (a_g A)) a
  · obtain ⟨k, hk, hk2, rfl, hcl⟩ := q_in_k d1
    rw [show s_move A (nI k) = _ from if_pos d1, hcl] at h
    refine x_aload_n (pc' := 1) rfl rfl rfl ?_
    refine x_iload_n (pc' := 2) rfl rfl rfl ?_
    refine x_cV1i (d := 2) (pc' := 5) rfl rfl sX6_103 gX6_isBowl (hM.1) ⟨Nat.le_of_ble_eq_true rfl, Nat.le_of_ble_eq_true rfl⟩ (Nat.le_of_ble_eq_true rfl) ⟨Nat.le_of_ble_eq_true rfl, Nat.le_of_ble_eq_true rfl⟩ ?_
    refine r_bowl hM hA ho (fun _ => ⟨_, rfl, ?_⟩) (fun q => absurd d1 q)
    refine x_if_ne (tgt := 14) (pc' := 8) rfl rfl rfl (fun _ => ?_) (fun c5 => absurd c5 ((by decide)))
    refine x_aload_n (pc' := 15) rfl rfl rfl ?_
    refine x_iload_n (pc' := 16) rfl rfl rfl ?_
    refine x_cV1i (d := 3) (pc' := 19) rfl rfl sX6_135 gX6_canMove (hM.1) ⟨Nat.le_of_ble_eq_true rfl, Nat.le_of_ble_eq_true rfl⟩ (Nat.le_of_ble_eq_true rfl) ⟨Nat.le_of_ble_eq_true rfl, Nat.le_of_ble_eq_true rfl⟩ ?_
    refine m_can1 hM b1 ho.1 (by decide) hk2 (fun d2 => ⟨_, rfl, ?_⟩) (fun d2 => ⟨_, rfl, ?_⟩)
    · rw [if_pos ⟨d2.1, d2.2.2⟩] at h
      refine x_if_ne (tgt := 29) (pc' := 22) rfl rfl rfl (fun _ => ?_) (fun c19 => absurd c19 ((by decide)))
      refine x_aload_n (pc' := 30) rfl rfl rfl ?_
      refine x_get (pc' := 33) rfl rfl rfl (hM.1) rfl ?_
      refine x_eqi b2 ?_
      refine x_sipush (pc' := 36) rfl rfl sipush_999 ?_
      by_cases d3 : a_mv A = 999
      · rw [if_pos d3] at h
        refine x_icmp_ne (tgt := 46) (pc' := 39) rfl rfl rfl (fun q => absurd (show nI (a_mv A) = 999 by rw [d3]; rfl) q) (fun _ => ?_)
        refine x_aload_n (pc' := 40) rfl rfl rfl ?_
        refine x_bipush (pc' := 42) rfl rfl bipush_m6 ?_
        refine x_cV1i (d := 1) (pc' := 45) rfl rfl sX6_110 gX6_refuse (hM.1) ⟨Nat.le_of_ble_eq_true rfl, Nat.le_of_ble_eq_true rfl⟩ (Nat.le_of_ble_eq_true rfl) ⟨Nat.le_of_ble_eq_true rfl, Nat.le_of_ble_eq_true rfl⟩ ?_
        refine r_refuse (k := 5) (by decide) (by decide) hM hA (fun f1 M1 hM1 hA1 hF1 => ⟨_, rfl, ?_⟩)
        exact x_ireturn rfl rfl rfl (Nat.le_of_ble_eq_true rfl) (Nat.le_of_ble_eq_true rfl) (h _ _ hM1 hA1 hF1)
      · rw [if_neg d3] at h
        refine x_icmp_ne (tgt := 46) (pc' := 39) rfl rfl rfl (fun _ => ?_) (fun q => absurd ((nI_eq (a := a_mv A) (b := 999) (by omega) (by decide)).mp q) d3)
        refine x_aload_n (pc' := 47) rfl rfl rfl ?_
        refine x_iload_n (pc' := 48) rfl rfl rfl ?_
        refine x_cV1v (d := 4) (pc' := 51) rfl rfl sX6_141 gX6_moves (hM.1) ⟨Nat.le_of_ble_eq_true rfl, Nat.le_of_ble_eq_true rfl⟩ (Nat.le_of_ble_eq_true rfl) ⟨Nat.le_of_ble_eq_true rfl, Nat.le_of_ble_eq_true rfl⟩ ?_
        refine m_mv hM b1 ho.1 (by decide) d2 b3 (fun f1 M1 hM1 g1 k1 e14 e15 e16 e17 hF1 => ⟨rfl, ?_⟩)
        refine x_aload_n (pc' := 52) rfl rfl rfl ?_
        refine x_dup (pc' := 53) rfl rfl rfl ?_
        refine x_get (pc' := 56) rfl rfl rfl (hM1.1) rfl ?_
        refine x_eqi ((k1.2.2 8 (by decide) (by decide) (by decide) (by decide) (by decide)).trans b2) ?_
        refine x_iconst (pc' := 57) rfl rfl iconst_1 ?_
        refine x_iadd (pc' := 58) rfl rfl ?_
        refine x_eqi (nI_1 _) ?_
        refine x_put (pc' := 61) rfl rfl rfl (hM1.1) (Nat.le_of_ble_eq_true rfl) rfl rfl rfl rfl (fun f1 e1 => ?_)
        have hM2 := hM1.num 8 e1 (x_mFs8 _ _)
        have hF2 := hF1.up e1 (by decide)
        refine x_aload_n (pc' := 62) rfl rfl rfl ?_
        refine x_get (pc' := 65) rfl rfl rfl (hM2.1) rfl ?_
        refine x_eqi e17 ?_
        obtain ⟨c1, c2, c3, c4, c5, c6, c7, c8, c9⟩ := hA.sc (r_sc.rf) b1
        refine x_ireturn rfl rfl rfl (Nat.le_refl _) (Nat.le_refl _) (h _ _ hM2 ⟨g1, rfl, (k1.sc.1 18 (by omega)).trans b3, ?_, (k1.sc.1 11 (by omega)).trans b5, (k1.sc.2 4 (by omega)).trans b6, (k1.sc.1 13 (by omega)).trans b7, (k1.sc.2 5 (by omega)).trans b8, (k1.sc.2 3 (by omega)).trans b9⟩ hF2)
        exact b4.eq (fun i hi => (pk_un (by omega)).trans (k1.sc.1 i (by omega))) (k1.sc.2 9 (by omega)) (k1.sc.2 10 (by omega))
    · rw [if_neg (fun q => d2 ⟨q.1, hk, q.2⟩)] at h
      refine x_if_ne (tgt := 29) (pc' := 22) rfl rfl rfl (fun c19 => absurd (rfl) c19) (fun _ => ?_)
      refine x_aload_n (pc' := 23) rfl rfl rfl ?_
      refine x_bipush (pc' := 25) rfl rfl bipush_m3 ?_
      refine x_cV1i (d := 1) (pc' := 28) rfl rfl sX6_110 gX6_refuse (hM.1) ⟨Nat.le_of_ble_eq_true rfl, Nat.le_of_ble_eq_true rfl⟩ (Nat.le_of_ble_eq_true rfl) ⟨Nat.le_of_ble_eq_true rfl, Nat.le_of_ble_eq_true rfl⟩ ?_
      refine r_refuse (k := 2) (by decide) (by decide) hM hA (fun f1 M1 hM1 hA1 hF1 => ⟨_, rfl, ?_⟩)
      exact x_ireturn rfl rfl rfl (Nat.le_of_ble_eq_true rfl) (Nat.le_of_ble_eq_true rfl) (h _ _ hM1 hA1 hF1)
  · rw [show s_move A a = _ from if_neg d1] at h
    refine x_aload_n (pc' := 1) rfl rfl rfl ?_
    refine x_iload_n (pc' := 2) rfl rfl rfl ?_
    refine x_cV1i (d := 2) (pc' := 5) rfl rfl sX6_103 gX6_isBowl (hM.1) ⟨Nat.le_of_ble_eq_true rfl, Nat.le_of_ble_eq_true rfl⟩ (Nat.le_of_ble_eq_true rfl) ⟨Nat.le_of_ble_eq_true rfl, Nat.le_of_ble_eq_true rfl⟩ ?_
    refine r_bowl hM hA ho (fun q => absurd q d1) (fun _ => ⟨_, rfl, ?_⟩)
    refine x_if_ne (tgt := 14) (pc' := 8) rfl rfl rfl (fun c5 => absurd (rfl) c5) (fun _ => ?_)
    refine x_aload_n (pc' := 9) rfl rfl rfl ?_
    refine x_iconst (pc' := 10) rfl rfl iconst_m1 ?_
    refine x_cV1i (d := 1) (pc' := 13) rfl rfl sX6_110 gX6_refuse (hM.1) ⟨Nat.le_of_ble_eq_true rfl, Nat.le_of_ble_eq_true rfl⟩ (Nat.le_of_ble_eq_true rfl) ⟨Nat.le_of_ble_eq_true rfl, Nat.le_of_ble_eq_true rfl⟩ ?_
    refine r_refuse (k := 0) (by decide) (by decide) hM hA (fun f1 M1 hM1 hA1 hF1 => ⟨_, rfl, ?_⟩)
    exact x_ireturn rfl rfl rfl (Nat.le_of_ble_eq_true rfl) (Nat.le_of_ble_eq_true rfl) (h _ _ hM1 hA1 hF1)
end RA
end
section
-- == 51.refB
/-! The reference's calls that make moves in mind. -/
def s_lost (A : q_A) : q_A × Int32 := (A, if (∀ i, i < g_n (a_g A) → ¬ g_can (a_g A) i) then 1 else 0)
section RB
variable {E : x_E} {z : Nat} {f : x_H} {S : x_S} {M : x_N} {A : q_A} {post : Option Value → x_H → Prop} {a b : Int32} {g : q_G} {C : Nat}
theorem m_ly.kp {M M' : x_N} (h1 : ∀ i, i ≠ 7 → M'.1 i = M.1 i) (h2 : ∀ j, j ≠ 1 → j ≠ 2 → M'.2.1 j = M.2.1 j) (h3 : M'.2.2 = M.2.2) : m_kp M M' := ⟨h2, h3, fun i i1 _ _ _ _ => h1 i i1⟩
theorem m_kp.no18 {M M' : x_N} (h : m_kp M M') : M'.1 18 = M.1 18 := h.2.2 18 (by decide) (by decide) (by decide) (by decide) (by decide)
theorem m_allL {n : Nat} {β : Nat → Nat} (hM : x_Mdl z f M) (hn : M.1 3 = nI n) (hn9 : n ≤ 9) (hβ : M.2.1 1 = fun i => nI (β i)) (h : post (some (.int (nI (q_sum β n)))) f) : ∀ (k i : Nat), i + k = n → X E (x_rm 1 0 0) mX6_all (x_QM E z 0 0 post) 4 [(2, .int (nI i)), (1, .int (nI (q_sum β i))), (0, .ref 59)] [] z f 0 0 := by
  intro k
  induction k with
  | zero =>
    intro i hi
    have hi2 : i = n := by omega
    subst hi2
    refine x_iload_n (pc' := 5) rfl rfl rfl ?_
    refine x_aload_n (pc' := 6) rfl rfl rfl ?_
    refine x_get (pc' := 9) rfl rfl rfl (hM.1) rfl ?_
    refine x_eqi hn ?_
    refine x_icmp_ge (tgt := 27) (pc' := 12) rfl rfl rfl (fun _ => ?_) (fun c9 => absurd ((Int32.le_refl _)) c9)
    refine x_iload_n (pc' := 28) rfl rfl rfl ?_
    exact x_ireturn rfl rfl rfl (Nat.le_of_ble_eq_true rfl) (Nat.le_of_ble_eq_true rfl) (h)
  | succ k ih =>
    intro i hi
    refine x_iload_n (pc' := 5) rfl rfl rfl ?_
    refine x_aload_n (pc' := 6) rfl rfl rfl ?_
    refine x_get (pc' := 9) rfl rfl rfl (hM.1) rfl ?_
    refine x_eqi hn ?_
    refine x_icmp_ge (tgt := 27) (pc' := 12) rfl rfl rfl (fun c9 => absurd c9 ((nI_ge (by omega) (by omega)))) (fun _ => ?_)
    refine x_iload_n (pc' := 13) rfl rfl rfl ?_
    refine x_aload_n (pc' := 14) rfl rfl rfl ?_
    refine x_get (pc' := 17) rfl rfl rfl (hM.1) rfl ?_
    refine x_iload_n (pc' := 18) rfl rfl rfl ?_
    refine x_iaload (pc' := 19) rfl rfl (hM.2.1 1 (by decide)) (vp_in_nI (n := i) (N := 9) (by omega) (by decide)) ?_
    refine x_eqi (show M.2.1 1 (nI i).toNatClampNeg = nI (β i) from by rw [nI_clamp (by omega), hβ]) ?_
    refine x_iadd (pc' := 20) rfl rfl ?_
    refine x_eqi (nI_add _ _) ?_
    refine x_istore_n (pc' := 21) (lv' := [(1, _), (2, _), (0, _)]) rfl rfl (Nat.le_of_ble_eq_true rfl) rfl ?_
    refine x_iinc (pc' := 24) (lv' := [(2, _), (1, _), (0, _)]) rfl rfl (Nat.le_of_ble_eq_true rfl) rfl (nI_1 i) rfl ?_
    refine x_goto (tgt := 4) rfl rfl ?_
    exact ih (i + 1) (by omega)
theorem m_all {n : Nat} {β : Nat → Nat} (hM : x_Mdl z f M) (hn : M.1 3 = nI n) (hn9 : n ≤ 9) (hβ : M.2.1 1 = fun i => nI (β i)) (h : post (some (.int (nI (q_sum β n)))) f) : Y E 1 mX6_all [.ref 59] z f 0 0 post := by
  refine Y.intro gX6_all (lv := [(0, .ref 59)]) rfl (Nat.le_of_ble_eq_true rfl) ?_
  refine x_iconst (pc' := 1) rfl rfl iconst_0 ?_
  refine x_istore_n (pc' := 2) (lv' := [(1, _), (0, _)]) rfl rfl (Nat.le_of_ble_eq_true rfl) rfl ?_
  refine x_iconst (pc' := 3) rfl rfl iconst_0 ?_
  refine x_istore_n (pc' := 4) (lv' := [(2, _), (1, _), (0, _)]) rfl rfl (Nat.le_of_ble_eq_true rfl) rfl ?_
  exact m_allL hM hn hn9 hβ h n 0 (by omega)
theorem r_by (hM : x_Mdl z f M) (hA : r_is M A) (ho : a_ok A) (h : r_ends z f post (s_by A a b)) : Y E 9 mX6_by [.ref 59, .int a, .int b] z f 0 0 post := by
  refine Y.intro gX6_by (lv := [(0, .ref 59), (1, .int a), (2, .int b)]) rfl (Nat.le_of_ble_eq_true rfl) ?_
  obtain ⟨b1, b2, b3, b4, b5, b6, b7, b8, b9⟩ := id hA
  by_cases d1 : q_in (g_n (a_g A)) a
  · obtain ⟨k, hk, hk2, rfl, hcl⟩ := q_in_k d1
    rw [show s_by A (nI k) b = _ from if_pos d1, hcl] at h
    by_cases e9 : b < 0 ∨ 4 < b
    · rw [if_pos e9] at h
      refine x_aload_n (pc' := 1) rfl rfl rfl ?_
      refine x_iload_n (pc' := 2) rfl rfl rfl ?_
      refine x_cV1i (d := 2) (pc' := 5) rfl rfl sX6_103 gX6_isBowl (hM.1) ⟨Nat.le_of_ble_eq_true rfl, Nat.le_of_ble_eq_true rfl⟩ (Nat.le_of_ble_eq_true rfl) ⟨Nat.le_of_ble_eq_true rfl, Nat.le_of_ble_eq_true rfl⟩ ?_
      refine r_bowl hM hA ho (fun _ => ⟨_, rfl, ?_⟩) (fun q => absurd d1 q)
      refine x_if_ne (tgt := 14) (pc' := 8) rfl rfl rfl (fun _ => ?_) (fun c5 => absurd c5 ((by decide)))
      refine x_iload_n (pc' := 15) rfl rfl rfl ?_
      refine x_i2l (pc' := 16) rfl rfl ?_
      refine x_lconst (pc' := 17) rfl rfl lconst_0 ?_
      refine x_ldc2 (pc' := 20) rfl rfl rfl ?_
      refine x_cS3i (d := 1) (pc' := 23) rfl rfl sX6_63 gX6_in ⟨Nat.le_of_ble_eq_true rfl, Nat.le_of_ble_eq_true rfl⟩ (Nat.le_of_ble_eq_true rfl) ⟨Nat.le_of_ble_eq_true rfl, Nat.le_of_ble_eq_true rfl⟩ ?_
      refine r_in (lo := 0) (hi := 4) (by decide) (by decide) (fun q => absurd e9 q) (fun _ => ⟨_, rfl, ?_⟩)
      refine x_if_ne (tgt := 33) (pc' := 26) rfl rfl rfl (fun c23 => absurd (rfl) c23) (fun _ => ?_)
      refine x_aload_n (pc' := 27) rfl rfl rfl ?_
      refine x_bipush (pc' := 29) rfl rfl bipush_m2 ?_
      refine x_cV1i (d := 1) (pc' := 32) rfl rfl sX6_110 gX6_refuse (hM.1) ⟨Nat.le_of_ble_eq_true rfl, Nat.le_of_ble_eq_true rfl⟩ (Nat.le_of_ble_eq_true rfl) ⟨Nat.le_of_ble_eq_true rfl, Nat.le_of_ble_eq_true rfl⟩ ?_
      refine r_refuse (k := 1) (by decide) (by decide) hM hA (fun f1 M1 hM1 hA1 hF1 => ⟨_, rfl, ?_⟩)
      exact x_ireturn rfl rfl rfl (Nat.le_of_ble_eq_true rfl) (Nat.le_of_ble_eq_true rfl) (h _ _ hM1 hA1 hF1)
    rw [if_neg e9] at h
    obtain ⟨kb, hkb, rfl⟩ := nI_of2 (n := 4) (M := 4) rfl (fun q => e9 (Or.inl q)) (Int32.not_lt.mp (fun q => e9 (Or.inr q)))
    have hkb5 : kb = 0 ∨ kb = 1 ∨ kb = 2 ∨ kb = 3 ∨ kb = 4 := by omega
    refine x_aload_n (pc' := 1) rfl rfl rfl ?_
    refine x_iload_n (pc' := 2) rfl rfl rfl ?_
    refine x_cV1i (d := 2) (pc' := 5) rfl rfl sX6_103 gX6_isBowl (hM.1) ⟨Nat.le_of_ble_eq_true rfl, Nat.le_of_ble_eq_true rfl⟩ (Nat.le_of_ble_eq_true rfl) ⟨Nat.le_of_ble_eq_true rfl, Nat.le_of_ble_eq_true rfl⟩ ?_
    refine r_bowl hM hA ho (fun _ => ⟨_, rfl, ?_⟩) (fun q => absurd d1 q)
    refine x_if_ne (tgt := 14) (pc' := 8) rfl rfl rfl (fun _ => ?_) (fun c5 => absurd c5 ((by decide)))
    refine x_iload_n (pc' := 15) rfl rfl rfl ?_
    refine x_i2l (pc' := 16) rfl rfl ?_
    refine x_lconst (pc' := 17) rfl rfl lconst_0 ?_
    refine x_ldc2 (pc' := 20) rfl rfl rfl ?_
    refine x_cS3i (d := 1) (pc' := 23) rfl rfl sX6_63 gX6_in ⟨Nat.le_of_ble_eq_true rfl, Nat.le_of_ble_eq_true rfl⟩ (Nat.le_of_ble_eq_true rfl) ⟨Nat.le_of_ble_eq_true rfl, Nat.le_of_ble_eq_true rfl⟩ ?_
    refine r_in (lo := 0) (hi := 4) (by decide) (by decide) (fun _ => ⟨_, rfl, ?_⟩) (fun q => absurd q e9)
    refine x_if_ne (tgt := 33) (pc' := 26) rfl rfl rfl (fun _ => ?_) (fun c23 => absurd c23 ((by decide)))
    refine x_aload_n (pc' := 34) rfl rfl rfl ?_
    refine x_iload_n (pc' := 35) rfl rfl rfl ?_
    refine x_cV1i (d := 3) (pc' := 38) rfl rfl sX6_135 gX6_canMove (hM.1) ⟨Nat.le_of_ble_eq_true rfl, Nat.le_of_ble_eq_true rfl⟩ (Nat.le_of_ble_eq_true rfl) ⟨Nat.le_of_ble_eq_true rfl, Nat.le_of_ble_eq_true rfl⟩ ?_
    refine m_can1 hM b1 ho.1 (by decide) hk2 (fun d2 => ⟨_, rfl, ?_⟩) (fun d2 => ⟨_, rfl, ?_⟩)
    · rw [if_pos ⟨d2.1, d2.2.2⟩] at h
      refine x_if_ne (tgt := 48) (pc' := 41) rfl rfl rfl (fun _ => ?_) (fun c38 => absurd c38 ((by decide)))
      refine x_aload_n (pc' := 49) rfl rfl rfl ?_
      refine x_iconst (pc' := 50) rfl rfl iconst_0 ?_
      refine x_cV1v (d := 1) (pc' := 53) rfl rfl sX6_154 gX6_keeps (hM.1) ⟨Nat.le_of_ble_eq_true rfl, Nat.le_of_ble_eq_true rfl⟩ (Nat.le_of_ble_eq_true rfl) ⟨Nat.le_of_ble_eq_true rfl, Nat.le_of_ble_eq_true rfl⟩ ?_
      refine m_keeps (l := 0) (by decide) hM b1 (fun f1 M1 hM1 g1 k1 fr1 hF1 => ⟨rfl, ?_⟩)
      refine x_aload_n (pc' := 54) rfl rfl rfl ?_
      refine x_iload_n (pc' := 55) rfl rfl rfl ?_
      refine x_cV1v (d := 4) (pc' := 58) rfl rfl sX6_141 gX6_moves (hM1.1) ⟨Nat.le_of_ble_eq_true rfl, Nat.le_of_ble_eq_true rfl⟩ (Nat.le_of_ble_eq_true rfl) ⟨Nat.le_of_ble_eq_true rfl, Nat.le_of_ble_eq_true rfl⟩ ?_
      refine m_mv hM1 g1 ho.1 (by decide) d2 (by rw [k1.1]; exact b3) (fun f2 M2 hM2 g2 k2 e14 e15 e16 e17 hF2 => ⟨rfl, ?_⟩)
      refine x_aload_n (pc' := 59) rfl rfl rfl ?_
      refine x_cV0i (d := 1) (pc' := 62) rfl rfl sX6_169 gX6_all (hM2.1) ⟨Nat.le_of_ble_eq_true rfl, Nat.le_of_ble_eq_true rfl⟩ (Nat.le_of_ble_eq_true rfl) ⟨Nat.le_of_ble_eq_true rfl, Nat.le_of_ble_eq_true rfl⟩ ?_
      refine m_all hM2 g2.2.2.2.1 ho.1.1 g2.2.1 ⟨_, rfl, ?_⟩
      refine x_istore_n (pc' := 63) (lv' := [(3, _), (0, _), (1, _), (2, _)]) rfl rfl (Nat.le_of_ble_eq_true rfl) rfl ?_
      refine x_aload_n (pc' := 64) rfl rfl rfl ?_
      refine x_iconst (pc' := 65) rfl rfl iconst_0 ?_
      refine x_cV1v (d := 1) (pc' := 68) rfl rfl sX6_160 gX6_lays (hM2.1) ⟨Nat.le_of_ble_eq_true rfl, Nat.le_of_ble_eq_true rfl⟩ (Nat.le_of_ble_eq_true rfl) ⟨Nat.le_of_ble_eq_true rfl, Nat.le_of_ble_eq_true rfl⟩ ?_
      refine m_lays (l := 0) (g := a_g A) (by decide) hM2 g2 (fr1.eq (k2.1 6 (by decide) (by decide))) ho.1 (g_mv_ok ho.1 (by decide) (by decide) d2.2.1) (fun f3 M3 hM3 g3 e1 e2 e3 hF3 => ⟨rfl, ?_⟩)
      have hA3 : r_is M3 A := hA.sc ((k1.sc.trans k2.sc).trans (m_ly.sc e1 e2)) g3
      have hF := (hF1.trans hF2).trans hF3
      rcases hkb5 with rfl | rfl | rfl | rfl | rfl
      · rw [if_pos (by decide)] at h
        refine x_iload_n (pc' := 69) rfl rfl rfl ?_
        refine x_if_ne (tgt := 79) (pc' := 72) rfl rfl rfl (fun c69 => absurd (rfl) c69) (fun _ => ?_)
        refine x_aload_n (pc' := 73) rfl rfl rfl ?_
        refine x_get (pc' := 76) rfl rfl rfl (hM3.1) rfl ?_
        refine x_eqi ((e1 14 (by decide)).trans e14) ?_
        refine x_goto (tgt := 116) rfl rfl ?_
        exact x_ireturn rfl rfl rfl (Nat.le_of_ble_eq_true rfl) (Nat.le_of_ble_eq_true rfl) (h _ _ hM3 hA3 hF)
      · rw [if_neg (by decide), if_pos (by decide)] at h
        refine x_iload_n (pc' := 69) rfl rfl rfl ?_
        refine x_if_ne (tgt := 79) (pc' := 72) rfl rfl rfl (fun _ => ?_) (fun c69 => absurd c69 ((by decide)))
        refine x_iload_n (pc' := 80) rfl rfl rfl ?_
        refine x_iconst (pc' := 81) rfl rfl iconst_1 ?_
        refine x_icmp_ne (tgt := 91) (pc' := 84) rfl rfl rfl (fun c81 => absurd (rfl) c81) (fun _ => ?_)
        refine x_aload_n (pc' := 85) rfl rfl rfl ?_
        refine x_get (pc' := 88) rfl rfl rfl (hM3.1) rfl ?_
        refine x_eqi ((e1 15 (by decide)).trans e15) ?_
        refine x_goto (tgt := 116) rfl rfl ?_
        exact x_ireturn rfl rfl rfl (Nat.le_of_ble_eq_true rfl) (Nat.le_of_ble_eq_true rfl) (h _ _ hM3 hA3 hF)
      · rw [if_neg (by decide), if_neg (by decide), if_pos (by decide)] at h
        refine x_iload_n (pc' := 69) rfl rfl rfl ?_
        refine x_if_ne (tgt := 79) (pc' := 72) rfl rfl rfl (fun _ => ?_) (fun c69 => absurd c69 ((by decide)))
        refine x_iload_n (pc' := 80) rfl rfl rfl ?_
        refine x_iconst (pc' := 81) rfl rfl iconst_1 ?_
        refine x_icmp_ne (tgt := 91) (pc' := 84) rfl rfl rfl (fun _ => ?_) (fun c81 => absurd c81 ((by decide)))
        refine x_iload_n (pc' := 92) rfl rfl rfl ?_
        refine x_iconst (pc' := 93) rfl rfl iconst_2 ?_
        refine x_icmp_ne (tgt := 103) (pc' := 96) rfl rfl rfl (fun c93 => absurd (rfl) c93) (fun _ => ?_)
        refine x_aload_n (pc' := 97) rfl rfl rfl ?_
        refine x_get (pc' := 100) rfl rfl rfl (hM3.1) rfl ?_
        refine x_eqi ((e1 16 (by decide)).trans e16) ?_
        refine x_goto (tgt := 116) rfl rfl ?_
        exact x_ireturn rfl rfl rfl (Nat.le_of_ble_eq_true rfl) (Nat.le_of_ble_eq_true rfl) (h _ _ hM3 hA3 hF)
      · rw [if_neg (by decide), if_neg (by decide), if_neg (by decide), if_pos (by decide)] at h
        refine x_iload_n (pc' := 69) rfl rfl rfl ?_
        refine x_if_ne (tgt := 79) (pc' := 72) rfl rfl rfl (fun _ => ?_) (fun c69 => absurd c69 ((by decide)))
        refine x_iload_n (pc' := 80) rfl rfl rfl ?_
        refine x_iconst (pc' := 81) rfl rfl iconst_1 ?_
        refine x_icmp_ne (tgt := 91) (pc' := 84) rfl rfl rfl (fun _ => ?_) (fun c81 => absurd c81 ((by decide)))
        refine x_iload_n (pc' := 92) rfl rfl rfl ?_
        refine x_iconst (pc' := 93) rfl rfl iconst_2 ?_
        refine x_icmp_ne (tgt := 103) (pc' := 96) rfl rfl rfl (fun _ => ?_) (fun c93 => absurd c93 ((by decide)))
        refine x_iload_n (pc' := 104) rfl rfl rfl ?_
        refine x_iconst (pc' := 105) rfl rfl iconst_3 ?_
        refine x_icmp_ne (tgt := 115) (pc' := 108) rfl rfl rfl (fun c105 => absurd (rfl) c105) (fun _ => ?_)
        refine x_aload_n (pc' := 109) rfl rfl rfl ?_
        refine x_get (pc' := 112) rfl rfl rfl (hM3.1) rfl ?_
        refine x_eqi ((e1 17 (by decide)).trans e17) ?_
        refine x_goto (tgt := 116) rfl rfl ?_
        exact x_ireturn rfl rfl rfl (Nat.le_of_ble_eq_true rfl) (Nat.le_of_ble_eq_true rfl) (h _ _ hM3 hA3 hF)
      · rw [if_neg (by decide), if_neg (by decide), if_neg (by decide), if_neg (by decide)] at h
        refine x_iload_n (pc' := 69) rfl rfl rfl ?_
        refine x_if_ne (tgt := 79) (pc' := 72) rfl rfl rfl (fun _ => ?_) (fun c69 => absurd c69 ((by decide)))
        refine x_iload_n (pc' := 80) rfl rfl rfl ?_
        refine x_iconst (pc' := 81) rfl rfl iconst_1 ?_
        refine x_icmp_ne (tgt := 91) (pc' := 84) rfl rfl rfl (fun _ => ?_) (fun c81 => absurd c81 ((by decide)))
        refine x_iload_n (pc' := 92) rfl rfl rfl ?_
        refine x_iconst (pc' := 93) rfl rfl iconst_2 ?_
        refine x_icmp_ne (tgt := 103) (pc' := 96) rfl rfl rfl (fun _ => ?_) (fun c93 => absurd c93 ((by decide)))
        refine x_iload_n (pc' := 104) rfl rfl rfl ?_
        refine x_iconst (pc' := 105) rfl rfl iconst_3 ?_
        refine x_icmp_ne (tgt := 115) (pc' := 108) rfl rfl rfl (fun _ => ?_) (fun c105 => absurd c105 ((by decide)))
        refine x_iload_n (pc' := 116) rfl rfl rfl ?_
        exact x_ireturn rfl rfl rfl (Nat.le_of_ble_eq_true rfl) (Nat.le_of_ble_eq_true rfl) (h _ _ hM3 hA3 hF)
    · rw [if_neg (fun q => d2 ⟨q.1, hk, q.2⟩)] at h
      refine x_if_ne (tgt := 48) (pc' := 41) rfl rfl rfl (fun c38 => absurd (rfl) c38) (fun _ => ?_)
      refine x_aload_n (pc' := 42) rfl rfl rfl ?_
      refine x_bipush (pc' := 44) rfl rfl bipush_m3 ?_
      refine x_cV1i (d := 1) (pc' := 47) rfl rfl sX6_110 gX6_refuse (hM.1) ⟨Nat.le_of_ble_eq_true rfl, Nat.le_of_ble_eq_true rfl⟩ (Nat.le_of_ble_eq_true rfl) ⟨Nat.le_of_ble_eq_true rfl, Nat.le_of_ble_eq_true rfl⟩ ?_
      refine r_refuse (k := 2) (by decide) (by decide) hM hA (fun f1 M1 hM1 hA1 hF1 => ⟨_, rfl, ?_⟩)
      exact x_ireturn rfl rfl rfl (Nat.le_of_ble_eq_true rfl) (Nat.le_of_ble_eq_true rfl) (h _ _ hM1 hA1 hF1)
  · rw [show s_by A a b = _ from if_neg d1] at h
    refine x_aload_n (pc' := 1) rfl rfl rfl ?_
    refine x_iload_n (pc' := 2) rfl rfl rfl ?_
    refine x_cV1i (d := 2) (pc' := 5) rfl rfl sX6_103 gX6_isBowl (hM.1) ⟨Nat.le_of_ble_eq_true rfl, Nat.le_of_ble_eq_true rfl⟩ (Nat.le_of_ble_eq_true rfl) ⟨Nat.le_of_ble_eq_true rfl, Nat.le_of_ble_eq_true rfl⟩ ?_
    refine r_bowl hM hA ho (fun q => absurd q d1) (fun _ => ⟨_, rfl, ?_⟩)
    refine x_if_ne (tgt := 14) (pc' := 8) rfl rfl rfl (fun c5 => absurd (rfl) c5) (fun _ => ?_)
    refine x_aload_n (pc' := 9) rfl rfl rfl ?_
    refine x_iconst (pc' := 10) rfl rfl iconst_m1 ?_
    refine x_cV1i (d := 1) (pc' := 13) rfl rfl sX6_110 gX6_refuse (hM.1) ⟨Nat.le_of_ble_eq_true rfl, Nat.le_of_ble_eq_true rfl⟩ (Nat.le_of_ble_eq_true rfl) ⟨Nat.le_of_ble_eq_true rfl, Nat.le_of_ble_eq_true rfl⟩ ?_
    refine r_refuse (k := 0) (by decide) (by decide) hM hA (fun f1 M1 hM1 hA1 hF1 => ⟨_, rfl, ?_⟩)
    exact x_ireturn rfl rfl rfl (Nat.le_of_ble_eq_true rfl) (Nat.le_of_ble_eq_true rfl) (h _ _ hM1 hA1 hF1)
theorem r_behind (hM : x_Mdl z f M) (hA : r_is M A) (ho : a_ok A) (h : r_ends z f post (s_behind A a b)) : Y E 9 mX6_behind [.ref 59, .int a, .int b] z f 0 0 post := by
  refine Y.intro gX6_behind (lv := [(0, .ref 59), (1, .int a), (2, .int b)]) rfl (Nat.le_of_ble_eq_true rfl) ?_
  obtain ⟨b1, b2, b3, b4, b5, b6, b7, b8, b9⟩ := id hA
  by_cases d1 : q_in (g_n (a_g A)) a
  · obtain ⟨k, hk, hk2, rfl, hcl⟩ := q_in_k d1
    by_cases d2 : q_in (g_n (a_g A)) b
    · obtain ⟨j, hj, hj2, rfl, hcl2⟩ := q_in_k d2
      have hn9 := ho.1.1
      rw [show s_behind A (nI k) (nI j) = _ from if_pos ⟨d1, d2⟩, hcl, hcl2] at h
      refine x_aload_n (pc' := 1) rfl rfl rfl ?_
      refine x_iload_n (pc' := 2) rfl rfl rfl ?_
      refine x_cV1i (d := 2) (pc' := 5) rfl rfl sX6_103 gX6_isBowl (hM.1) ⟨Nat.le_of_ble_eq_true rfl, Nat.le_of_ble_eq_true rfl⟩ (Nat.le_of_ble_eq_true rfl) ⟨Nat.le_of_ble_eq_true rfl, Nat.le_of_ble_eq_true rfl⟩ ?_
      refine r_bowl hM hA ho (fun _ => ⟨_, rfl, ?_⟩) (fun q => absurd d1 q)
      refine x_if_eq (tgt := 16) (pc' := 8) rfl rfl rfl (fun c5 => absurd c5 ((by decide))) (fun _ => ?_)
      refine x_aload_n (pc' := 9) rfl rfl rfl ?_
      refine x_iload_n (pc' := 10) rfl rfl rfl ?_
      refine x_cV1i (d := 2) (pc' := 13) rfl rfl sX6_103 gX6_isBowl (hM.1) ⟨Nat.le_of_ble_eq_true rfl, Nat.le_of_ble_eq_true rfl⟩ (Nat.le_of_ble_eq_true rfl) ⟨Nat.le_of_ble_eq_true rfl, Nat.le_of_ble_eq_true rfl⟩ ?_
      refine r_bowl hM hA ho (fun _ => ⟨_, rfl, ?_⟩) (fun q => absurd d2 q)
      refine x_if_ne (tgt := 22) (pc' := 16) rfl rfl rfl (fun _ => ?_) (fun c13 => absurd c13 ((by decide)))
      refine x_aload_n (pc' := 23) rfl rfl rfl ?_
      refine x_iload_n (pc' := 24) rfl rfl rfl ?_
      refine x_cV1i (d := 3) (pc' := 27) rfl rfl sX6_135 gX6_canMove (hM.1) ⟨Nat.le_of_ble_eq_true rfl, Nat.le_of_ble_eq_true rfl⟩ (Nat.le_of_ble_eq_true rfl) ⟨Nat.le_of_ble_eq_true rfl, Nat.le_of_ble_eq_true rfl⟩ ?_
      refine m_can1 hM b1 ho.1 (by decide) hk2 (fun d2 => ⟨_, rfl, ?_⟩) (fun d2 => ⟨_, rfl, ?_⟩)
      · rw [if_pos ⟨d2.1, d2.2.2⟩] at h
        refine x_if_ne (tgt := 37) (pc' := 30) rfl rfl rfl (fun _ => ?_) (fun c27 => absurd c27 ((by decide)))
        refine x_aload_n (pc' := 38) rfl rfl rfl ?_
        refine x_iconst (pc' := 39) rfl rfl iconst_0 ?_
        refine x_cV1v (d := 1) (pc' := 42) rfl rfl sX6_154 gX6_keeps (hM.1) ⟨Nat.le_of_ble_eq_true rfl, Nat.le_of_ble_eq_true rfl⟩ (Nat.le_of_ble_eq_true rfl) ⟨Nat.le_of_ble_eq_true rfl, Nat.le_of_ble_eq_true rfl⟩ ?_
        refine m_keeps (l := 0) (by decide) hM b1 (fun f1 M1 hM1 g1 k1 fr1 hF1 => ⟨rfl, ?_⟩)
        refine x_aload_n (pc' := 43) rfl rfl rfl ?_
        refine x_iload_n (pc' := 44) rfl rfl rfl ?_
        refine x_cV1v (d := 4) (pc' := 47) rfl rfl sX6_141 gX6_moves (hM1.1) ⟨Nat.le_of_ble_eq_true rfl, Nat.le_of_ble_eq_true rfl⟩ (Nat.le_of_ble_eq_true rfl) ⟨Nat.le_of_ble_eq_true rfl, Nat.le_of_ble_eq_true rfl⟩ ?_
        refine m_mv hM1 g1 ho.1 (by decide) d2 (by rw [k1.1]; exact b3) (fun f2 M2 hM2 g2 k2 e14 e15 e16 e17 hF2 => ⟨rfl, ?_⟩)
        refine x_aload_n (pc' := 48) rfl rfl rfl ?_
        refine x_get (pc' := 51) rfl rfl rfl (hM2.1) rfl ?_
        refine x_iload_n (pc' := 52) rfl rfl rfl ?_
        refine x_iaload (pc' := 53) rfl rfl (hM2.2.1 1 (by decide)) (vp_in_nI (n := j) (N := 9) (by omega) (by decide)) ?_
        refine x_eqi (show M2.2.1 1 (nI j).toNatClampNeg = nI (g_β (g_mv (a_g A) k) j) from by rw [hcl2, g2.2.1]) ?_
        refine x_istore_n (pc' := 54) (lv' := [(3, _), (0, _), (1, _), (2, _)]) rfl rfl (Nat.le_of_ble_eq_true rfl) rfl ?_
        refine x_aload_n (pc' := 55) rfl rfl rfl ?_
        refine x_iconst (pc' := 56) rfl rfl iconst_0 ?_
        refine x_cV1v (d := 1) (pc' := 59) rfl rfl sX6_160 gX6_lays (hM2.1) ⟨Nat.le_of_ble_eq_true rfl, Nat.le_of_ble_eq_true rfl⟩ (Nat.le_of_ble_eq_true rfl) ⟨Nat.le_of_ble_eq_true rfl, Nat.le_of_ble_eq_true rfl⟩ ?_
        refine m_lays (l := 0) (g := a_g A) (by decide) hM2 g2 (fr1.eq (k2.1 6 (by decide) (by decide))) ho.1 (g_mv_ok ho.1 (by decide) (by decide) d2.2.1) (fun f3 M3 hM3 g3 e1 e2 e3 hF3 => ⟨rfl, ?_⟩)
        have hA3 : r_is M3 A := hA.sc ((k1.sc.trans k2.sc).trans (m_ly.sc e1 e2)) g3
        have hF := (hF1.trans hF2).trans hF3
        refine x_iload_n (pc' := 60) rfl rfl rfl ?_
        exact x_ireturn rfl rfl rfl (Nat.le_of_ble_eq_true rfl) (Nat.le_of_ble_eq_true rfl) (h _ _ hM3 hA3 hF)
      · rw [if_neg (fun q => d2 ⟨q.1, hk, q.2⟩)] at h
        refine x_if_ne (tgt := 37) (pc' := 30) rfl rfl rfl (fun c27 => absurd (rfl) c27) (fun _ => ?_)
        refine x_aload_n (pc' := 31) rfl rfl rfl ?_
        refine x_bipush (pc' := 33) rfl rfl bipush_m3 ?_
        refine x_cV1i (d := 1) (pc' := 36) rfl rfl sX6_110 gX6_refuse (hM.1) ⟨Nat.le_of_ble_eq_true rfl, Nat.le_of_ble_eq_true rfl⟩ (Nat.le_of_ble_eq_true rfl) ⟨Nat.le_of_ble_eq_true rfl, Nat.le_of_ble_eq_true rfl⟩ ?_
        refine r_refuse (k := 2) (by decide) (by decide) hM hA (fun f1 M1 hM1 hA1 hF1 => ⟨_, rfl, ?_⟩)
        exact x_ireturn rfl rfl rfl (Nat.le_of_ble_eq_true rfl) (Nat.le_of_ble_eq_true rfl) (h _ _ hM1 hA1 hF1)
    · rw [show s_behind A (nI k) b = _ from if_neg (fun q => d2 q.2)] at h
      refine x_aload_n (pc' := 1) rfl rfl rfl ?_
      refine x_iload_n (pc' := 2) rfl rfl rfl ?_
      refine x_cV1i (d := 2) (pc' := 5) rfl rfl sX6_103 gX6_isBowl (hM.1) ⟨Nat.le_of_ble_eq_true rfl, Nat.le_of_ble_eq_true rfl⟩ (Nat.le_of_ble_eq_true rfl) ⟨Nat.le_of_ble_eq_true rfl, Nat.le_of_ble_eq_true rfl⟩ ?_
      refine r_bowl hM hA ho (fun _ => ⟨_, rfl, ?_⟩) (fun q => absurd d1 q)
      refine x_if_eq (tgt := 16) (pc' := 8) rfl rfl rfl (fun c5 => absurd c5 ((by decide))) (fun _ => ?_)
      refine x_aload_n (pc' := 9) rfl rfl rfl ?_
      refine x_iload_n (pc' := 10) rfl rfl rfl ?_
      refine x_cV1i (d := 2) (pc' := 13) rfl rfl sX6_103 gX6_isBowl (hM.1) ⟨Nat.le_of_ble_eq_true rfl, Nat.le_of_ble_eq_true rfl⟩ (Nat.le_of_ble_eq_true rfl) ⟨Nat.le_of_ble_eq_true rfl, Nat.le_of_ble_eq_true rfl⟩ ?_
      refine r_bowl hM hA ho (fun q => absurd q d2) (fun _ => ⟨_, rfl, ?_⟩)
      refine x_if_ne (tgt := 22) (pc' := 16) rfl rfl rfl (fun c13 => absurd (rfl) c13) (fun _ => ?_)
      refine x_aload_n (pc' := 17) rfl rfl rfl ?_
      refine x_iconst (pc' := 18) rfl rfl iconst_m1 ?_
      refine x_cV1i (d := 1) (pc' := 21) rfl rfl sX6_110 gX6_refuse (hM.1) ⟨Nat.le_of_ble_eq_true rfl, Nat.le_of_ble_eq_true rfl⟩ (Nat.le_of_ble_eq_true rfl) ⟨Nat.le_of_ble_eq_true rfl, Nat.le_of_ble_eq_true rfl⟩ ?_
      refine r_refuse (k := 0) (by decide) (by decide) hM hA (fun f1 M1 hM1 hA1 hF1 => ⟨_, rfl, ?_⟩)
      exact x_ireturn rfl rfl rfl (Nat.le_of_ble_eq_true rfl) (Nat.le_of_ble_eq_true rfl) (h _ _ hM1 hA1 hF1)
  · rw [show s_behind A a b = _ from if_neg (fun q => d1 q.1)] at h
    refine x_aload_n (pc' := 1) rfl rfl rfl ?_
    refine x_iload_n (pc' := 2) rfl rfl rfl ?_
    refine x_cV1i (d := 2) (pc' := 5) rfl rfl sX6_103 gX6_isBowl (hM.1) ⟨Nat.le_of_ble_eq_true rfl, Nat.le_of_ble_eq_true rfl⟩ (Nat.le_of_ble_eq_true rfl) ⟨Nat.le_of_ble_eq_true rfl, Nat.le_of_ble_eq_true rfl⟩ ?_
    refine r_bowl hM hA ho (fun q => absurd q d1) (fun _ => ⟨_, rfl, ?_⟩)
    refine x_if_eq (tgt := 16) (pc' := 8) rfl rfl rfl (fun _ => ?_) (fun c5 => absurd (rfl) c5)
    refine x_aload_n (pc' := 17) rfl rfl rfl ?_
    refine x_iconst (pc' := 18) rfl rfl iconst_m1 ?_
    refine x_cV1i (d := 1) (pc' := 21) rfl rfl sX6_110 gX6_refuse (hM.1) ⟨Nat.le_of_ble_eq_true rfl, Nat.le_of_ble_eq_true rfl⟩ (Nat.le_of_ble_eq_true rfl) ⟨Nat.le_of_ble_eq_true rfl, Nat.le_of_ble_eq_true rfl⟩ ?_
    refine r_refuse (k := 0) (by decide) (by decide) hM hA (fun f1 M1 hM1 hA1 hF1 => ⟨_, rfl, ?_⟩)
    exact x_ireturn rfl rfl rfl (Nat.le_of_ble_eq_true rfl) (Nat.le_of_ble_eq_true rfl) (h _ _ hM1 hA1 hF1)
theorem r_emptiesL {n : Nat} {β : Nat → Nat} (hM : x_Mdl z f M) (hn : M.1 3 = nI n) (hn9 : n ≤ 9) (hβ : M.2.1 1 = fun i => nI (β i)) (hβ5 : ∀ i, β i ≤ 100) (K : X E (x_rm 9 0 0) mX6_empties (x_QM E z 0 0 post) 76 [(3, .int (nI n)), (2, .int (q_bits β n)), (0, .ref 59), (1, .int a)] [] z f 0 0) : ∀ (k i : Nat), i + k = n → X E (x_rm 9 0 0) mX6_empties (x_QM E z 0 0 post) 43 [(3, .int (nI i)), (2, .int (q_bits β i)), (0, .ref 59), (1, .int a)] [] z f 0 0 := by
  intro k
  induction k with
  | zero =>
    intro i hi
    have hi2 : i = n := by omega
    subst hi2
    refine x_iload_n (pc' := 44) rfl rfl rfl ?_
    refine x_aload_n (pc' := 45) rfl rfl rfl ?_
    refine x_get (pc' := 48) rfl rfl rfl (hM.1) rfl ?_
    refine x_eqi hn ?_
    refine x_icmp_ge (tgt := 76) (pc' := 51) rfl rfl rfl (fun _ => ?_) (fun c48 => absurd ((Int32.le_refl _)) c48)
    exact K
  | succ k ih =>
    intro i hi
    have hb := hβ5 i
    have e1 : q_bits β (i + 1) = if β i = 0 then q_bits β i ||| ((1 : Int32) <<< (nI i &&& 31)) else q_bits β i := rfl
    have h9 := ih (i + 1) (by omega)
    refine x_iload_n (pc' := 44) rfl rfl rfl ?_
    refine x_aload_n (pc' := 45) rfl rfl rfl ?_
    refine x_get (pc' := 48) rfl rfl rfl (hM.1) rfl ?_
    refine x_eqi hn ?_
    refine x_icmp_ge (tgt := 76) (pc' := 51) rfl rfl rfl (fun c48 => absurd c48 ((nI_ge (by omega) (by omega)))) (fun _ => ?_)
    refine x_iload_n (pc' := 52) rfl rfl rfl ?_
    refine x_aload_n (pc' := 53) rfl rfl rfl ?_
    refine x_get (pc' := 56) rfl rfl rfl (hM.1) rfl ?_
    refine x_iload_n (pc' := 57) rfl rfl rfl ?_
    refine x_iaload (pc' := 58) rfl rfl (hM.2.1 1 (by decide)) (vp_in_nI (n := i) (N := 9) (by omega) (by decide)) ?_
    refine x_eqi (show M.2.1 1 (nI i).toNatClampNeg = nI (β i) from by rw [nI_clamp (by omega), hβ]) ?_
    by_cases d : β i = 0
    · rw [if_pos d] at e1
      refine x_if_ne (tgt := 65) (pc' := 61) rfl rfl rfl (fun q => absurd (show nI (β i) = 0 by rw [d]; rfl) q) (fun _ => ?_)
      refine x_iconst (pc' := 62) rfl rfl iconst_1 ?_
      refine x_goto (tgt := 66) rfl rfl ?_
      refine x_iload_n (pc' := 67) rfl rfl rfl ?_
      refine x_ishl (pc' := 68) rfl rfl ?_
      refine x_ior (pc' := 69) rfl rfl ?_
      refine x_istore_n (pc' := 70) (lv' := [(2, _), (3, _), (0, _), (1, _)]) rfl rfl (Nat.le_of_ble_eq_true rfl) rfl ?_
      refine x_iinc (pc' := 73) (lv' := [(3, _), (2, _), (0, _), (1, _)]) rfl rfl (Nat.le_of_ble_eq_true rfl) rfl (nI_1 i) rfl ?_
      refine x_goto (tgt := 43) rfl rfl ?_
      rw [e1] at h9
      exact h9
    · rw [if_neg d] at e1
      refine x_if_ne (tgt := 65) (pc' := 61) rfl rfl rfl (fun _ => ?_) (fun q => absurd q (nI_ne0 (by omega) (by omega)))
      refine x_iconst (pc' := 66) rfl rfl iconst_0 ?_
      refine x_iload_n (pc' := 67) rfl rfl rfl ?_
      refine x_ishl (pc' := 68) rfl rfl ?_
      refine x_ior (pc' := 69) rfl rfl ?_
      refine x_eqi (show q_bits β i ||| ((0 : Int32) <<< (nI i &&& 31)) = q_bits β i from by rw [Int32.zero_shiftLeft, Int32.or_zero]) ?_
      refine x_istore_n (pc' := 70) (lv' := [(2, _), (3, _), (0, _), (1, _)]) rfl rfl (Nat.le_of_ble_eq_true rfl) rfl ?_
      refine x_iinc (pc' := 73) (lv' := [(3, _), (2, _), (0, _), (1, _)]) rfl rfl (Nat.le_of_ble_eq_true rfl) rfl (nI_1 i) rfl ?_
      refine x_goto (tgt := 43) rfl rfl ?_
      rw [e1] at h9
      exact h9
theorem r_empties (hM : x_Mdl z f M) (hA : r_is M A) (ho : a_ok A) (h : r_ends z f post (s_empties A a)) : Y E 9 mX6_empties [.ref 59, .int a] z f 0 0 post := by
  refine Y.intro gX6_empties (lv := [(0, .ref 59), (1, .int a)]) rfl (Nat.le_of_ble_eq_true rfl) ?_
  obtain ⟨b1, b2, b3, b4, b5, b6, b7, b8, b9⟩ := id hA
  by_cases d1 : q_in (g_n (a_g A)) a
  · obtain ⟨k, hk, hk2, rfl, hcl⟩ := q_in_k d1
    rw [show s_empties A (nI k) = _ from if_pos d1, hcl] at h
    refine x_aload_n (pc' := 1) rfl rfl rfl ?_
    refine x_iload_n (pc' := 2) rfl rfl rfl ?_
    refine x_cV1i (d := 2) (pc' := 5) rfl rfl sX6_103 gX6_isBowl (hM.1) ⟨Nat.le_of_ble_eq_true rfl, Nat.le_of_ble_eq_true rfl⟩ (Nat.le_of_ble_eq_true rfl) ⟨Nat.le_of_ble_eq_true rfl, Nat.le_of_ble_eq_true rfl⟩ ?_
    refine r_bowl hM hA ho (fun _ => ⟨_, rfl, ?_⟩) (fun q => absurd d1 q)
    refine x_if_ne (tgt := 14) (pc' := 8) rfl rfl rfl (fun _ => ?_) (fun c5 => absurd c5 ((by decide)))
    refine x_aload_n (pc' := 15) rfl rfl rfl ?_
    refine x_iload_n (pc' := 16) rfl rfl rfl ?_
    refine x_cV1i (d := 3) (pc' := 19) rfl rfl sX6_135 gX6_canMove (hM.1) ⟨Nat.le_of_ble_eq_true rfl, Nat.le_of_ble_eq_true rfl⟩ (Nat.le_of_ble_eq_true rfl) ⟨Nat.le_of_ble_eq_true rfl, Nat.le_of_ble_eq_true rfl⟩ ?_
    refine m_can1 hM b1 ho.1 (by decide) hk2 (fun d2 => ⟨_, rfl, ?_⟩) (fun d2 => ⟨_, rfl, ?_⟩)
    · rw [if_pos ⟨d2.1, d2.2.2⟩] at h
      refine x_if_ne (tgt := 29) (pc' := 22) rfl rfl rfl (fun _ => ?_) (fun c19 => absurd c19 ((by decide)))
      refine x_aload_n (pc' := 30) rfl rfl rfl ?_
      refine x_iconst (pc' := 31) rfl rfl iconst_0 ?_
      refine x_cV1v (d := 1) (pc' := 34) rfl rfl sX6_154 gX6_keeps (hM.1) ⟨Nat.le_of_ble_eq_true rfl, Nat.le_of_ble_eq_true rfl⟩ (Nat.le_of_ble_eq_true rfl) ⟨Nat.le_of_ble_eq_true rfl, Nat.le_of_ble_eq_true rfl⟩ ?_
      refine m_keeps (l := 0) (by decide) hM b1 (fun f1 M1 hM1 g1 k1 fr1 hF1 => ⟨rfl, ?_⟩)
      refine x_aload_n (pc' := 35) rfl rfl rfl ?_
      refine x_iload_n (pc' := 36) rfl rfl rfl ?_
      refine x_cV1v (d := 4) (pc' := 39) rfl rfl sX6_141 gX6_moves (hM1.1) ⟨Nat.le_of_ble_eq_true rfl, Nat.le_of_ble_eq_true rfl⟩ (Nat.le_of_ble_eq_true rfl) ⟨Nat.le_of_ble_eq_true rfl, Nat.le_of_ble_eq_true rfl⟩ ?_
      refine m_mv hM1 g1 ho.1 (by decide) d2 (by rw [k1.1]; exact b3) (fun f2 M2 hM2 g2 k2 e14 e15 e16 e17 hF2 => ⟨rfl, ?_⟩)
      refine x_iconst (pc' := 40) rfl rfl iconst_0 ?_
      refine x_istore_n (pc' := 41) (lv' := [(2, _), (0, _), (1, _)]) rfl rfl (Nat.le_of_ble_eq_true rfl) rfl ?_
      refine x_iconst (pc' := 42) rfl rfl iconst_0 ?_
      refine x_istore_n (pc' := 43) (lv' := [(3, _), (2, _), (0, _), (1, _)]) rfl rfl (Nat.le_of_ble_eq_true rfl) rfl ?_
      refine r_emptiesL (n := g_n (a_g A)) (β := g_β (g_mv (a_g A) k)) hM2 g2.2.2.2.1 ho.1.1 g2.2.1 (fun i => (g_mv_ok (ho.1.mono (by decide : 99 ≤ 100)) (by decide) (by decide) d2.2.1).2.2.2.2.2.1 i) ?_ (g_n (a_g A)) 0 (by omega)
      refine x_aload_n (pc' := 77) rfl rfl rfl ?_
      refine x_iconst (pc' := 78) rfl rfl iconst_0 ?_
      refine x_cV1v (d := 1) (pc' := 81) rfl rfl sX6_160 gX6_lays (hM2.1) ⟨Nat.le_of_ble_eq_true rfl, Nat.le_of_ble_eq_true rfl⟩ (Nat.le_of_ble_eq_true rfl) ⟨Nat.le_of_ble_eq_true rfl, Nat.le_of_ble_eq_true rfl⟩ ?_
      refine m_lays (l := 0) (g := a_g A) (by decide) hM2 g2 (fr1.eq (k2.1 6 (by decide) (by decide))) ho.1 (g_mv_ok ho.1 (by decide) (by decide) d2.2.1) (fun f3 M3 hM3 g3 e1 e2 e3 hF3 => ⟨rfl, ?_⟩)
      have hA3 : r_is M3 A := hA.sc ((k1.sc.trans k2.sc).trans (m_ly.sc e1 e2)) g3
      have hF := (hF1.trans hF2).trans hF3
      refine x_iload_n (pc' := 82) rfl rfl rfl ?_
      exact x_ireturn rfl rfl rfl (Nat.le_of_ble_eq_true rfl) (Nat.le_of_ble_eq_true rfl) (h _ _ hM3 hA3 hF)
    · rw [if_neg (fun q => d2 ⟨q.1, hk, q.2⟩)] at h
      refine x_if_ne (tgt := 29) (pc' := 22) rfl rfl rfl (fun c19 => absurd (rfl) c19) (fun _ => ?_)
      refine x_aload_n (pc' := 23) rfl rfl rfl ?_
      refine x_bipush (pc' := 25) rfl rfl bipush_m3 ?_
      refine x_cV1i (d := 1) (pc' := 28) rfl rfl sX6_110 gX6_refuse (hM.1) ⟨Nat.le_of_ble_eq_true rfl, Nat.le_of_ble_eq_true rfl⟩ (Nat.le_of_ble_eq_true rfl) ⟨Nat.le_of_ble_eq_true rfl, Nat.le_of_ble_eq_true rfl⟩ ?_
      refine r_refuse (k := 2) (by decide) (by decide) hM hA (fun f1 M1 hM1 hA1 hF1 => ⟨_, rfl, ?_⟩)
      exact x_ireturn rfl rfl rfl (Nat.le_of_ble_eq_true rfl) (Nat.le_of_ble_eq_true rfl) (h _ _ hM1 hA1 hF1)
  · rw [show s_empties A a = _ from if_neg d1] at h
    refine x_aload_n (pc' := 1) rfl rfl rfl ?_
    refine x_iload_n (pc' := 2) rfl rfl rfl ?_
    refine x_cV1i (d := 2) (pc' := 5) rfl rfl sX6_103 gX6_isBowl (hM.1) ⟨Nat.le_of_ble_eq_true rfl, Nat.le_of_ble_eq_true rfl⟩ (Nat.le_of_ble_eq_true rfl) ⟨Nat.le_of_ble_eq_true rfl, Nat.le_of_ble_eq_true rfl⟩ ?_
    refine r_bowl hM hA ho (fun q => absurd q d1) (fun _ => ⟨_, rfl, ?_⟩)
    refine x_if_ne (tgt := 14) (pc' := 8) rfl rfl rfl (fun c5 => absurd (rfl) c5) (fun _ => ?_)
    refine x_aload_n (pc' := 9) rfl rfl rfl ?_
    refine x_iconst (pc' := 10) rfl rfl iconst_m1 ?_
    refine x_cV1i (d := 1) (pc' := 13) rfl rfl sX6_110 gX6_refuse (hM.1) ⟨Nat.le_of_ble_eq_true rfl, Nat.le_of_ble_eq_true rfl⟩ (Nat.le_of_ble_eq_true rfl) ⟨Nat.le_of_ble_eq_true rfl, Nat.le_of_ble_eq_true rfl⟩ ?_
    refine r_refuse (k := 0) (by decide) (by decide) hM hA (fun f1 M1 hM1 hA1 hF1 => ⟨_, rfl, ?_⟩)
    exact x_ireturn rfl rfl rfl (Nat.le_of_ble_eq_true rfl) (Nat.le_of_ble_eq_true rfl) (h _ _ hM1 hA1 hF1)
theorem r_lostL (hM : x_Mdl z f M) (hA : r_is M A) (ho : a_ok A) (h : r_ends z f post (s_lost A)) : ∀ (k i : Nat), i + k = g_n (a_g A) → (∀ j, j < i → ¬ g_can (a_g A) j) → X E (x_rm 9 0 0) mX6_lost (x_QM E z 0 0 post) 2 [(1, .int (nI i)), (0, .ref 59)] [] z f 0 0 := by
  have hn9 := ho.1.1
  have hn := hA.1.2.2.2.1
  intro k
  induction k with
  | zero =>
    intro i hi hj
    rw [show s_lost A = (A, 1) from by unfold s_lost; rw [if_pos (fun j hj2 => hj j (by omega))]] at h
    refine x_iload_n (pc' := 3) rfl rfl rfl ?_
    refine x_aload_n (pc' := 4) rfl rfl rfl ?_
    refine x_get (pc' := 7) rfl rfl rfl (hM.1) rfl ?_
    refine x_eqi hn ?_
    refine x_icmp_ge (tgt := 26) (pc' := 10) rfl rfl rfl (fun _ => ?_) (fun c7 => absurd ((nI_le (by omega) (by omega))) c7)
    refine x_iconst (pc' := 27) rfl rfl iconst_1 ?_
    exact x_ireturn rfl rfl rfl (Nat.le_of_ble_eq_true rfl) (Nat.le_of_ble_eq_true rfl) (h _ _ hM hA x_fr.rf)
  | succ k ih =>
    intro i hi hj
    refine x_iload_n (pc' := 3) rfl rfl rfl ?_
    refine x_aload_n (pc' := 4) rfl rfl rfl ?_
    refine x_get (pc' := 7) rfl rfl rfl (hM.1) rfl ?_
    refine x_eqi hn ?_
    refine x_icmp_ge (tgt := 26) (pc' := 10) rfl rfl rfl (fun c7 => absurd c7 ((nI_ge (by omega) (by omega)))) (fun _ => ?_)
    refine x_aload_n (pc' := 11) rfl rfl rfl ?_
    refine x_iload_n (pc' := 12) rfl rfl rfl ?_
    refine x_cV1i (d := 3) (pc' := 15) rfl rfl sX6_135 gX6_canMove (hM.1) ⟨Nat.le_of_ble_eq_true rfl, Nat.le_of_ble_eq_true rfl⟩ (Nat.le_of_ble_eq_true rfl) ⟨Nat.le_of_ble_eq_true rfl, Nat.le_of_ble_eq_true rfl⟩ ?_
    refine m_can1 hM hA.1 ho.1 (by decide) (by omega) (fun d2 => ⟨_, rfl, ?_⟩) (fun d2 => ⟨_, rfl, ?_⟩)
    · rw [show s_lost A = (A, 0) from by unfold s_lost; rw [if_neg (fun q => q i (by omega) d2)]] at h
      refine x_if_eq (tgt := 20) (pc' := 18) rfl rfl rfl (fun c15 => absurd c15 ((by decide))) (fun _ => ?_)
      refine x_iconst (pc' := 19) rfl rfl iconst_0 ?_
      exact x_ireturn rfl rfl rfl (Nat.le_of_ble_eq_true rfl) (Nat.le_of_ble_eq_true rfl) (h _ _ hM hA x_fr.rf)
    · refine x_if_eq (tgt := 20) (pc' := 18) rfl rfl rfl (fun _ => ?_) (fun c15 => absurd (rfl) c15)
      refine x_iinc (pc' := 23) (lv' := [(1, _), (0, _)]) rfl rfl (Nat.le_of_ble_eq_true rfl) rfl (nI_1 i) rfl ?_
      refine x_goto (tgt := 2) rfl rfl ?_
      refine ih (i + 1) (by omega) (fun j hj2 => ?_)
      by_cases h9 : j = i
      · rw [h9]
        exact d2
      · exact hj j (by omega)
theorem r_lost (hM : x_Mdl z f M) (hA : r_is M A) (ho : a_ok A) (h : r_ends z f post (s_lost A)) : Y E 9 mX6_lost [.ref 59] z f 0 0 post := by
  refine Y.intro gX6_lost (lv := [(0, .ref 59)]) rfl (Nat.le_of_ble_eq_true rfl) ?_
  refine x_iconst (pc' := 1) rfl rfl iconst_0 ?_
  refine x_istore_n (pc' := 2) (lv' := [(1, _), (0, _)]) rfl rfl (Nat.le_of_ble_eq_true rfl) rfl ?_
  exact r_lostL hM hA ho h (g_n (a_g A)) 0 (by omega) (fun j hj => absurd hj (Nat.not_lt_zero j))
theorem c_lostM (hS : x_Sys z f S) (hA : c_is S A) (ho : a_ok A) (h : c_ends z f post (s_lost A)) : ∀ (k i : Nat), i + k = g_n (a_g A) → (∀ j, j < i → ¬ g_can (a_g A) j) → X E (x_rm 9 0 0) mX5_lost (x_QM E z 0 0 post) 2 [(1, .int (nI i)), (0, .ref 0)] [] z f 0 0 := by
  have hn9 := ho.1.1
  have hT := hS.2.1 0 (by decide)
  intro k
  induction k with
  | zero =>
    intro i hi hj
    rw [show s_lost A = (A, 1) from by unfold s_lost; rw [if_pos (fun j hj2 => hj j (by omega))]] at h
    refine x_iload_n (pc' := 3) rfl rfl rfl ?_
    refine x_aload_n (pc' := 4) rfl rfl rfl ?_
    refine x_get (pc' := 7) rfl rfl rfl (hS.1) rfl ?_
    refine x_get (pc' := 10) rfl rfl rfl (hT.1) rfl ?_
    refine x_icmp_ge (tgt := 32) (pc' := 13) rfl rfl rfl (fun _ => ?_) (fun c10 => absurd ((by rw [hA.1.2.2.2.1]; exact nI_le (by omega) (by omega))) c10)
    refine x_iconst (pc' := 33) rfl rfl iconst_1 ?_
    exact x_ireturn rfl rfl rfl (Nat.le_of_ble_eq_true rfl) (Nat.le_of_ble_eq_true rfl) (h _ _ hS hA x_fr.rf)
  | succ k ih =>
    intro i hi hj
    refine x_iload_n (pc' := 3) rfl rfl rfl ?_
    refine x_aload_n (pc' := 4) rfl rfl rfl ?_
    refine x_get (pc' := 7) rfl rfl rfl (hS.1) rfl ?_
    refine x_get (pc' := 10) rfl rfl rfl (hT.1) rfl ?_
    refine x_icmp_ge (tgt := 32) (pc' := 13) rfl rfl rfl (fun c10 => absurd c10 ((by rw [hA.1.2.2.2.1]; exact Int32.not_le.mpr (nI_lt (by omega) (by omega))))) (fun _ => ?_)
    refine x_aload_n (pc' := 14) rfl rfl rfl ?_
    refine x_get (pc' := 17) rfl rfl rfl (hS.1) rfl ?_
    refine x_iload_n (pc' := 18) rfl rfl rfl ?_
    refine x_cV1i (d := 2) (pc' := 21) rfl rfl sX5_118 gX3_canMove (hT.1) ⟨Nat.le_of_ble_eq_true rfl, Nat.le_of_ble_eq_true rfl⟩ (Nat.le_of_ble_eq_true rfl) ⟨Nat.le_of_ble_eq_true rfl, Nat.le_of_ble_eq_true rfl⟩ ?_
    refine w_can hT hA.1 ho.1 (by decide) (by omega) (fun d2 => ⟨_, rfl, ?_⟩) (fun d2 => ⟨_, rfl, ?_⟩)
    · rw [show s_lost A = (A, 0) from by unfold s_lost; rw [if_neg (fun q => q i (by omega) d2)]] at h
      refine x_if_eq (tgt := 26) (pc' := 24) rfl rfl rfl (fun c21 => absurd c21 ((by decide))) (fun _ => ?_)
      refine x_iconst (pc' := 25) rfl rfl iconst_0 ?_
      exact x_ireturn rfl rfl rfl (Nat.le_of_ble_eq_true rfl) (Nat.le_of_ble_eq_true rfl) (h _ _ hS hA x_fr.rf)
    · refine x_if_eq (tgt := 26) (pc' := 24) rfl rfl rfl (fun _ => ?_) (fun c21 => absurd (rfl) c21)
      refine x_iinc (pc' := 29) (lv' := [(1, _), (0, _)]) rfl rfl (Nat.le_of_ble_eq_true rfl) rfl (nI_1 i) rfl ?_
      refine x_goto (tgt := 2) rfl rfl ?_
      refine ih (i + 1) (by omega) (fun j hj2 => ?_)
      by_cases h9 : j = i
      · rw [h9]
        exact d2
      · exact hj j (by omega)
theorem c_lostS (hS : x_Sys z f S) (hA : c_is S A) (ho : a_ok A) (h : c_ends z f post (s_lost A)) : Y E 9 mX5_lost [.ref 0] z f 0 0 post := by
  refine Y.intro gX5_lost (lv := [(0, .ref 0)]) rfl (Nat.le_of_ble_eq_true rfl) ?_
  refine x_iconst (pc' := 1) rfl rfl iconst_0 ?_
  refine x_istore_n (pc' := 2) (lv' := [(1, _), (0, _)]) rfl rfl (Nat.le_of_ble_eq_true rfl) rfl ?_
  exact c_lostM hS hA ho h (g_n (a_g A)) 0 (by omega) (fun j hj => absurd hj (Nat.not_lt_zero j))
-- the row
theorem m_playL (ho : a_ok A) (f0 : x_H) (M0 : x_N) (hA : r_is M0 A) (h : ∀ (f' : x_H) (M' : x_N), x_Mdl z f' M' → m_is M' (a_plays A).2 → m_kp M0 M' → x_fr (fun q => q < 59) f0 f' → post (some (.int (nI (a_plays A).1))) f') : ∀ (k i : Nat) (g : q_G) (f : x_H) (M : x_N), i + k = a_rc A → g_ok 99 g → q_plays (a_rf A) k i g = a_plays A → x_Mdl z f M → m_is M g → m_kp M0 M → x_fr (fun q => q < 59) f0 f → X E (x_rm 5 0 0) mX6_plays (x_QM E z 0 0 post) 2 [(1, .int (nI i)), (0, .ref 59)] [] z f 0 0 := by
  have hrc := ho.2.2.2.2.2.1
  obtain ⟨b1, b2, b3, b4, b5, b6, b7, b8, b9⟩ := id hA
  intro k
  induction k with
  | zero =>
    intro i g f M hi hg he hM hm hk hF
    rw [← he] at h
    have e7 : M.1 13 = nI (a_rc A) := (hk.sc.1 13 (by omega)).trans b7
    refine x_iload_n (pc' := 3) rfl rfl rfl ?_
    refine x_aload_n (pc' := 4) rfl rfl rfl ?_
    refine x_get (pc' := 7) rfl rfl rfl (hM.1) rfl ?_
    refine x_eqi e7 ?_
    refine x_icmp_ge (tgt := 39) (pc' := 10) rfl rfl rfl (fun _ => ?_) (fun c7 => absurd ((nI_le (by omega) (by omega))) c7)
    refine x_iload_n (pc' := 40) rfl rfl rfl ?_
    exact x_ireturn rfl rfl rfl (Nat.le_of_ble_eq_true rfl) (Nat.le_of_ble_eq_true rfl) (h _ _ hM hm hk hF)
  | succ k ih =>
    intro i g f M hi hg he hM hm hk hF
    have e7 : M.1 13 = nI (a_rc A) := (hk.sc.1 13 (by omega)).trans b7
    have e8 : M.2.1 5 (nI i).toNatClampNeg = nI (a_rf A i) := by rw [nI_clamp (by omega), (hk.sc.2 5 (by omega)).trans b8]
    have hr9 := ho.2.2.2.2.2.2 i
    have hv : vp_in (nI i) 12 := vp_in_nI (by omega) (by decide)
    replace he : (if g_can g (a_rf A i) then q_plays (a_rf A) k (i + 1) (g_mv g (a_rf A i)) else (i, g)) = a_plays A := he
    refine x_iload_n (pc' := 3) rfl rfl rfl ?_
    refine x_aload_n (pc' := 4) rfl rfl rfl ?_
    refine x_get (pc' := 7) rfl rfl rfl (hM.1) rfl ?_
    refine x_eqi e7 ?_
    refine x_icmp_ge (tgt := 39) (pc' := 10) rfl rfl rfl (fun c7 => absurd c7 ((nI_ge (by omega) (by omega)))) (fun _ => ?_)
    refine x_aload_n (pc' := 11) rfl rfl rfl ?_
    refine x_aload_n (pc' := 12) rfl rfl rfl ?_
    refine x_get (pc' := 15) rfl rfl rfl (hM.1) rfl ?_
    refine x_iload_n (pc' := 16) rfl rfl rfl ?_
    refine x_iaload (pc' := 17) rfl rfl (hM.2.1 5 (by decide)) (hv) ?_
    refine x_eqi e8 ?_
    refine x_cV1i (d := 3) (pc' := 20) rfl rfl sX6_135 gX6_canMove (hM.1) ⟨Nat.le_of_ble_eq_true rfl, Nat.le_of_ble_eq_true rfl⟩ (Nat.le_of_ble_eq_true rfl) ⟨Nat.le_of_ble_eq_true rfl, Nat.le_of_ble_eq_true rfl⟩ ?_
    refine m_can1 hM hm hg (by decide) (by omega) (fun d2 => ⟨_, rfl, ?_⟩) (fun d2 => ⟨_, rfl, ?_⟩)
    · rw [if_pos d2] at he
      refine x_if_eq (tgt := 39) (pc' := 23) rfl rfl rfl (fun c20 => absurd c20 ((by decide))) (fun _ => ?_)
      refine x_aload_n (pc' := 24) rfl rfl rfl ?_
      refine x_aload_n (pc' := 25) rfl rfl rfl ?_
      refine x_get (pc' := 28) rfl rfl rfl (hM.1) rfl ?_
      refine x_iload_n (pc' := 29) rfl rfl rfl ?_
      refine x_iaload (pc' := 30) rfl rfl (hM.2.1 5 (by decide)) (hv) ?_
      refine x_eqi e8 ?_
      refine x_cV1v (d := 4) (pc' := 33) rfl rfl sX6_141 gX6_moves (hM.1) ⟨Nat.le_of_ble_eq_true rfl, Nat.le_of_ble_eq_true rfl⟩ (Nat.le_of_ble_eq_true rfl) ⟨Nat.le_of_ble_eq_true rfl, Nat.le_of_ble_eq_true rfl⟩ ?_
      refine m_mv hM hm hg (by decide) d2 (hk.no18.trans b3) (fun f1 M1 hM1 g1 k1 e14 e15 e16 e17 hF1 => ⟨rfl, ?_⟩)
      refine x_iinc (pc' := 36) (lv' := [(1, _), (0, _)]) rfl rfl (Nat.le_of_ble_eq_true rfl) rfl (nI_1 i) rfl ?_
      refine x_goto (tgt := 2) rfl rfl ?_
      exact ih (i + 1) _ _ _ (by omega) (g_mv_ok hg (by decide) (by decide) d2.2.1) he hM1 g1 (hk.trans k1) (hF.trans hF1)
    · rw [if_neg d2] at he
      rw [← he] at h
      refine x_if_eq (tgt := 39) (pc' := 23) rfl rfl rfl (fun _ => ?_) (fun c20 => absurd (rfl) c20)
      refine x_iload_n (pc' := 40) rfl rfl rfl ?_
      exact x_ireturn rfl rfl rfl (Nat.le_of_ble_eq_true rfl) (Nat.le_of_ble_eq_true rfl) (h _ _ hM hm hk hF)
theorem m_plays (hM : x_Mdl z f M) (hA : r_is M A) (ho : a_ok A) (h : ∀ (f' : x_H) (M' : x_N), x_Mdl z f' M' → m_is M' (a_plays A).2 → m_kp M M' → x_fr (fun q => q < 59) f f' → post (some (.int (nI (a_plays A).1))) f') : Y E 5 mX6_plays [.ref 59] z f 0 0 post := by
  refine Y.intro gX6_plays (lv := [(0, .ref 59)]) rfl (Nat.le_of_ble_eq_true rfl) ?_
  refine x_iconst (pc' := 1) rfl rfl iconst_0 ?_
  refine x_istore_n (pc' := 2) (lv' := [(1, _), (0, _)]) rfl rfl (Nat.le_of_ble_eq_true rfl) rfl ?_
  exact m_playL ho f M hA h (a_rc A) 0 (a_g A) f M (by omega) ho.1 rfl hM hA.1 m_kp.rf x_fr.rf
theorem a_plays_ok (ho : a_ok A) : g_ok 99 (a_plays A).2 ∧ (a_plays A).1 ≤ a_rc A := by
  have h := q_plays_ok (rf := a_rf A) (by decide : 99 ≤ 99) (by decide) (a_rc A) 0 (a_g A) ho.1
  have h2 : (a_plays A).1 ≤ 0 + a_rc A := h.2.2
  exact ⟨h.1, by omega⟩
theorem q_plays_st (rf : Nat → Nat) : ∀ (k i : Nat) (g : q_G), (q_plays rf k i g).2.1 = g.1 ∧ g_n (q_plays rf k i g).2 = g_n g ∧ g_f (q_plays rf k i g).2 = g_f g ∧ g_l (q_plays rf k i g).2 = g_l g
  | 0, i, g => ⟨rfl, rfl, rfl, rfl⟩
  | k + 1, i, g => by
    unfold q_plays
    split
    · exact q_plays_st rf k (i + 1) (g_mv g (rf i))
    · exact ⟨rfl, rfl, rfl, rfl⟩
theorem a_plays_ly : g_ly (a_g A) (a_plays A).2 = a_g A := by
  obtain ⟨h1, h2, h3, h4⟩ := q_plays_st (a_rf A) (a_rc A) 0 (a_g A)
  show (g_κ (a_plays A).2, g_β (a_g A), g_π (a_g A), g_n (a_plays A).2, g_f (a_plays A).2, g_l (a_plays A).2, g_t (a_g A)) = _
  rw [show g_κ (a_plays A).2 = g_κ (a_g A) from h1, h2, h3, h4]
theorem r_judge (hM : x_Mdl z f M) (hA : r_is M A) (ho : a_ok A) (h : r_ends z f post (s_judge A)) : Y E 9 mX6_judge [.ref 59] z f 0 0 post := by
  refine Y.intro gX6_judge (lv := [(0, .ref 59)]) rfl (Nat.le_of_ble_eq_true rfl) ?_
  obtain ⟨b1, b2, b3, b4, b5, b6, b7, b8, b9⟩ := id hA
  have hrc := ho.2.2.2.2.2.1
  obtain ⟨o1, o2⟩ := a_plays_ok ho
  unfold s_judge at h
  refine x_aload_n (pc' := 1) rfl rfl rfl ?_
  refine x_iconst (pc' := 2) rfl rfl iconst_0 ?_
  refine x_cV1v (d := 1) (pc' := 5) rfl rfl sX6_154 gX6_keeps (hM.1) ⟨Nat.le_of_ble_eq_true rfl, Nat.le_of_ble_eq_true rfl⟩ (Nat.le_of_ble_eq_true rfl) ⟨Nat.le_of_ble_eq_true rfl, Nat.le_of_ble_eq_true rfl⟩ ?_
  refine m_keeps (l := 0) (by decide) hM b1 (fun f1 M1 hM1 g1 k1 fr1 hF1 => ⟨rfl, ?_⟩)
  have hA1 : r_is M1 A := hA.sc k1.sc g1
  refine x_aload_n (pc' := 6) rfl rfl rfl ?_
  refine x_cV0i (d := 5) (pc' := 9) rfl rfl sX6_215 gX6_plays (hM1.1) ⟨Nat.le_of_ble_eq_true rfl, Nat.le_of_ble_eq_true rfl⟩ (Nat.le_of_ble_eq_true rfl) ⟨Nat.le_of_ble_eq_true rfl, Nat.le_of_ble_eq_true rfl⟩ ?_
  refine m_plays hM1 hA1 ho (fun f2 M2 hM2 g2 k2 hF2 => ⟨_, rfl, ?_⟩)
  refine x_istore_n (pc' := 10) (lv' := [(1, _), (0, _)]) rfl rfl (Nat.le_of_ble_eq_true rfl) rfl ?_
  refine x_aload_n (pc' := 11) rfl rfl rfl ?_
  refine x_iconst (pc' := 12) rfl rfl iconst_0 ?_
  refine x_cV1v (d := 1) (pc' := 15) rfl rfl sX6_160 gX6_lays (hM2.1) ⟨Nat.le_of_ble_eq_true rfl, Nat.le_of_ble_eq_true rfl⟩ (Nat.le_of_ble_eq_true rfl) ⟨Nat.le_of_ble_eq_true rfl, Nat.le_of_ble_eq_true rfl⟩ ?_
  refine m_lays (l := 0) (g := a_g A) (by decide) hM2 g2 (fr1.eq (k2.1 6 (by decide) (by decide))) ho.1 o1 (fun f3 M3 hM3 g3 e1 e2 e3 hF3 => ⟨rfl, ?_⟩)
  rw [a_plays_ly] at g3
  have hA3 : r_is M3 A := hA.sc ((k1.sc.trans k2.sc).trans (m_ly.sc e1 e2)) g3
  have hF := (hF1.trans hF2).trans hF3
  refine x_iload_n (pc' := 16) rfl rfl rfl ?_
  refine x_aload_n (pc' := 17) rfl rfl rfl ?_
  refine x_get (pc' := 20) rfl rfl rfl (hM3.1) rfl ?_
  refine x_eqi hA3.2.2.2.2.2.2.1 ?_
  refine x_icmp_ge (tgt := 27) (pc' := 23) rfl rfl rfl (fun c20 => ?_) (fun c20 => ?_)
  · rw [if_neg (fun q => absurd c20 (nI_ge q (by omega)))] at h
    refine x_bipush (pc' := 29) rfl rfl bipush_m9 ?_
    refine x_istore_n (pc' := 30) (lv' := [(2, _), (1, _), (0, _)]) rfl rfl (Nat.le_of_ble_eq_true rfl) rfl ?_
    refine x_aload_n (pc' := 31) rfl rfl rfl ?_
    refine x_iconst (pc' := 32) rfl rfl iconst_0 ?_
    refine x_put (pc' := 35) rfl rfl rfl (hM3.1) (Nat.le_of_ble_eq_true rfl) rfl rfl rfl rfl (fun f1 e1 => ?_)
    have hM4 := hM3.num 13 e1 (x_mFs13 _ _)
    have hF4 := hF.up e1 (by decide)
    refine x_iload_n (pc' := 36) rfl rfl rfl ?_
    obtain ⟨a1, a2, a3, a4, a5, a6, a7, a8, a9⟩ := id hA3
    exact x_ireturn rfl rfl rfl (Nat.le_refl _) (Nat.le_refl _) (h _ _ hM4 ⟨a1, a2, a3, a4.eq (fun i hi => pk_un (by omega)) rfl rfl, a5, a6, rfl, a8, a9⟩ hF4)
  · rw [if_pos (Nat.not_le.mp (fun q => c20 (nI_le q (by omega))))] at h
    refine x_iload_n (pc' := 24) rfl rfl rfl ?_
    refine x_goto (tgt := 29) rfl rfl ?_
    refine x_istore_n (pc' := 30) (lv' := [(2, _), (1, _), (0, _)]) rfl rfl (Nat.le_of_ble_eq_true rfl) rfl ?_
    refine x_aload_n (pc' := 31) rfl rfl rfl ?_
    refine x_iconst (pc' := 32) rfl rfl iconst_0 ?_
    refine x_put (pc' := 35) rfl rfl rfl (hM3.1) (Nat.le_of_ble_eq_true rfl) rfl rfl rfl rfl (fun f2 e2 => ?_)
    have hM4 := hM3.num 13 e2 (x_mFs13 _ _)
    have hF4 := hF.up e2 (by decide)
    refine x_iload_n (pc' := 36) rfl rfl rfl ?_
    obtain ⟨a1, a2, a3, a4, a5, a6, a7, a8, a9⟩ := id hA3
    exact x_ireturn rfl rfl rfl (Nat.le_refl _) (Nat.le_refl _) (h _ _ hM4 ⟨a1, a2, a3, a4.eq (fun i hi => pk_un (by omega)) rfl rfl, a5, a6, rfl, a8, a9⟩ hF4)
theorem r_played (hM : x_Mdl z f M) (hA : r_is M A) (ho : a_ok A) (h : r_ends z f post (s_played A a)) : Y E 9 mX6_played [.ref 59, .int a] z f 0 0 post := by
  refine Y.intro gX6_played (lv := [(0, .ref 59), (1, .int a)]) rfl (Nat.le_of_ble_eq_true rfl) ?_
  obtain ⟨b1, b2, b3, b4, b5, b6, b7, b8, b9⟩ := id hA
  obtain ⟨o1, o2⟩ := a_plays_ok ho
  by_cases d0 : a < 0 ∨ 1 < a
  · rw [show s_played A a = _ from if_pos d0] at h
    refine x_iload_n (pc' := 1) rfl rfl rfl ?_
    refine x_i2l (pc' := 2) rfl rfl ?_
    refine x_lconst (pc' := 3) rfl rfl lconst_0 ?_
    refine x_lconst (pc' := 4) rfl rfl lconst_1 ?_
    refine x_cS3i (d := 1) (pc' := 7) rfl rfl sX6_63 gX6_in ⟨Nat.le_of_ble_eq_true rfl, Nat.le_of_ble_eq_true rfl⟩ (Nat.le_of_ble_eq_true rfl) ⟨Nat.le_of_ble_eq_true rfl, Nat.le_of_ble_eq_true rfl⟩ ?_
    refine r_in (lo := 0) (hi := 1) (by decide) (by decide) (fun q => absurd d0 q) (fun _ => ⟨_, rfl, ?_⟩)
    refine x_if_ne (tgt := 17) (pc' := 10) rfl rfl rfl (fun c7 => absurd (rfl) c7) (fun _ => ?_)
    refine x_aload_n (pc' := 11) rfl rfl rfl ?_
    refine x_bipush (pc' := 13) rfl rfl bipush_m2 ?_
    refine x_cV1i (d := 1) (pc' := 16) rfl rfl sX6_110 gX6_refuse (hM.1) ⟨Nat.le_of_ble_eq_true rfl, Nat.le_of_ble_eq_true rfl⟩ (Nat.le_of_ble_eq_true rfl) ⟨Nat.le_of_ble_eq_true rfl, Nat.le_of_ble_eq_true rfl⟩ ?_
    refine r_refuse (k := 1) (by decide) (by decide) hM hA (fun f1 M1 hM1 hA1 hF1 => ⟨_, rfl, ?_⟩)
    exact x_ireturn rfl rfl rfl (Nat.le_of_ble_eq_true rfl) (Nat.le_of_ble_eq_true rfl) (h _ _ hM1 hA1 hF1)
  rw [show s_played A a = _ from if_neg d0] at h
  obtain ⟨ka, hka, rfl⟩ := nI_of2 (n := 1) (M := 1) rfl (fun q => d0 (Or.inl q)) (Int32.not_lt.mp (fun q => d0 (Or.inr q)))
  refine x_iload_n (pc' := 1) rfl rfl rfl ?_
  refine x_i2l (pc' := 2) rfl rfl ?_
  refine x_lconst (pc' := 3) rfl rfl lconst_0 ?_
  refine x_lconst (pc' := 4) rfl rfl lconst_1 ?_
  refine x_cS3i (d := 1) (pc' := 7) rfl rfl sX6_63 gX6_in ⟨Nat.le_of_ble_eq_true rfl, Nat.le_of_ble_eq_true rfl⟩ (Nat.le_of_ble_eq_true rfl) ⟨Nat.le_of_ble_eq_true rfl, Nat.le_of_ble_eq_true rfl⟩ ?_
  refine r_in (lo := 0) (hi := 1) (by decide) (by decide) (fun _ => ⟨_, rfl, ?_⟩) (fun q => absurd q d0)
  refine x_if_ne (tgt := 17) (pc' := 10) rfl rfl rfl (fun _ => ?_) (fun c7 => absurd c7 ((by decide)))
  refine x_aload_n (pc' := 18) rfl rfl rfl ?_
  refine x_iconst (pc' := 19) rfl rfl iconst_0 ?_
  refine x_cV1v (d := 1) (pc' := 22) rfl rfl sX6_154 gX6_keeps (hM.1) ⟨Nat.le_of_ble_eq_true rfl, Nat.le_of_ble_eq_true rfl⟩ (Nat.le_of_ble_eq_true rfl) ⟨Nat.le_of_ble_eq_true rfl, Nat.le_of_ble_eq_true rfl⟩ ?_
  refine m_keeps (l := 0) (by decide) hM b1 (fun f1 M1 hM1 g1 k1 fr1 hF1 => ⟨rfl, ?_⟩)
  have hA1 : r_is M1 A := hA.sc k1.sc g1
  refine x_aload_n (pc' := 23) rfl rfl rfl ?_
  refine x_cV0i (d := 5) (pc' := 26) rfl rfl sX6_215 gX6_plays (hM1.1) ⟨Nat.le_of_ble_eq_true rfl, Nat.le_of_ble_eq_true rfl⟩ (Nat.le_of_ble_eq_true rfl) ⟨Nat.le_of_ble_eq_true rfl, Nat.le_of_ble_eq_true rfl⟩ ?_
  refine m_plays hM1 hA1 ho (fun f2 M2 hM2 g2 k2 hF2 => ⟨_, rfl, ?_⟩)
  refine x_pop (pc' := 27) rfl rfl rfl ?_
  refine x_aload_n (pc' := 28) rfl rfl rfl ?_
  refine x_get (pc' := 31) rfl rfl rfl (hM2.1) rfl ?_
  refine x_iload_n (pc' := 32) rfl rfl rfl ?_
  refine x_iaload (pc' := 33) rfl rfl (hM2.2.1 2 (by decide)) (vp_in_nI (n := ka) (N := 2) (by omega) (by decide)) ?_
  refine x_eqi (show M2.2.1 2 (nI ka).toNatClampNeg = nI (g_π (a_plays A).2 (nI ka).toNatClampNeg) from by rw [g2.2.2.1]) ?_
  refine x_istore_n (pc' := 34) (lv' := [(2, _), (0, _), (1, _)]) rfl rfl (Nat.le_of_ble_eq_true rfl) rfl ?_
  refine x_aload_n (pc' := 35) rfl rfl rfl ?_
  refine x_iconst (pc' := 36) rfl rfl iconst_0 ?_
  refine x_cV1v (d := 1) (pc' := 39) rfl rfl sX6_160 gX6_lays (hM2.1) ⟨Nat.le_of_ble_eq_true rfl, Nat.le_of_ble_eq_true rfl⟩ (Nat.le_of_ble_eq_true rfl) ⟨Nat.le_of_ble_eq_true rfl, Nat.le_of_ble_eq_true rfl⟩ ?_
  refine m_lays (l := 0) (g := a_g A) (by decide) hM2 g2 (fr1.eq (k2.1 6 (by decide) (by decide))) ho.1 o1 (fun f3 M3 hM3 g3 e1 e2 e3 hF3 => ⟨rfl, ?_⟩)
  rw [a_plays_ly] at g3
  have hA3 : r_is M3 A := hA.sc ((k1.sc.trans k2.sc).trans (m_ly.sc e1 e2)) g3
  have hF := (hF1.trans hF2).trans hF3
  refine x_iload_n (pc' := 40) rfl rfl rfl ?_
  exact x_ireturn rfl rfl rfl (Nat.le_of_ble_eq_true rfl) (Nat.le_of_ble_eq_true rfl) (h _ _ hM3 hA3 hF)
end RB
end
section
-- == 52.refC
/-! The reference: the longest sowing, the picture, counts, lots. -/
theorem q_run_mono {κ : Nat → Nat} {n fu ln : Nat} : ∀ (k : Nat) (w : q_W), w.2.2.2.2.1 ≤ (q_run κ n fu ln k w).2.2.2.2.1
  | 0, w => Nat.le_refl _
  | k + 1, w => by
    by_cases hg : 0 < w.2.2.1 ∧ w.2.2.2.1 < n
    · rw [q_run_go hg]
      refine Nat.le_trans ?_ (q_run_mono k _)
      unfold q_st
      split
      · exact Nat.le_succ _
      · exact Nat.le_refl _
    · rw [q_run_stop hg]
      exact Nat.le_refl _
def q_it (n ln : Nat) : Nat → Nat → Nat
  | 0, p => p
  | j + 1, p => q_it n ln j (q_nx n ln p)
theorem q_it_9 : ∀ n, n < 10 → ∀ ln, ln < 2 → ∀ b, b < 10 → b < n → q_it n ln n b = b := by decide +kernel
theorem q_run_pos {κ : Nat → Nat} {n fu ln b : Nat} : ∀ (j K : Nat) (w : q_W), 0 < w.2.2.1 → w.2.2.2.1 + j = n → 0 < j → j ≤ K → q_it n ln j w.2.1 = b → q_tk κ w.1 fu b → 0 < (q_run κ n fu ln K w).2.2.2.2.1
  | 0, _, _, _, _, hj, _, _, _ => absurd hj (Nat.lt_irrefl 0)
  | j + 1, K, w, h0, hp, _, hK, hit, ht => by
    obtain ⟨K', rfl⟩ : ∃ K', K = K' + 1 := ⟨K - 1, by omega⟩
    rw [q_run_go ⟨h0, by omega⟩]
    by_cases hd : q_tk κ w.1 fu (q_nx n ln w.2.1)
    · refine Nat.lt_of_lt_of_le ?_ (q_run_mono K' _)
      unfold q_st
      rw [if_pos hd]
      exact Nat.succ_pos _
    · have hst : q_st κ n fu ln w = (w.1, q_nx n ln w.2.1, w.2.2.1, w.2.2.2.1 + 1, w.2.2.2.2.1, w.2.2.2.2.2) := by unfold q_st; rw [if_neg hd]
      rw [hst]
      by_cases hj : j = 0
      · subst hj
        exact absurd (show q_tk κ w.1 fu (q_nx n ln w.2.1) from by rw [show q_nx n ln w.2.1 = b from hit]; exact ht) hd
      · exact q_run_pos j K' _ h0 (by show w.2.2.2.1 + 1 + j = n; omega) (by omega) (by omega) hit ht
theorem q_hand_pos {κ β : Nat → Nat} {n fu ln b : Nat} {l : Option Nat} (hn : n ≤ 9) (hln : ln ≤ 1) (hb : b < n) (hf : 1 ≤ fu) (h0 : 0 < β b) : 0 < (q_hand κ n fu ln β b l).2.1 := by
  unfold q_hand
  refine q_run_pos (b := b) n 1000 _ h0 (Nat.zero_add n) (by omega) (by omega) (q_it_9 n (by omega) ln (by omega) b (by omega) hb) ?_
  show q_tk κ (q_up β b 0) fu b
  unfold q_tk
  rw [q_up_s]
  exact ⟨by decide, fun _ => hf⟩
theorem q_hands_mono {κ : Nat → Nat} {n fu ln : Nat} : ∀ (k : Nat) (β : Nat → Nat) (b hs s : Nat) (l : Option Nat), s ≤ (q_hands κ n fu ln k β b hs s l).2.2.1
  | 0, β, b, hs, s, l => Nat.le_refl _
  | k + 1, β, b, hs, s, l => by
    rw [q_hands]
    split
    · exact Nat.le_trans (Nat.le_add_right _ _) (q_hands_mono k _ _ _ _ _)
    · exact Nat.le_add_right _ _
theorem g_v_pos {C : Nat} {g : q_G} {b : Nat} (h : g_ok C g) (hc : g_can g b) : 0 < (g_v g b).2.2.1 := by
  unfold g_v q_mv
  rw [if_pos ⟨hc.1, hc.2.2⟩]
  have h1 := q_hand_pos (κ := g_κ g) (l := none) h.1 h.2.2.1 hc.2.1 h.2.1.1 hc.2.2
  rw [q_hands]
  split
  · exact Nat.lt_of_lt_of_le (by show 0 < 0 + _; omega) (q_hands_mono 59 _ _ _ _ _)
  · show 0 < 0 + _
    omega
theorem q_lng_0 {C : Nat} {g : q_G} (h : g_ok C g) : ∀ i, i ≤ 9 → ((q_lng g i).1 = -9 ∧ (q_lng g i).2 = 0) ∨ (¬ (q_lng g i).1 = -9)
  | 0, _ => Or.inl ⟨rfl, rfl⟩
  | i + 1, hi => by
    unfold q_lng
    split
    · refine Or.inr (fun q => ?_)
      have h2 : ¬ nI i < 0 := nI_pos (by omega)
      rw [show nI i = -9 from q] at h2
      exact h2 (by decide)
    · exact q_lng_0 h i (by omega)
/-- an array copied as far as k -/
def x_cpk (k : Nat) (s d : Nat → Int32) : Nat → Int32 := fun j => if j < k then s j else d j
theorem x_cpk_0 (s d : Nat → Int32) : x_cpk 0 s d = d := by
  funext j
  exact if_neg (Nat.not_lt_zero j)
theorem x_cpk_s (k : Nat) (s d : Nat → Int32) : upd (x_cpk k s d) k (s k) = x_cpk (k + 1) s d := by
  funext j
  unfold upd x_cpk
  by_cases h : j = k
  · rw [if_pos h, if_pos (by omega), h]
  · rw [if_neg h]
    by_cases h2 : j < k
    · rw [if_pos h2, if_pos (by omega)]
    · rw [if_neg h2, if_neg (by omega)]
theorem x_ua_ua (X : Nat → Nat → Int32) (j : Nat) (g h : Nat → Int32) : x_ua (x_ua X j g) j h = x_ua X j h := by
  funext i
  unfold x_ua
  split <;> rfl
theorem x_ua_id (X : Nat → Nat → Int32) (j : Nat) : x_ua X j (X j) = X := by
  funext i
  unfold x_ua
  split
  · rename_i h
    rw [h]
  · rfl
section RC
variable {E : x_E} {z : Nat} {f : x_H} {S : x_S} {M : x_N} {A : q_A} {post : Option Value → x_H → Prop} {a b : Int32} {g : q_G} {C : Nat}
theorem r_longestL (ho : a_ok A) (f0 : x_H) (M0 : x_N) (hA : r_is M0 A) (h : r_ends z f0 post (A, (q_lng (a_g A) (g_n (a_g A))).1)) : ∀ (k i : Nat) (f : x_H) (M : x_N), i + k = g_n (a_g A) → x_Mdl z f M → m_is M (a_g A) → r_sc M0 M → m_fr M 0 (a_g A) → x_fr (fun q => q < 59) f0 f → X E (x_rm 9 0 0) mX6_longest (x_QM E z 0 0 post) 12 [(3, .int (nI i)), (2, .int (nI (q_lng (a_g A) i).2)), (1, .int (q_lng (a_g A) i).1), (0, .ref 59)] [] z f 0 0 := by
  have hn9 := ho.1.1
  intro k
  induction k with
  | zero =>
    intro i f M hi hM hm hs hfr hF
    have hi2 : i = g_n (a_g A) := by omega
    subst hi2
    refine x_iload_n (pc' := 13) rfl rfl rfl ?_
    refine x_aload_n (pc' := 14) rfl rfl rfl ?_
    refine x_get (pc' := 17) rfl rfl rfl (hM.1) rfl ?_
    refine x_eqi hm.2.2.2.1 ?_
    refine x_icmp_ge (tgt := 65) (pc' := 20) rfl rfl rfl (fun _ => ?_) (fun c17 => absurd ((Int32.le_refl _)) c17)
    refine x_iload_n (pc' := 66) rfl rfl rfl ?_
    exact x_ireturn rfl rfl rfl (Nat.le_of_ble_eq_true rfl) (Nat.le_of_ble_eq_true rfl) (h _ _ hM (hA.sc hs hm) hF)
  | succ k ih =>
    intro i f M hi hM hm hs hfr hF
    have hA1 : r_is M A := hA.sc hs hm
    have hle := q_lng_le ho.1 (by decide) i
    have eq1 : q_lng (a_g A) (i + 1) = if g_can (a_g A) i ∧ (q_lng (a_g A) i).2 < (g_v (a_g A) i).2.2.1 then (nI i, (g_v (a_g A) i).2.2.1) else q_lng (a_g A) i := rfl
    refine x_iload_n (pc' := 13) rfl rfl rfl ?_
    refine x_aload_n (pc' := 14) rfl rfl rfl ?_
    refine x_get (pc' := 17) rfl rfl rfl (hM.1) rfl ?_
    refine x_eqi hm.2.2.2.1 ?_
    refine x_icmp_ge (tgt := 65) (pc' := 20) rfl rfl rfl (fun c17 => absurd c17 ((nI_ge (by omega) (by omega)))) (fun _ => ?_)
    refine x_aload_n (pc' := 21) rfl rfl rfl ?_
    refine x_iload_n (pc' := 22) rfl rfl rfl ?_
    refine x_cV1i (d := 3) (pc' := 25) rfl rfl sX6_135 gX6_canMove (hM.1) ⟨Nat.le_of_ble_eq_true rfl, Nat.le_of_ble_eq_true rfl⟩ (Nat.le_of_ble_eq_true rfl) ⟨Nat.le_of_ble_eq_true rfl, Nat.le_of_ble_eq_true rfl⟩ ?_
    refine m_can1 hM hm ho.1 (by decide) (by omega) (fun d2 => ⟨_, rfl, ?_⟩) (fun d2 => ⟨_, rfl, ?_⟩)
    · refine x_if_eq (tgt := 59) (pc' := 28) rfl rfl rfl (fun c25 => absurd c25 ((by decide))) (fun _ => ?_)
      refine x_aload_n (pc' := 29) rfl rfl rfl ?_
      refine x_iload_n (pc' := 30) rfl rfl rfl ?_
      refine x_cV1v (d := 4) (pc' := 33) rfl rfl sX6_141 gX6_moves (hM.1) ⟨Nat.le_of_ble_eq_true rfl, Nat.le_of_ble_eq_true rfl⟩ (Nat.le_of_ble_eq_true rfl) ⟨Nat.le_of_ble_eq_true rfl, Nat.le_of_ble_eq_true rfl⟩ ?_
      refine m_mv hM hm ho.1 (by decide) d2 hA1.2.2.1 (fun f1 M1 hM1 g1 k1 e14 e15 e16 e17 hF1 => ⟨rfl, ?_⟩)
      refine x_aload_n (pc' := 34) rfl rfl rfl ?_
      refine x_iconst (pc' := 35) rfl rfl iconst_0 ?_
      refine x_cV1v (d := 1) (pc' := 38) rfl rfl sX6_160 gX6_lays (hM1.1) ⟨Nat.le_of_ble_eq_true rfl, Nat.le_of_ble_eq_true rfl⟩ (Nat.le_of_ble_eq_true rfl) ⟨Nat.le_of_ble_eq_true rfl, Nat.le_of_ble_eq_true rfl⟩ ?_
      refine m_lays (l := 0) (g := a_g A) (by decide) hM1 g1 (hfr.eq (k1.1 6 (by decide) (by decide))) ho.1 (g_mv_ok ho.1 (by decide) (by decide) d2.2.1) (fun f3 M3 hM3 g3 e1 e2 e3 hF3 => ⟨rfl, ?_⟩)
      have hs3 : r_sc M0 M3 := (hs.trans k1.sc).trans (m_ly.sc e1 e2)
      have hF2 := (hF.trans hF1).trans hF3
      have hfr3 : m_fr M3 0 (a_g A) := hfr.eq ((e2 6 (by decide) (by decide)).trans (k1.1 6 (by decide) (by decide)))
      have hpos := g_v_pos ho.1 d2
      have hsle := g_v_s ho.1 (by decide) d2.2.1
      have e16' : M3.1 16 = nI (g_v (a_g A) i).2.2.1 := (e1 16 (by decide)).trans e16
      have h9 := ih (i + 1) f3 M3 (by omega) hM3 g3 hs3 hfr3 hF2
      refine x_iload_n (pc' := 39) rfl rfl rfl ?_
      refine x_bipush (pc' := 41) rfl rfl bipush_m9 ?_
      by_cases d3 : (q_lng (a_g A) i).2 < (g_v (a_g A) i).2.2.1
      · rw [if_pos ⟨d2, d3⟩] at eq1
        rw [eq1] at h9
        refine x_icmp_eq (tgt := 52) (pc' := 44) rfl rfl rfl (fun q => ?_) (fun q => ?_)
        · refine x_iload_n (pc' := 53) rfl rfl rfl ?_
          refine x_istore_n (pc' := 54) (lv' := [(1, _), (3, _), (2, _), (0, _)]) rfl rfl (Nat.le_of_ble_eq_true rfl) rfl ?_
          refine x_aload_n (pc' := 55) rfl rfl rfl ?_
          refine x_get (pc' := 58) rfl rfl rfl (hM3.1) rfl ?_
          refine x_eqi e16' ?_
          refine x_istore_n (pc' := 59) (lv' := [(2, _), (1, _), (3, _), (0, _)]) rfl rfl (Nat.le_of_ble_eq_true rfl) rfl ?_
          refine x_iinc (pc' := 62) (lv' := [(3, _), (2, _), (1, _), (0, _)]) rfl rfl (Nat.le_of_ble_eq_true rfl) rfl (nI_1 i) rfl ?_
          refine x_goto (tgt := 12) rfl rfl ?_
          refine x_lvp [0, 1, 2, 3] rfl ?_
          exact h9
        · refine x_aload_n (pc' := 45) rfl rfl rfl ?_
          refine x_get (pc' := 48) rfl rfl rfl (hM3.1) rfl ?_
          refine x_eqi e16' ?_
          refine x_iload_n (pc' := 49) rfl rfl rfl ?_
          refine x_icmp_le (tgt := 59) (pc' := 52) rfl rfl rfl (fun c49 => absurd c49 ((nI_ge d3 (by omega)))) (fun _ => ?_)
          refine x_iload_n (pc' := 53) rfl rfl rfl ?_
          refine x_istore_n (pc' := 54) (lv' := [(1, _), (3, _), (2, _), (0, _)]) rfl rfl (Nat.le_of_ble_eq_true rfl) rfl ?_
          refine x_aload_n (pc' := 55) rfl rfl rfl ?_
          refine x_get (pc' := 58) rfl rfl rfl (hM3.1) rfl ?_
          refine x_eqi e16' ?_
          refine x_istore_n (pc' := 59) (lv' := [(2, _), (1, _), (3, _), (0, _)]) rfl rfl (Nat.le_of_ble_eq_true rfl) rfl ?_
          refine x_iinc (pc' := 62) (lv' := [(3, _), (2, _), (1, _), (0, _)]) rfl rfl (Nat.le_of_ble_eq_true rfl) rfl (nI_1 i) rfl ?_
          refine x_goto (tgt := 12) rfl rfl ?_
          refine x_lvp [0, 1, 2, 3] rfl ?_
          exact h9
      · rw [if_neg (fun q => d3 q.2)] at eq1
        rw [eq1] at h9
        refine x_icmp_eq (tgt := 52) (pc' := 44) rfl rfl rfl (fun q => ?_) (fun q => ?_)
        · exfalso
          rcases q_lng_0 ho.1 i (by omega) with h0 | h0
          · rw [h0.2] at d3
            exact d3 hpos
          · exact h0 q
        · refine x_aload_n (pc' := 45) rfl rfl rfl ?_
          refine x_get (pc' := 48) rfl rfl rfl (hM3.1) rfl ?_
          refine x_eqi e16' ?_
          refine x_iload_n (pc' := 49) rfl rfl rfl ?_
          refine x_icmp_le (tgt := 59) (pc' := 52) rfl rfl rfl (fun _ => ?_) (fun c49 => absurd ((nI_le (by omega) (by omega))) c49)
          refine x_iinc (pc' := 62) (lv' := [(3, _), (2, _), (1, _), (0, _)]) rfl rfl (Nat.le_of_ble_eq_true rfl) rfl (nI_1 i) rfl ?_
          refine x_goto (tgt := 12) rfl rfl ?_
          exact h9
    · rw [if_neg (fun q => d2 q.1)] at eq1
      refine x_if_eq (tgt := 59) (pc' := 28) rfl rfl rfl (fun _ => ?_) (fun c25 => absurd (rfl) c25)
      refine x_iinc (pc' := 62) (lv' := [(3, _), (2, _), (1, _), (0, _)]) rfl rfl (Nat.le_of_ble_eq_true rfl) rfl (nI_1 i) rfl ?_
      refine x_goto (tgt := 12) rfl rfl ?_
      have h9 := ih (i + 1) f M (by omega) hM hm hs hfr hF
      rw [eq1] at h9
      exact h9
theorem r_longest (hM : x_Mdl z f M) (hA : r_is M A) (ho : a_ok A) (h : r_ends z f post (A, (q_lng (a_g A) (g_n (a_g A))).1)) : Y E 9 mX6_longest [.ref 59] z f 0 0 post := by
  refine Y.intro gX6_longest (lv := [(0, .ref 59)]) rfl (Nat.le_of_ble_eq_true rfl) ?_
  refine x_bipush (pc' := 2) rfl rfl bipush_m9 ?_
  refine x_istore_n (pc' := 3) (lv' := [(1, _), (0, _)]) rfl rfl (Nat.le_of_ble_eq_true rfl) rfl ?_
  refine x_iconst (pc' := 4) rfl rfl iconst_0 ?_
  refine x_istore_n (pc' := 5) (lv' := [(2, _), (1, _), (0, _)]) rfl rfl (Nat.le_of_ble_eq_true rfl) rfl ?_
  refine x_aload_n (pc' := 6) rfl rfl rfl ?_
  refine x_iconst (pc' := 7) rfl rfl iconst_0 ?_
  refine x_cV1v (d := 1) (pc' := 10) rfl rfl sX6_154 gX6_keeps (hM.1) ⟨Nat.le_of_ble_eq_true rfl, Nat.le_of_ble_eq_true rfl⟩ (Nat.le_of_ble_eq_true rfl) ⟨Nat.le_of_ble_eq_true rfl, Nat.le_of_ble_eq_true rfl⟩ ?_
  refine m_keeps (l := 0) (by decide) hM hA.1 (fun f1 M1 hM1 g1 k1 fr1 hF1 => ⟨rfl, ?_⟩)
  refine x_iconst (pc' := 11) rfl rfl iconst_0 ?_
  refine x_istore_n (pc' := 12) (lv' := [(3, _), (2, _), (1, _), (0, _)]) rfl rfl (Nat.le_of_ble_eq_true rfl) rfl ?_
  exact r_longestL ho f M hA h (g_n (a_g A)) 0 f1 M1 (by omega) hM1 g1 k1.sc fr1 hF1
-- the picture
theorem r_imgL1 (f0 : x_H) (M0 : x_N) (K : ∀ f' : x_H, x_Mdl z f' (M0.1, x_ua M0.2.1 9 (x_cpk 12 (M0.2.1 6) (M0.2.1 9)), M0.2.2) → x_fr (fun q => q < 59) f0 f' → X E (x_rm 9 0 0) mX6_image (x_QM E z 0 0 post) 31 [(1, .int (nI 12)), (0, .ref 59)] [] z f' 0 0) : ∀ (k i : Nat) (f : x_H), i + k = 12 → x_Mdl z f (M0.1, x_ua M0.2.1 9 (x_cpk i (M0.2.1 6) (M0.2.1 9)), M0.2.2) → x_fr (fun q => q < 59) f0 f → X E (x_rm 9 0 0) mX6_image (x_QM E z 0 0 post) 7 [(1, .int (nI i)), (0, .ref 59)] [] z f 0 0 := by
  intro k
  induction k with
  | zero =>
    intro i f hi hM hF
    have hi2 : i = 12 := by omega
    subst hi2
    refine x_iload_n (pc' := 8) rfl rfl rfl ?_
    refine x_bipush (pc' := 10) rfl rfl bipush_12 ?_
    refine x_icmp_ge (tgt := 31) (pc' := 13) rfl rfl rfl (fun _ => ?_) (fun c10 => absurd ((by decide : (12 : Int32) ≤ nI 12)) c10)
    exact K _ hM hF
  | succ k ih =>
    intro i f hi hM hF
    have hcl : (nI i).toNatClampNeg = i := nI_clamp (by omega)
    refine x_iload_n (pc' := 8) rfl rfl rfl ?_
    refine x_bipush (pc' := 10) rfl rfl bipush_12 ?_
    refine x_icmp_ge (tgt := 31) (pc' := 13) rfl rfl rfl (fun c10 => absurd c10 ((nI_ge (a := i) (b := 12) (by omega) (by decide)))) (fun _ => ?_)
    refine x_aload_n (pc' := 14) rfl rfl rfl ?_
    refine x_get (pc' := 17) rfl rfl rfl (hM.1) rfl ?_
    refine x_iload_n (pc' := 18) rfl rfl rfl ?_
    refine x_aload_n (pc' := 19) rfl rfl rfl ?_
    refine x_get (pc' := 22) rfl rfl rfl (hM.1) rfl ?_
    refine x_iload_n (pc' := 23) rfl rfl rfl ?_
    refine x_iaload (pc' := 24) rfl rfl (hM.2.1 6 (by decide)) (vp_in_nI (n := i) (N := 96) (by omega) (by decide)) ?_
    refine x_eqi (show M0.2.1 6 (nI i).toNatClampNeg = M0.2.1 6 i from by rw [hcl]) ?_
    refine x_iastore (pc' := 25) rfl rfl (hM.2.1 9 (by decide)) (vp_in_nI (n := i) (N := 12) (by omega) (by decide)) (fun f1 e1 => ?_)
    have hM1 := hM.arr 9 (by decide) e1
    have hF1 := hF.up e1 (by decide)
    refine x_iinc (pc' := 28) (lv' := [(1, _), (0, _)]) rfl rfl (Nat.le_of_ble_eq_true rfl) rfl (nI_1 i) rfl ?_
    refine x_goto (tgt := 7) rfl rfl ?_
    refine ih (i + 1) _ (by omega) ?_ hF1
    have e9 : x_ua (x_ua M0.2.1 9 (x_cpk i (M0.2.1 6) (M0.2.1 9))) 9 (upd (x_cpk i (M0.2.1 6) (M0.2.1 9)) (nI i).toNatClampNeg (M0.2.1 6 i)) = x_ua M0.2.1 9 (x_cpk (i + 1) (M0.2.1 6) (M0.2.1 9)) := by rw [x_ua_ua, hcl, x_cpk_s]
    rw [← e9]
    exact hM1
theorem r_imgL2 (f0 : x_H) (M0 : x_N) (K : ∀ f' : x_H, x_Mdl z f' (M0.1, x_ua M0.2.1 10 (x_cpk 9 (M0.2.1 0) (M0.2.1 10)), M0.2.2) → x_fr (fun q => q < 59) f0 f' → X E (x_rm 9 0 0) mX6_image (x_QM E z 0 0 post) 57 [(1, .int (nI 9)), (0, .ref 59)] [] z f' 0 0) : ∀ (k i : Nat) (f : x_H), i + k = 9 → x_Mdl z f (M0.1, x_ua M0.2.1 10 (x_cpk i (M0.2.1 0) (M0.2.1 10)), M0.2.2) → x_fr (fun q => q < 59) f0 f → X E (x_rm 9 0 0) mX6_image (x_QM E z 0 0 post) 33 [(1, .int (nI i)), (0, .ref 59)] [] z f 0 0 := by
  intro k
  induction k with
  | zero =>
    intro i f hi hM hF
    have hi2 : i = 9 := by omega
    subst hi2
    refine x_iload_n (pc' := 34) rfl rfl rfl ?_
    refine x_bipush (pc' := 36) rfl rfl bipush_9 ?_
    refine x_icmp_ge (tgt := 57) (pc' := 39) rfl rfl rfl (fun _ => ?_) (fun c36 => absurd ((by decide : (9 : Int32) ≤ nI 9)) c36)
    exact K _ hM hF
  | succ k ih =>
    intro i f hi hM hF
    have hcl : (nI i).toNatClampNeg = i := nI_clamp (by omega)
    refine x_iload_n (pc' := 34) rfl rfl rfl ?_
    refine x_bipush (pc' := 36) rfl rfl bipush_9 ?_
    refine x_icmp_ge (tgt := 57) (pc' := 39) rfl rfl rfl (fun c36 => absurd c36 ((nI_ge (a := i) (b := 9) (by omega) (by decide)))) (fun _ => ?_)
    refine x_aload_n (pc' := 40) rfl rfl rfl ?_
    refine x_get (pc' := 43) rfl rfl rfl (hM.1) rfl ?_
    refine x_iload_n (pc' := 44) rfl rfl rfl ?_
    refine x_aload_n (pc' := 45) rfl rfl rfl ?_
    refine x_get (pc' := 48) rfl rfl rfl (hM.1) rfl ?_
    refine x_iload_n (pc' := 49) rfl rfl rfl ?_
    refine x_iaload (pc' := 50) rfl rfl (hM.2.1 0 (by decide)) (vp_in_nI (n := i) (N := 9) (by omega) (by decide)) ?_
    refine x_eqi (show M0.2.1 0 (nI i).toNatClampNeg = M0.2.1 0 i from by rw [hcl]) ?_
    refine x_iastore (pc' := 51) rfl rfl (hM.2.1 10 (by decide)) (vp_in_nI (n := i) (N := 9) (by omega) (by decide)) (fun f1 e1 => ?_)
    have hM1 := hM.arr 10 (by decide) e1
    have hF1 := hF.up e1 (by decide)
    refine x_iinc (pc' := 54) (lv' := [(1, _), (0, _)]) rfl rfl (Nat.le_of_ble_eq_true rfl) rfl (nI_1 i) rfl ?_
    refine x_goto (tgt := 33) rfl rfl ?_
    refine ih (i + 1) _ (by omega) ?_ hF1
    have e9 : x_ua (x_ua M0.2.1 10 (x_cpk i (M0.2.1 0) (M0.2.1 10))) 10 (upd (x_cpk i (M0.2.1 0) (M0.2.1 10)) (nI i).toNatClampNeg (M0.2.1 0 i)) = x_ua M0.2.1 10 (x_cpk (i + 1) (M0.2.1 0) (M0.2.1 10)) := by rw [x_ua_ua, hcl, x_cpk_s]
    rw [← e9]
    exact hM1
theorem r_image (hM : x_Mdl z f M) (hA : r_is M A) (h : r_ends z f post (s_image A)) : Y E 9 mX6_image [.ref 59] z f 0 0 post := by
  refine Y.intro gX6_image (lv := [(0, .ref 59)]) rfl (Nat.le_of_ble_eq_true rfl) ?_
  obtain ⟨b1, b2, b3, b4, b5, b6, b7, b8, b9⟩ := id hA
  obtain ⟨t1, t2, t3, t4, t5, t6, t7⟩ := id b1
  refine x_aload_n (pc' := 1) rfl rfl rfl ?_
  refine x_iconst (pc' := 2) rfl rfl iconst_0 ?_
  refine x_cV1v (d := 1) (pc' := 5) rfl rfl sX6_154 gX6_keeps (hM.1) ⟨Nat.le_of_ble_eq_true rfl, Nat.le_of_ble_eq_true rfl⟩ (Nat.le_of_ble_eq_true rfl) ⟨Nat.le_of_ble_eq_true rfl, Nat.le_of_ble_eq_true rfl⟩ ?_
  refine m_keeps (l := 0) (by decide) hM b1 (fun f1 M1 hM1 g1 k1 fr1 hF1 => ⟨rfl, ?_⟩)
  refine x_iconst (pc' := 6) rfl rfl iconst_0 ?_
  refine x_istore_n (pc' := 7) (lv' := [(1, _), (0, _)]) rfl rfl (Nat.le_of_ble_eq_true rfl) rfl ?_
  refine r_imgL1 f M1 (fun f2 hM2 hF2 => ?_) 12 0 f1 (by omega) (by rw [x_cpk_0, x_ua_id]; exact hM1) hF1
  refine x_iconst (pc' := 32) rfl rfl iconst_0 ?_
  refine x_istore_n (pc' := 33) (lv' := [(1, _), (0, _)]) rfl rfl (Nat.le_of_ble_eq_true rfl) rfl ?_
  refine r_imgL2 f (M1.1, x_ua M1.2.1 9 (x_cpk 12 (M1.2.1 6) (M1.2.1 9)), M1.2.2) (fun f3 hM3 hF3 => ?_) 9 0 f2 (by omega) (by rw [x_cpk_0, x_ua_id]; exact hM2) hF2
  refine x_aload_n (pc' := 58) rfl rfl rfl ?_
  refine x_aload_n (pc' := 59) rfl rfl rfl ?_
  refine x_get (pc' := 62) rfl rfl rfl (hM3.1) rfl ?_
  refine x_eqi (show M1.1 3 = nI (g_n (a_g A)) from by rw [k1.1]; exact t4) ?_
  refine x_put (pc' := 65) rfl rfl rfl (hM3.1) (Nat.le_of_ble_eq_true rfl) rfl rfl rfl rfl (fun f1 e1 => ?_)
  have hM4 := hM3.num 28 e1 (x_mFs28 _ _)
  have hF4 := hF3.up e1 (by decide)
  refine x_aload_n (pc' := 66) rfl rfl rfl ?_
  refine x_aload_n (pc' := 67) rfl rfl rfl ?_
  refine x_get (pc' := 70) rfl rfl rfl (hM4.1) rfl ?_
  refine x_eqi (show M1.1 4 = nI (g_f (a_g A)) from by rw [k1.1]; exact t5) ?_
  refine x_put (pc' := 73) rfl rfl rfl (hM4.1) (Nat.le_of_ble_eq_true rfl) rfl rfl rfl rfl (fun f2 e2 => ?_)
  have hM5 := hM4.num 29 e2 (x_mFs29 _ _)
  have hF5 := hF4.up e2 (by decide)
  refine x_aload_n (pc' := 74) rfl rfl rfl ?_
  refine x_aload_n (pc' := 75) rfl rfl rfl ?_
  refine x_get (pc' := 78) rfl rfl rfl (hM5.1) rfl ?_
  refine x_eqi (show M1.1 5 = nI (g_l (a_g A)) from by rw [k1.1]; exact t6) ?_
  refine x_put (pc' := 81) rfl rfl rfl (hM5.1) (Nat.le_of_ble_eq_true rfl) rfl rfl rfl rfl (fun f3 e3 => ?_)
  have hM6 := hM5.num 30 e3 (x_mFs30 _ _)
  have hF6 := hF5.up e3 (by decide)
  refine x_aload_n (pc' := 82) rfl rfl rfl ?_
  refine x_aload_n (pc' := 83) rfl rfl rfl ?_
  refine x_get (pc' := 86) rfl rfl rfl (hM6.1) rfl ?_
  refine x_eqi (show M1.1 8 = nI (a_mv A) from by rw [k1.1]; exact b2) ?_
  refine x_put (pc' := 89) rfl rfl rfl (hM6.1) (Nat.le_of_ble_eq_true rfl) rfl rfl rfl rfl (fun f4 e4 => ?_)
  have hM7 := hM6.num 31 e4 (x_mFs31 _ _)
  have hF7 := hF6.up e4 (by decide)
  refine x_aload_n (pc' := 90) rfl rfl rfl ?_
  refine x_get (pc' := 93) rfl rfl rfl (hM7.1) rfl ?_
  refine x_eqi (show M1.1 8 = nI (a_mv A) from by rw [k1.1]; exact b2) ?_
  obtain ⟨u1, u2, u3, u4, u5, u6, u7⟩ := g1
  obtain ⟨w1, w2, w3, w4⟩ := fr1
  refine x_ireturn rfl rfl rfl (Nat.le_refl _) (Nat.le_refl _) (h _ _ hM7 ⟨⟨u1, u2, u3, u4, u5, u6, u7⟩, (by show M1.1 8 = _; rw [k1.1]; exact b2), (by show M1.1 18 = _; rw [k1.1]; exact b3), ⟨rfl, fun j hj => ?_, ?_, ?_, ?_, fun j hj => ?_, rfl, rfl, rfl⟩, (by show M1.1 11 = _; rw [k1.1]; exact b5), (by show M1.2.1 4 = _; rw [k1.2.1 4 (by decide)]; exact b6), (by show M1.1 13 = _; rw [k1.1]; exact b7), (by show M1.2.1 5 = _; rw [k1.2.1 5 (by decide)]; exact b8), (by show M1.2.1 3 = _; rw [k1.2.1 3 (by decide)]; exact b9)⟩ hF7)
  · show (if j < 12 then M1.2.1 6 j else _) = _
    rw [if_pos (by omega)]
    have := w1 j hj
    rw [show 12 * 0 + j = j by omega] at this
    exact this
  · exact w2
  · exact w3
  · exact w4
  · show (if j < 9 then M1.2.1 0 j else _) = _
    rw [if_pos hj, u1]
theorem r_onL1 (f0 : x_H) (M0 : x_N) (K : ∀ f' : x_H, x_Mdl z f' (M0.1, x_ua M0.2.1 6 (x_cpk 12 (M0.2.1 9) (M0.2.1 6)), M0.2.2) → x_fr (fun q => q < 59) f0 f' → X E (x_rm 9 0 0) mX6_on (x_QM E z 0 0 post) 40 [(1, .int (nI 12)), (0, .ref 59)] [] z f' 0 0) : ∀ (k i : Nat) (f : x_H), i + k = 12 → x_Mdl z f (M0.1, x_ua M0.2.1 6 (x_cpk i (M0.2.1 9) (M0.2.1 6)), M0.2.2) → x_fr (fun q => q < 59) f0 f → X E (x_rm 9 0 0) mX6_on (x_QM E z 0 0 post) 16 [(1, .int (nI i)), (0, .ref 59)] [] z f 0 0 := by
  intro k
  induction k with
  | zero =>
    intro i f hi hM hF
    have hi2 : i = 12 := by omega
    subst hi2
    refine x_iload_n (pc' := 17) rfl rfl rfl ?_
    refine x_bipush (pc' := 19) rfl rfl bipush_12 ?_
    refine x_icmp_ge (tgt := 40) (pc' := 22) rfl rfl rfl (fun _ => ?_) (fun c19 => absurd ((by decide : (12 : Int32) ≤ nI 12)) c19)
    exact K _ hM hF
  | succ k ih =>
    intro i f hi hM hF
    have hcl : (nI i).toNatClampNeg = i := nI_clamp (by omega)
    refine x_iload_n (pc' := 17) rfl rfl rfl ?_
    refine x_bipush (pc' := 19) rfl rfl bipush_12 ?_
    refine x_icmp_ge (tgt := 40) (pc' := 22) rfl rfl rfl (fun c19 => absurd c19 ((nI_ge (a := i) (b := 12) (by omega) (by decide)))) (fun _ => ?_)
    refine x_aload_n (pc' := 23) rfl rfl rfl ?_
    refine x_get (pc' := 26) rfl rfl rfl (hM.1) rfl ?_
    refine x_iload_n (pc' := 27) rfl rfl rfl ?_
    refine x_aload_n (pc' := 28) rfl rfl rfl ?_
    refine x_get (pc' := 31) rfl rfl rfl (hM.1) rfl ?_
    refine x_iload_n (pc' := 32) rfl rfl rfl ?_
    refine x_iaload (pc' := 33) rfl rfl (hM.2.1 9 (by decide)) (vp_in_nI (n := i) (N := 12) (by omega) (by decide)) ?_
    refine x_eqi (show M0.2.1 9 (nI i).toNatClampNeg = M0.2.1 9 i from by rw [hcl]) ?_
    refine x_iastore (pc' := 34) rfl rfl (hM.2.1 6 (by decide)) (vp_in_nI (n := i) (N := 96) (by omega) (by decide)) (fun f1 e1 => ?_)
    have hM1 := hM.arr 6 (by decide) e1
    have hF1 := hF.up e1 (by decide)
    refine x_iinc (pc' := 37) (lv' := [(1, _), (0, _)]) rfl rfl (Nat.le_of_ble_eq_true rfl) rfl (nI_1 i) rfl ?_
    refine x_goto (tgt := 16) rfl rfl ?_
    refine ih (i + 1) _ (by omega) ?_ hF1
    have e9 : x_ua (x_ua M0.2.1 6 (x_cpk i (M0.2.1 9) (M0.2.1 6))) 6 (upd (x_cpk i (M0.2.1 9) (M0.2.1 6)) (nI i).toNatClampNeg (M0.2.1 9 i)) = x_ua M0.2.1 6 (x_cpk (i + 1) (M0.2.1 9) (M0.2.1 6)) := by rw [x_ua_ua, hcl, x_cpk_s]
    rw [← e9]
    exact hM1
theorem r_onL2 (f0 : x_H) (M0 : x_N) (K : ∀ f' : x_H, x_Mdl z f' (M0.1, x_ua M0.2.1 0 (x_cpk 9 (M0.2.1 10) (M0.2.1 0)), M0.2.2) → x_fr (fun q => q < 59) f0 f' → X E (x_rm 9 0 0) mX6_on (x_QM E z 0 0 post) 71 [(1, .int (nI 9)), (0, .ref 59)] [] z f' 0 0) : ∀ (k i : Nat) (f : x_H), i + k = 9 → x_Mdl z f (M0.1, x_ua M0.2.1 0 (x_cpk i (M0.2.1 10) (M0.2.1 0)), M0.2.2) → x_fr (fun q => q < 59) f0 f → X E (x_rm 9 0 0) mX6_on (x_QM E z 0 0 post) 47 [(1, .int (nI i)), (0, .ref 59)] [] z f 0 0 := by
  intro k
  induction k with
  | zero =>
    intro i f hi hM hF
    have hi2 : i = 9 := by omega
    subst hi2
    refine x_iload_n (pc' := 48) rfl rfl rfl ?_
    refine x_bipush (pc' := 50) rfl rfl bipush_9 ?_
    refine x_icmp_ge (tgt := 71) (pc' := 53) rfl rfl rfl (fun _ => ?_) (fun c50 => absurd ((by decide : (9 : Int32) ≤ nI 9)) c50)
    exact K _ hM hF
  | succ k ih =>
    intro i f hi hM hF
    have hcl : (nI i).toNatClampNeg = i := nI_clamp (by omega)
    refine x_iload_n (pc' := 48) rfl rfl rfl ?_
    refine x_bipush (pc' := 50) rfl rfl bipush_9 ?_
    refine x_icmp_ge (tgt := 71) (pc' := 53) rfl rfl rfl (fun c50 => absurd c50 ((nI_ge (a := i) (b := 9) (by omega) (by decide)))) (fun _ => ?_)
    refine x_aload_n (pc' := 54) rfl rfl rfl ?_
    refine x_get (pc' := 57) rfl rfl rfl (hM.1) rfl ?_
    refine x_iload_n (pc' := 58) rfl rfl rfl ?_
    refine x_aload_n (pc' := 59) rfl rfl rfl ?_
    refine x_get (pc' := 62) rfl rfl rfl (hM.1) rfl ?_
    refine x_iload_n (pc' := 63) rfl rfl rfl ?_
    refine x_iaload (pc' := 64) rfl rfl (hM.2.1 10 (by decide)) (vp_in_nI (n := i) (N := 9) (by omega) (by decide)) ?_
    refine x_eqi (show M0.2.1 10 (nI i).toNatClampNeg = M0.2.1 10 i from by rw [hcl]) ?_
    refine x_iastore (pc' := 65) rfl rfl (hM.2.1 0 (by decide)) (vp_in_nI (n := i) (N := 9) (by omega) (by decide)) (fun f1 e1 => ?_)
    have hM1 := hM.arr 0 (by decide) e1
    have hF1 := hF.up e1 (by decide)
    refine x_iinc (pc' := 68) (lv' := [(1, _), (0, _)]) rfl rfl (Nat.le_of_ble_eq_true rfl) rfl (nI_1 i) rfl ?_
    refine x_goto (tgt := 47) rfl rfl ?_
    refine ih (i + 1) _ (by omega) ?_ hF1
    have e9 : x_ua (x_ua M0.2.1 0 (x_cpk i (M0.2.1 10) (M0.2.1 0))) 0 (upd (x_cpk i (M0.2.1 10) (M0.2.1 0)) (nI i).toNatClampNeg (M0.2.1 10 i)) = x_ua M0.2.1 0 (x_cpk (i + 1) (M0.2.1 10) (M0.2.1 0)) := by rw [x_ua_ua, hcl, x_cpk_s]
    rw [← e9]
    exact hM1
theorem r_on (hM : x_Mdl z f M) (hA : r_is M A) (ho : a_ok A) (h : r_ends z f post (s_on A)) : Y E 9 mX6_on [.ref 59] z f 0 0 post := by
  refine Y.intro gX6_on (lv := [(0, .ref 59)]) rfl (Nat.le_of_ble_eq_true rfl) ?_
  obtain ⟨b1, b2, b3, b4, b5, b6, b7, b8, b9⟩ := id hA
  rcases hp : a_pi A with _ | ⟨g, m⟩
  · rw [show s_on A = (s_no A 3, -3) from by unfold s_on; rw [hp]] at h
    rw [hp] at b4
    refine x_aload_n (pc' := 1) rfl rfl rfl ?_
    refine x_get (pc' := 4) rfl rfl rfl (hM.1) rfl ?_
    refine x_eqi (show M.1 28 = -1 from b4) ?_
    refine x_if_ge (tgt := 14) (pc' := 7) rfl rfl rfl (fun c4 => absurd c4 ((by decide))) (fun _ => ?_)
    refine x_aload_n (pc' := 8) rfl rfl rfl ?_
    refine x_bipush (pc' := 10) rfl rfl bipush_m3 ?_
    refine x_cV1i (d := 1) (pc' := 13) rfl rfl sX6_110 gX6_refuse (hM.1) ⟨Nat.le_of_ble_eq_true rfl, Nat.le_of_ble_eq_true rfl⟩ (Nat.le_of_ble_eq_true rfl) ⟨Nat.le_of_ble_eq_true rfl, Nat.le_of_ble_eq_true rfl⟩ ?_
    refine r_refuse (k := 2) (by decide) (by decide) hM hA (fun f1 M1 hM1 hA1 hF1 => ⟨_, rfl, ?_⟩)
    exact x_ireturn rfl rfl rfl (Nat.le_of_ble_eq_true rfl) (Nat.le_of_ble_eq_true rfl) (h _ _ hM1 hA1 hF1)
  · rw [show s_on A = (((g, m), A.2), nI m) from by unfold s_on; rw [hp]] at h
    have hb4 := b4
    rw [hp] at b4
    obtain ⟨p1, p2, p3, p4, p5, p6, p7, p8, p9⟩ := b4
    obtain ⟨og, om⟩ := ho.2.2.1 g m hp
    have hfr : m_fr (M.1, x_ua M.2.1 6 (x_cpk 12 (M.2.1 9) (M.2.1 6)), M.2.2) 0 g := by
      refine ⟨fun j hj => ?_, p3, p4, p5⟩
      show (if 12 * 0 + j < 12 then M.2.1 9 (12 * 0 + j) else _) = _
      rw [if_pos (by omega), show 12 * 0 + j = j by omega]
      exact p2 j hj
    refine x_aload_n (pc' := 1) rfl rfl rfl ?_
    refine x_get (pc' := 4) rfl rfl rfl (hM.1) rfl ?_
    refine x_eqi p1 ?_
    refine x_if_ge (tgt := 14) (pc' := 7) rfl rfl rfl (fun _ => ?_) (fun c4 => absurd ((nI_pos' (by have := og.1; omega))) c4)
    refine x_iconst (pc' := 15) rfl rfl iconst_0 ?_
    refine x_istore_n (pc' := 16) (lv' := [(1, _), (0, _)]) rfl rfl (Nat.le_of_ble_eq_true rfl) rfl ?_
    refine r_onL1 f M (fun f1 hM1 hF1 => ?_) 12 0 f (by omega) (by rw [x_cpk_0, x_ua_id]; exact hM) x_fr.rf
    refine x_aload_n (pc' := 41) rfl rfl rfl ?_
    refine x_iconst (pc' := 42) rfl rfl iconst_0 ?_
    refine x_cV1v (d := 1) (pc' := 45) rfl rfl sX6_160 gX6_lays (hM1.1) ⟨Nat.le_of_ble_eq_true rfl, Nat.le_of_ble_eq_true rfl⟩ (Nat.le_of_ble_eq_true rfl) ⟨Nat.le_of_ble_eq_true rfl, Nat.le_of_ble_eq_true rfl⟩ ?_
    refine m_lays (l := 0) (g := g) (g' := a_g A) (by decide) hM1 b1 hfr og ho.1 (fun f2 M2 hM2 g2 y1 y2 y3 hF2 => ⟨rfl, ?_⟩)
    refine x_iconst (pc' := 46) rfl rfl iconst_0 ?_
    refine x_istore_n (pc' := 47) (lv' := [(1, _), (0, _)]) rfl rfl (Nat.le_of_ble_eq_true rfl) rfl ?_
    refine r_onL2 f M2 (fun f3 hM3 hF3 => ?_) 9 0 f2 (by omega) (by rw [x_cpk_0, x_ua_id]; exact hM2) (hF1.trans hF2)
    refine x_aload_n (pc' := 72) rfl rfl rfl ?_
    refine x_aload_n (pc' := 73) rfl rfl rfl ?_
    refine x_get (pc' := 76) rfl rfl rfl (hM3.1) rfl ?_
    refine x_eqi (show M2.1 28 = nI (g_n g) from (y1 28 (by decide)).trans p1) ?_
    refine x_put (pc' := 79) rfl rfl rfl (hM3.1) (Nat.le_of_ble_eq_true rfl) rfl rfl rfl rfl (fun f1 e1 => ?_)
    have hM4 := hM3.num 3 e1 (x_mFs3 _ _)
    have hF4 := hF3.up e1 (by decide)
    refine x_aload_n (pc' := 80) rfl rfl rfl ?_
    refine x_aload_n (pc' := 81) rfl rfl rfl ?_
    refine x_get (pc' := 84) rfl rfl rfl (hM4.1) rfl ?_
    refine x_eqi (show M2.1 29 = nI (g_f g) from (y1 29 (by decide)).trans p7) ?_
    refine x_put (pc' := 87) rfl rfl rfl (hM4.1) (Nat.le_of_ble_eq_true rfl) rfl rfl rfl rfl (fun f2 e2 => ?_)
    have hM5 := hM4.num 4 e2 (x_mFs4 _ _)
    have hF5 := hF4.up e2 (by decide)
    refine x_aload_n (pc' := 88) rfl rfl rfl ?_
    refine x_aload_n (pc' := 89) rfl rfl rfl ?_
    refine x_get (pc' := 92) rfl rfl rfl (hM5.1) rfl ?_
    refine x_eqi (show M2.1 30 = nI (g_l g) from (y1 30 (by decide)).trans p8) ?_
    refine x_put (pc' := 95) rfl rfl rfl (hM5.1) (Nat.le_of_ble_eq_true rfl) rfl rfl rfl rfl (fun f3 e3 => ?_)
    have hM6 := hM5.num 5 e3 (x_mFs5 _ _)
    have hF6 := hF5.up e3 (by decide)
    refine x_aload_n (pc' := 96) rfl rfl rfl ?_
    refine x_aload_n (pc' := 97) rfl rfl rfl ?_
    refine x_get (pc' := 100) rfl rfl rfl (hM6.1) rfl ?_
    refine x_eqi (show M2.1 31 = nI m from (y1 31 (by decide)).trans p9) ?_
    refine x_put (pc' := 103) rfl rfl rfl (hM6.1) (Nat.le_of_ble_eq_true rfl) rfl rfl rfl rfl (fun f4 e4 => ?_)
    have hM7 := hM6.num 8 e4 (x_mFs8 _ _)
    have hF7 := hF6.up e4 (by decide)
    refine x_aload_n (pc' := 104) rfl rfl rfl ?_
    refine x_get (pc' := 107) rfl rfl rfl (hM7.1) rfl ?_
    obtain ⟨u1, u2, u3, u4, u5, u6, u7⟩ := g2
    have hk0 : x_cpk 9 (M2.2.1 10) (M2.2.1 0) = fun i => nI (g_κ g i) := by
      funext j
      unfold x_cpk
      by_cases hj : j < 9
      · rw [if_pos hj, y2 10 (by decide) (by decide)]
        exact p6 j hj
      · rw [if_neg hj, u1]
        show nI (g_κ (a_g A) j) = nI (g_κ g j)
        rw [(og.2.2.2.2.2.2.2.1 j (by omega)).1, (ho.1.2.2.2.2.2.2.2.1 j (by omega)).1]
    refine x_ireturn rfl rfl rfl (Nat.le_refl _) (Nat.le_refl _) (h _ _ hM7 ⟨⟨hk0, u2, u3, rfl, rfl, rfl, u7⟩, rfl, (y1 18 (by decide)).trans b3, ?_, (y1 11 (by decide)).trans b5, (y2 4 (by decide) (by decide)).trans b6, (y1 13 (by decide)).trans b7, (y2 5 (by decide) (by decide)).trans b8, (y2 3 (by decide) (by decide)).trans b9⟩ hF7)
    exact hb4.eq (fun i hi => ((pk_un (by omega)).trans ((pk_un (by omega)).trans ((pk_un (by omega)).trans (pk_un (by omega))))).trans (y1 i (by omega))) (y2 9 (by decide) (by decide)) (y2 10 (by decide) (by decide))
end RC
end
section
-- == 53.refD
/-! The reference: counts, lots. -/
theorem q_lot_st : ∀ (k : Nat) (w : Int32) (g : q_G), g_κ (q_lot k w g).2 = g_κ g ∧ g_n (q_lot k w g).2 = g_n g ∧ g_f (q_lot k w g).2 = g_f g ∧ g_l (q_lot k w g).2 = g_l g
  | 0, w, g => ⟨rfl, rfl, rfl, rfl⟩
  | k + 1, w, g => by
    have h := q_lot_st k (q_z w) (if g_can g (q_zb (q_z w) (g_n g)) then g_mv g (q_zb (q_z w) (g_n g)) else g_flip g)
    have h2 : ∀ g' : q_G, g' = (if g_can g (q_zb (q_z w) (g_n g)) then g_mv g (q_zb (q_z w) (g_n g)) else g_flip g) → g_κ g' = g_κ g ∧ g_n g' = g_n g ∧ g_f g' = g_f g ∧ g_l g' = g_l g := by
      intro g' e
      subst e
      split <;> exact ⟨rfl, rfl, rfl, rfl⟩
    obtain ⟨a1, a2, a3, a4⟩ := h2 _ rfl
    exact ⟨h.1.trans a1, h.2.1.trans a2, h.2.2.1.trans a3, h.2.2.2.trans a4⟩
theorem q_lot_ok {C : Nat} (hC : 99 ≤ C) (hC2 : C ≤ 100) : ∀ (k : Nat) (w : Int32) (g : q_G), g_ok C g → g_ok C (q_lot k w g).2
  | 0, w, g, h => h
  | k + 1, w, g, h => by
    unfold q_lot
    refine q_lot_ok hC hC2 k _ _ ?_
    split
    · rename_i hc
      exact g_mv_ok h hC hC2 hc.2.1
    · exact g_flip_ok h
theorem q_lot_ly (k : Nat) (w : Int32) (g : q_G) : g_ly g (q_lot k w g).2 = g := by
  obtain ⟨h1, h2, h3, h4⟩ := q_lot_st k w g
  show (g_κ (q_lot k w g).2, g_β g, g_π g, g_n (q_lot k w g).2, g_f (q_lot k w g).2, g_l (q_lot k w g).2, g_t g) = g
  rw [h1, h2, h3, h4]
section RD
variable {E : x_E} {z : Nat} {f : x_H} {S : x_S} {M : x_N} {A : q_A} {post : Option Value → x_H → Prop} {a b : Int32} {g : q_G} {C : Nat}
theorem r_lotsI {N i : Nat} {w0 s me : Int32} (n : Nat) (hn9 : n ≤ 9) (h2n : 2 ≤ n) (f0 : x_H) (M0 : x_N) (h18 : M0.1 18 = 0) (R : Int32 × q_G) (K : ∀ (f' : x_H) (M' : x_N), x_Mdl z f' M' → m_is M' R.2 → m_kp M0 M' → x_fr (fun q => q < 59) f0 f' → X E (x_rm 9 0 0) mX6_lots (x_QM E z 0 0 post) 132 [(7, .int (nI 20)), (6, .int (nI i)), (5, .int s), (4, .int me), (3, .int R.1), (0, .ref 59), (1, .int (nI N)), (2, .int w0)] [] z f' 0 0) : ∀ (k t : Nat) (w : Int32) (g : q_G) (f : x_H) (M : x_N), t + k = 20 → g_ok 99 g → g_n g = n → q_lot k w g = R → x_Mdl z f M → m_is M g → m_kp M0 M → x_fr (fun q => q < 59) f0 f → X E (x_rm 9 0 0) mX6_lots (x_QM E z 0 0 post) 68 [(7, .int (nI t)), (6, .int (nI i)), (5, .int s), (4, .int me), (3, .int w), (0, .ref 59), (1, .int (nI N)), (2, .int w0)] [] z f 0 0 := by
  intro k
  induction k with
  | zero =>
    intro t w g f M ht hg hgn he hM hm hk hF
    have ht2 : t = 20 := by omega
    subst ht2
    have he2 : (w, g) = R := he
    subst he2
    refine x_iload (pc' := 70) rfl rfl rfl ?_
    refine x_bipush (pc' := 72) rfl rfl bipush_20 ?_
    refine x_icmp_ge (tgt := 132) (pc' := 75) rfl rfl rfl (fun _ => ?_) (fun c72 => absurd ((by decide : (20 : Int32) ≤ nI 20)) c72)
    exact K _ _ hM hm hk hF
  | succ k ih =>
    intro t w g f M ht hg hgn he hM hm hk hF
    subst hgn
    replace he : q_lot k (q_z w) (if g_can g (q_zb (q_z w) (g_n g)) then g_mv g (q_zb (q_z w) (g_n g)) else g_flip g) = R := he
    have hzb : q_zb (q_z w) (g_n g) < g_n g := Nat.mod_lt _ (by omega)
    refine x_iload (pc' := 70) rfl rfl rfl ?_
    refine x_bipush (pc' := 72) rfl rfl bipush_20 ?_
    refine x_icmp_ge (tgt := 132) (pc' := 75) rfl rfl rfl (fun c72 => absurd c72 ((nI_ge (a := t) (b := 20) (by omega) (by decide)))) (fun _ => ?_)
    refine x_iload_n (pc' := 76) rfl rfl rfl ?_
    refine x_ldc (pc' := 78) rfl rfl rfl ?_
    refine x_imul (pc' := 79) rfl rfl ?_
    refine x_ldc (pc' := 81) rfl rfl rfl ?_
    refine x_iadd (pc' := 82) rfl rfl ?_
    refine x_eqi (show w * 1664525 + 1013904223 = q_z w from rfl) ?_
    refine x_istore_n (pc' := 83) (lv' := [(3, _), (7, _), (6, _), (5, _), (4, _), (0, _), (1, _), (2, _)]) rfl rfl (Nat.le_of_ble_eq_true rfl) rfl ?_
    refine x_iload_n (pc' := 84) rfl rfl rfl ?_
    refine x_ldc (pc' := 86) rfl rfl rfl ?_
    refine x_iand (pc' := 87) rfl rfl ?_
    refine x_sipush (pc' := 90) rfl rfl sipush_256 ?_
    refine x_idiv (pc' := 91) rfl rfl (by decide) ?_
    refine x_aload_n (pc' := 92) rfl rfl rfl ?_
    refine x_get (pc' := 95) rfl rfl rfl (hM.1) rfl ?_
    refine x_eqi hm.2.2.2.1 ?_
    refine x_irem (pc' := 96) rfl rfl (nI_ne0 (by omega) (by omega)) ?_
    refine x_eqi (q_zI (q_z w) (by omega) hn9) ?_
    refine x_istore (pc' := 98) (lv' := [(8, _), (3, _), (7, _), (6, _), (5, _), (4, _), (0, _), (1, _), (2, _)]) rfl rfl (Nat.le_of_ble_eq_true rfl) rfl ?_
    refine x_aload_n (pc' := 99) rfl rfl rfl ?_
    refine x_iload (pc' := 101) rfl rfl rfl ?_
    refine x_cV1i (d := 3) (pc' := 104) rfl rfl sX6_135 gX6_canMove (hM.1) ⟨Nat.le_of_ble_eq_true rfl, Nat.le_of_ble_eq_true rfl⟩ (Nat.le_of_ble_eq_true rfl) ⟨Nat.le_of_ble_eq_true rfl, Nat.le_of_ble_eq_true rfl⟩ ?_
    refine m_can1 hM hm hg (by decide) (by omega) (fun d2 => ⟨_, rfl, ?_⟩) (fun d2 => ⟨_, rfl, ?_⟩)
    · rw [if_pos d2] at he
      refine x_if_eq (tgt := 116) (pc' := 107) rfl rfl rfl (fun c104 => absurd c104 ((by decide))) (fun _ => ?_)
      refine x_aload_n (pc' := 108) rfl rfl rfl ?_
      refine x_iload (pc' := 110) rfl rfl rfl ?_
      refine x_cV1v (d := 4) (pc' := 113) rfl rfl sX6_141 gX6_moves (hM.1) ⟨Nat.le_of_ble_eq_true rfl, Nat.le_of_ble_eq_true rfl⟩ (Nat.le_of_ble_eq_true rfl) ⟨Nat.le_of_ble_eq_true rfl, Nat.le_of_ble_eq_true rfl⟩ ?_
      refine m_mv hM hm hg (by decide) d2 (hk.no18.trans h18) (fun f1 M1 hM1 g1 k1 e14 e15 e16 e17 hF1 => ⟨rfl, ?_⟩)
      refine x_goto (tgt := 126) rfl rfl ?_
      refine x_iinc (pc' := 129) (lv' := [(7, _), (8, _), (3, _), (6, _), (5, _), (4, _), (0, _), (1, _), (2, _)]) rfl rfl (Nat.le_of_ble_eq_true rfl) rfl (nI_1 t) rfl ?_
      refine x_goto (tgt := 68) rfl rfl ?_
      refine x_lvp [0, 3, 4, 5, 2, 6, 7, 8] rfl ?_
      exact ih (t + 1) _ _ _ _ (by omega) (g_mv_ok hg (by decide) (by decide) d2.2.1) rfl he hM1 g1 (hk.trans k1) (hF.trans hF1)
    · rw [if_neg d2] at he
      refine x_if_eq (tgt := 116) (pc' := 107) rfl rfl rfl (fun _ => ?_) (fun c104 => absurd (rfl) c104)
      refine x_aload_n (pc' := 117) rfl rfl rfl ?_
      refine x_iconst (pc' := 118) rfl rfl iconst_1 ?_
      refine x_aload_n (pc' := 119) rfl rfl rfl ?_
      refine x_get (pc' := 122) rfl rfl rfl (hM.1) rfl ?_
      refine x_eqi hm.2.2.2.2.2.2 ?_
      refine x_isub (pc' := 123) rfl rfl ?_
      refine x_eqi (show (1 : Int32) - nI (g_t g) = nI (1 - g_t g) from pk_sub (a := 1) hg.2.2.2.1) ?_
      refine x_put (pc' := 126) rfl rfl rfl (hM.1) (Nat.le_of_ble_eq_true rfl) rfl rfl rfl rfl (fun f1 e1 => ?_)
      have hM1 := hM.num 7 e1 (x_mFs7 _ _)
      have hF1 := hF.up e1 (by decide)
      refine x_iinc (pc' := 129) (lv' := [(7, _), (8, _), (3, _), (6, _), (5, _), (4, _), (0, _), (1, _), (2, _)]) rfl rfl (Nat.le_of_ble_eq_true rfl) rfl (nI_1 t) rfl ?_
      refine x_goto (tgt := 68) rfl rfl ?_
      refine x_lvp [0, 3, 4, 5, 2, 6, 7, 8] rfl ?_
      exact ih (t + 1) _ (g_flip g) _ _ (by omega) (g_flip_ok hg) rfl he hM1 ⟨hm.1, hm.2.1, hm.2.2.1, hm.2.2.2.1, hm.2.2.2.2.1, hm.2.2.2.2.2.1, rfl⟩ (hk.trans ⟨fun _ _ _ => rfl, rfl, fun i i1 _ _ _ _ => pk_un i1⟩) hF1
theorem r_lotsL {w0 : Int32} {N : Nat} (hN : N ≤ 20) (ho : a_ok A) (h2n : 2 ≤ g_n (a_g A)) (f0 : x_H) (M0 : x_N) (hA : r_is M0 A) (r : Int32) (h : r_ends z f0 post (A, r)) : ∀ (k i : Nat) (w s : Int32) (f : x_H) (M : x_N), i + k = N → q_lots k w s (a_g A) = r → x_Mdl z f M → m_is M (a_g A) → r_sc M0 M → m_fr M 0 (a_g A) → x_fr (fun q => q < 59) f0 f → X E (x_rm 9 0 0) mX6_lots (x_QM E z 0 0 post) 59 [(6, .int (nI i)), (5, .int s), (4, .int (nI (g_t (a_g A)))), (3, .int w), (0, .ref 59), (1, .int (nI N)), (2, .int w0)] [] z f 0 0 := by
  have ht1 := ho.1.2.2.2.1
  intro k
  induction k with
  | zero =>
    intro i w s f M hi he hM hm hs hfr hF
    have hi2 : i = N := by omega
    subst hi2
    have he2 : s = r := he
    subst he2
    refine x_iload (pc' := 61) rfl rfl rfl ?_
    refine x_iload_n (pc' := 62) rfl rfl rfl ?_
    refine x_icmp_ge (tgt := 165) (pc' := 65) rfl rfl rfl (fun _ => ?_) (fun c62 => absurd ((Int32.le_refl _)) c62)
    refine x_iload (pc' := 167) rfl rfl rfl ?_
    exact x_ireturn rfl rfl rfl (Nat.le_of_ble_eq_true rfl) (Nat.le_of_ble_eq_true rfl) (h _ _ hM (hA.sc hs hm) hF)
  | succ k ih =>
    intro i w s f M hi he hM hm hs hfr hF
    replace he : q_lots k (q_lot 20 w (a_g A)).1 (s + (nI (g_π (q_lot 20 w (a_g A)).2 (g_t (a_g A))) - nI (g_π (q_lot 20 w (a_g A)).2 (1 - g_t (a_g A))))) (a_g A) = r := he
    have hA1 : r_is M A := hA.sc hs hm
    refine x_iload (pc' := 61) rfl rfl rfl ?_
    refine x_iload_n (pc' := 62) rfl rfl rfl ?_
    refine x_icmp_ge (tgt := 165) (pc' := 65) rfl rfl rfl (fun c62 => absurd c62 ((nI_ge (by omega) (by omega)))) (fun _ => ?_)
    refine x_iconst (pc' := 66) rfl rfl iconst_0 ?_
    refine x_istore (pc' := 68) (lv' := [(7, _), (6, _), (5, _), (4, _), (3, _), (0, _), (1, _), (2, _)]) rfl rfl (Nat.le_of_ble_eq_true rfl) rfl ?_
    refine r_lotsI (g_n (a_g A)) ho.1.1 h2n f M hA1.2.2.1 (q_lot 20 w (a_g A)) (fun f2 M2 hM2 g2 k2 hF2 => ?_) 20 0 w (a_g A) f M (by omega) ho.1 rfl rfl hM hm m_kp.rf x_fr.rf
    have og2 := q_lot_ok (by decide : 99 ≤ 99) (by decide) 20 w (a_g A) ho.1
    refine x_iload (pc' := 134) rfl rfl rfl ?_
    refine x_aload_n (pc' := 135) rfl rfl rfl ?_
    refine x_get (pc' := 138) rfl rfl rfl (hM2.1) rfl ?_
    refine x_iload (pc' := 140) rfl rfl rfl ?_
    refine x_iaload (pc' := 141) rfl rfl (hM2.2.1 2 (by decide)) (vp_in_nI (n := g_t (a_g A)) (N := 2) (by omega) (by decide)) ?_
    refine x_eqi (show M2.2.1 2 (nI (g_t (a_g A))).toNatClampNeg = nI (g_π (q_lot 20 w (a_g A)).2 (g_t (a_g A))) from by rw [nI_clamp (by omega), g2.2.2.1]) ?_
    refine x_aload_n (pc' := 142) rfl rfl rfl ?_
    refine x_get (pc' := 145) rfl rfl rfl (hM2.1) rfl ?_
    refine x_iconst (pc' := 146) rfl rfl iconst_1 ?_
    refine x_iload (pc' := 148) rfl rfl rfl ?_
    refine x_isub (pc' := 149) rfl rfl ?_
    refine x_eqi (show (1 : Int32) - nI (g_t (a_g A)) = nI (1 - g_t (a_g A)) from pk_sub (a := 1) ht1) ?_
    refine x_iaload (pc' := 150) rfl rfl (hM2.2.1 2 (by decide)) (vp_in_nI (n := 1 - g_t (a_g A)) (N := 2) (by omega) (by decide)) ?_
    refine x_eqi (show M2.2.1 2 (nI (1 - g_t (a_g A))).toNatClampNeg = nI (g_π (q_lot 20 w (a_g A)).2 (1 - g_t (a_g A))) from by rw [nI_clamp (by omega), g2.2.2.1]) ?_
    refine x_isub (pc' := 151) rfl rfl ?_
    refine x_iadd (pc' := 152) rfl rfl ?_
    refine x_istore (pc' := 154) (lv' := [(5, _), (7, _), (6, _), (4, _), (3, _), (0, _), (1, _), (2, _)]) rfl rfl (Nat.le_of_ble_eq_true rfl) rfl ?_
    refine x_aload_n (pc' := 155) rfl rfl rfl ?_
    refine x_iconst (pc' := 156) rfl rfl iconst_0 ?_
    refine x_cV1v (d := 1) (pc' := 159) rfl rfl sX6_160 gX6_lays (hM2.1) ⟨Nat.le_of_ble_eq_true rfl, Nat.le_of_ble_eq_true rfl⟩ (Nat.le_of_ble_eq_true rfl) ⟨Nat.le_of_ble_eq_true rfl, Nat.le_of_ble_eq_true rfl⟩ ?_
    refine m_lays (l := 0) (g := a_g A) (by decide) hM2 g2 (hfr.eq (k2.1 6 (by decide) (by decide))) ho.1 og2 (fun f3 M3 hM3 g3 y1 y2 y3 hF3 => ⟨rfl, ?_⟩)
    rw [q_lot_ly] at g3
    have hs3 : r_sc M0 M3 := (hs.trans k2.sc).trans (m_ly.sc y1 y2)
    have hfr3 : m_fr M3 0 (a_g A) := hfr.eq ((y2 6 (by decide) (by decide)).trans (k2.1 6 (by decide) (by decide)))
    refine x_iinc (pc' := 162) (lv' := [(6, _), (5, _), (7, _), (4, _), (3, _), (0, _), (1, _), (2, _)]) rfl rfl (Nat.le_of_ble_eq_true rfl) rfl (nI_1 i) rfl ?_
    refine x_goto (tgt := 59) rfl rfl ?_
    refine x_lvp [0, 1, 3, 4, 5, 6, 7] rfl ?_
    exact ih (i + 1) _ _ f3 M3 (by omega) he hM3 g3 hs3 hfr3 ((hF.trans hF2).trans hF3)
theorem r_lots (hM : x_Mdl z f M) (hA : r_is M A) (ho : a_ok A) (h : r_ends z f post (s_lots A a b)) : Y E 9 mX6_lots [.ref 59, .int a, .int b] z f 0 0 post := by
  refine Y.intro gX6_lots (lv := [(0, .ref 59), (1, .int a), (2, .int b)]) rfl (Nat.le_of_ble_eq_true rfl) ?_
  obtain ⟨b1, b2, b3, b4, b5, b6, b7, b8, b9⟩ := id hA
  refine x_iload_n (pc' := 1) rfl rfl rfl ?_
  refine x_iconst (pc' := 2) rfl rfl iconst_1 ?_
  refine x_icmp_ge (tgt := 12) (pc' := 5) rfl rfl rfl (fun c2 => ?_) (fun c2 => ?_)
  · have d1 : ¬ a < 1 := Int32.not_lt.mpr c2
    refine x_iload_n (pc' := 13) rfl rfl rfl ?_
    refine x_bipush (pc' := 15) rfl rfl bipush_20 ?_
    refine x_icmp_le (tgt := 25) (pc' := 18) rfl rfl rfl (fun c15 => ?_) (fun c15 => ?_)
    · have d2 : ¬ 20 < a := Int32.not_lt.mpr c15
      refine x_aload_n (pc' := 26) rfl rfl rfl ?_
      refine x_get (pc' := 29) rfl rfl rfl (hM.1) rfl ?_
      refine x_eqi b1.2.2.2.1 ?_
      refine x_iconst (pc' := 30) rfl rfl iconst_2 ?_
      by_cases d3 : g_n (a_g A) < 2
      · rw [show s_lots A a b = _ from (if_neg d1).trans ((if_neg d2).trans (if_pos d3))] at h
        refine x_icmp_ge (tgt := 40) (pc' := 33) rfl rfl rfl (fun q => absurd q (nI_ge (b := 2) d3 (by decide))) (fun _ => ?_)
        refine x_aload_n (pc' := 34) rfl rfl rfl ?_
        refine x_bipush (pc' := 36) rfl rfl bipush_m3 ?_
        refine x_cV1i (d := 2) (pc' := 39) rfl rfl sX6_180 gX6_told (hM.1) ⟨Nat.le_of_ble_eq_true rfl, Nat.le_of_ble_eq_true rfl⟩ (Nat.le_of_ble_eq_true rfl) ⟨Nat.le_of_ble_eq_true rfl, Nat.le_of_ble_eq_true rfl⟩ ?_
        refine r_told (k := 2) (by decide) (by decide) hM hA (fun f1 M1 hM1 hA1 hF1 => ⟨_, rfl, ?_⟩)
        exact x_ireturn rfl rfl rfl (Nat.le_of_ble_eq_true rfl) (Nat.le_of_ble_eq_true rfl) (h _ _ hM1 hA1 hF1)
      · rw [show s_lots A a b = _ from (if_neg d1).trans ((if_neg d2).trans (if_neg d3))] at h
        refine x_icmp_ge (tgt := 40) (pc' := 33) rfl rfl rfl (fun _ => ?_) (fun q => absurd (nI_le (a := 2) (Nat.not_lt.mp d3) (by have := ho.1.1; omega)) q)
        obtain ⟨N, hN, rfl⟩ := nI_of2 (n := 20) (M := 20) rfl (fun q => d1 (Int32.lt_trans q (by decide))) (Int32.not_lt.mp d2)
        rw [nI_clamp (by omega)] at h
        refine x_iload_n (pc' := 41) rfl rfl rfl ?_
        refine x_istore_n (pc' := 42) (lv' := [(3, _), (0, _), (1, _), (2, _)]) rfl rfl (Nat.le_of_ble_eq_true rfl) rfl ?_
        refine x_aload_n (pc' := 43) rfl rfl rfl ?_
        refine x_get (pc' := 46) rfl rfl rfl (hM.1) rfl ?_
        refine x_eqi b1.2.2.2.2.2.2 ?_
        refine x_istore (pc' := 48) (lv' := [(4, _), (3, _), (0, _), (1, _), (2, _)]) rfl rfl (Nat.le_of_ble_eq_true rfl) rfl ?_
        refine x_iconst (pc' := 49) rfl rfl iconst_0 ?_
        refine x_istore (pc' := 51) (lv' := [(5, _), (4, _), (3, _), (0, _), (1, _), (2, _)]) rfl rfl (Nat.le_of_ble_eq_true rfl) rfl ?_
        refine x_aload_n (pc' := 52) rfl rfl rfl ?_
        refine x_iconst (pc' := 53) rfl rfl iconst_0 ?_
        refine x_cV1v (d := 1) (pc' := 56) rfl rfl sX6_154 gX6_keeps (hM.1) ⟨Nat.le_of_ble_eq_true rfl, Nat.le_of_ble_eq_true rfl⟩ (Nat.le_of_ble_eq_true rfl) ⟨Nat.le_of_ble_eq_true rfl, Nat.le_of_ble_eq_true rfl⟩ ?_
        refine m_keeps (l := 0) (by decide) hM b1 (fun f1 M1 hM1 g1 k1 fr1 hF1 => ⟨rfl, ?_⟩)
        refine x_iconst (pc' := 57) rfl rfl iconst_0 ?_
        refine x_istore (pc' := 59) (lv' := [(6, _), (5, _), (4, _), (3, _), (0, _), (1, _), (2, _)]) rfl rfl (Nat.le_of_ble_eq_true rfl) rfl ?_
        exact r_lotsL hN ho (Nat.not_lt.mp d3) f M hA _ h N 0 b 0 f1 M1 (by omega) rfl hM1 g1 k1.sc fr1 hF1
    · rw [show s_lots A a b = _ from (if_neg d1).trans (if_pos (Int32.not_le.mp c15))] at h
      refine x_aload_n (pc' := 19) rfl rfl rfl ?_
      refine x_bipush (pc' := 21) rfl rfl bipush_m6 ?_
      refine x_cV1i (d := 2) (pc' := 24) rfl rfl sX6_180 gX6_told (hM.1) ⟨Nat.le_of_ble_eq_true rfl, Nat.le_of_ble_eq_true rfl⟩ (Nat.le_of_ble_eq_true rfl) ⟨Nat.le_of_ble_eq_true rfl, Nat.le_of_ble_eq_true rfl⟩ ?_
      refine r_told (k := 5) (by decide) (by decide) hM hA (fun f1 M1 hM1 hA1 hF1 => ⟨_, rfl, ?_⟩)
      exact x_ireturn rfl rfl rfl (Nat.le_of_ble_eq_true rfl) (Nat.le_of_ble_eq_true rfl) (h _ _ hM1 hA1 hF1)
  · rw [show s_lots A a b = _ from if_pos (Int32.not_le.mp c2)] at h
    refine x_aload_n (pc' := 6) rfl rfl rfl ?_
    refine x_bipush (pc' := 8) rfl rfl bipush_m4 ?_
    refine x_cV1i (d := 2) (pc' := 11) rfl rfl sX6_180 gX6_told (hM.1) ⟨Nat.le_of_ble_eq_true rfl, Nat.le_of_ble_eq_true rfl⟩ (Nat.le_of_ble_eq_true rfl) ⟨Nat.le_of_ble_eq_true rfl, Nat.le_of_ble_eq_true rfl⟩ ?_
    refine r_told (k := 3) (by decide) (by decide) hM hA (fun f1 M1 hM1 hA1 hF1 => ⟨_, rfl, ?_⟩)
    exact x_ireturn rfl rfl rfl (Nat.le_of_ble_eq_true rfl) (Nat.le_of_ble_eq_true rfl) (h _ _ hM1 hA1 hF1)
theorem r_count (hM : x_Mdl z f M) (hA : r_is M A) (ho : a_ok A) (h : r_ends z f post (s_count A a)) : Y E 9 mX6_count [.ref 59, .int a] z f 0 0 post := by
  refine Y.intro gX6_count (lv := [(0, .ref 59), (1, .int a)]) rfl (Nat.le_of_ble_eq_true rfl) ?_
  obtain ⟨b1, b2, b3, b4, b5, b6, b7, b8, b9⟩ := id hA
  obtain ⟨t1, t2, t3, t4, t5, t6, t7⟩ := id b1
  unfold s_count at h
  by_cases e16 : a < 11 ∨ 16 < a
  · by_cases e9 : a < 0 ∨ 9 < a
    · have n0 : ¬ a = 0 := fun q => by rw [q] at e9; exact absurd e9 (by decide)
      have n1 : ¬ a = 1 := fun q => by rw [q] at e9; exact absurd e9 (by decide)
      have n2 : ¬ a = 2 := fun q => by rw [q] at e9; exact absurd e9 (by decide)
      have n3 : ¬ a = 3 := fun q => by rw [q] at e9; exact absurd e9 (by decide)
      have n4 : ¬ a = 4 := fun q => by rw [q] at e9; exact absurd e9 (by decide)
      have n5 : ¬ a = 5 := fun q => by rw [q] at e9; exact absurd e9 (by decide)
      have n6 : ¬ a = 6 := fun q => by rw [q] at e9; exact absurd e9 (by decide)
      have n7 : ¬ a = 7 := fun q => by rw [q] at e9; exact absurd e9 (by decide)
      have n8 : ¬ a = 8 := fun q => by rw [q] at e9; exact absurd e9 (by decide)
      have n9 : ¬ a = 9 := fun q => by rw [q] at e9; exact absurd e9 (by decide)
      rw [if_neg n0, if_neg n1, if_neg n2, if_neg n3, if_neg n4, if_neg n5, if_neg n6, if_neg n7, if_neg n8, if_neg n9, if_neg (fun q => e16.elim q.1 q.2)] at h
      refine x_iload_n (pc' := 1) rfl rfl rfl ?_
      refine x_i2l (pc' := 2) rfl rfl ?_
      refine x_ldc2 (pc' := 5) rfl rfl rfl ?_
      refine x_ldc2 (pc' := 8) rfl rfl rfl ?_
      refine x_cS3i (d := 1) (pc' := 11) rfl rfl sX6_63 gX6_in ⟨Nat.le_of_ble_eq_true rfl, Nat.le_of_ble_eq_true rfl⟩ (Nat.le_of_ble_eq_true rfl) ⟨Nat.le_of_ble_eq_true rfl, Nat.le_of_ble_eq_true rfl⟩ ?_
      refine r_in (lo := 11) (hi := 16) (by decide) (by decide) (fun q => absurd e16 q) (fun _ => ⟨_, rfl, ?_⟩)
      refine x_if_eq (tgt := 24) (pc' := 14) rfl rfl rfl (fun _ => ?_) (fun c11 => absurd (rfl) c11)
      refine x_iload_n (pc' := 25) rfl rfl rfl ?_
      refine x_i2l (pc' := 26) rfl rfl ?_
      refine x_lconst (pc' := 27) rfl rfl lconst_0 ?_
      refine x_ldc2 (pc' := 30) rfl rfl rfl ?_
      refine x_cS3i (d := 1) (pc' := 33) rfl rfl sX6_63 gX6_in ⟨Nat.le_of_ble_eq_true rfl, Nat.le_of_ble_eq_true rfl⟩ (Nat.le_of_ble_eq_true rfl) ⟨Nat.le_of_ble_eq_true rfl, Nat.le_of_ble_eq_true rfl⟩ ?_
      refine r_in (lo := 0) (hi := 9) (by decide) (by decide) (fun q => absurd e9 q) (fun _ => ⟨_, rfl, ?_⟩)
      refine x_if_ne (tgt := 39) (pc' := 36) rfl rfl rfl (fun c33 => absurd (rfl) c33) (fun _ => ?_)
      refine x_bipush (pc' := 38) rfl rfl bipush_m9 ?_
      exact x_ireturn rfl rfl rfl (Nat.le_of_ble_eq_true rfl) (Nat.le_of_ble_eq_true rfl) (h _ _ hM hA x_fr.rf)
    obtain ⟨k, hk, rfl⟩ := nI_of2 (n := 9) (M := 9) rfl (fun q => e9 (Or.inl q)) (Int32.not_lt.mp (fun q => e9 (Or.inr q)))
    have hk10 : k = 0 ∨ k = 1 ∨ k = 2 ∨ k = 3 ∨ k = 4 ∨ k = 5 ∨ k = 6 ∨ k = 7 ∨ k = 8 ∨ k = 9 := by omega
    rcases hk10 with rfl | rfl | rfl | rfl | rfl | rfl | rfl | rfl | rfl | rfl
    · rw [if_pos (by decide)] at h
      refine x_iload_n (pc' := 1) rfl rfl rfl ?_
      refine x_i2l (pc' := 2) rfl rfl ?_
      refine x_ldc2 (pc' := 5) rfl rfl rfl ?_
      refine x_ldc2 (pc' := 8) rfl rfl rfl ?_
      refine x_cS3i (d := 1) (pc' := 11) rfl rfl sX6_63 gX6_in ⟨Nat.le_of_ble_eq_true rfl, Nat.le_of_ble_eq_true rfl⟩ (Nat.le_of_ble_eq_true rfl) ⟨Nat.le_of_ble_eq_true rfl, Nat.le_of_ble_eq_true rfl⟩ ?_
      refine r_in (lo := 11) (hi := 16) (by decide) (by decide) (fun q => absurd e16 q) (fun _ => ⟨_, rfl, ?_⟩)
      refine x_if_eq (tgt := 24) (pc' := 14) rfl rfl rfl (fun _ => ?_) (fun c11 => absurd (rfl) c11)
      refine x_iload_n (pc' := 25) rfl rfl rfl ?_
      refine x_i2l (pc' := 26) rfl rfl ?_
      refine x_lconst (pc' := 27) rfl rfl lconst_0 ?_
      refine x_ldc2 (pc' := 30) rfl rfl rfl ?_
      refine x_cS3i (d := 1) (pc' := 33) rfl rfl sX6_63 gX6_in ⟨Nat.le_of_ble_eq_true rfl, Nat.le_of_ble_eq_true rfl⟩ (Nat.le_of_ble_eq_true rfl) ⟨Nat.le_of_ble_eq_true rfl, Nat.le_of_ble_eq_true rfl⟩ ?_
      refine r_in (lo := 0) (hi := 9) (by decide) (by decide) (fun _ => ⟨_, rfl, ?_⟩) (fun q => absurd q e9)
      refine x_if_ne (tgt := 39) (pc' := 36) rfl rfl rfl (fun _ => ?_) (fun c33 => absurd c33 ((by decide)))
      refine x_iload_n (pc' := 40) rfl rfl rfl ?_
      refine x_iconst (pc' := 41) rfl rfl iconst_4 ?_
      refine x_icmp_ge (tgt := 76) (pc' := 44) rfl rfl rfl (fun c41 => absurd c41 ((by decide))) (fun _ => ?_)
      refine x_iload_n (pc' := 45) rfl rfl rfl ?_
      refine x_if_ne (tgt := 55) (pc' := 48) rfl rfl rfl (fun c45 => absurd (rfl) c45) (fun _ => ?_)
      refine x_aload_n (pc' := 49) rfl rfl rfl ?_
      refine x_get (pc' := 52) rfl rfl rfl (hM.1) rfl ?_
      refine x_eqi t4 ?_
      refine x_goto (tgt := 75) rfl rfl ?_
      exact x_ireturn rfl rfl rfl (Nat.le_of_ble_eq_true rfl) (Nat.le_of_ble_eq_true rfl) (h _ _ hM hA x_fr.rf)
    · rw [if_neg (by decide), if_pos (by decide)] at h
      refine x_iload_n (pc' := 1) rfl rfl rfl ?_
      refine x_i2l (pc' := 2) rfl rfl ?_
      refine x_ldc2 (pc' := 5) rfl rfl rfl ?_
      refine x_ldc2 (pc' := 8) rfl rfl rfl ?_
      refine x_cS3i (d := 1) (pc' := 11) rfl rfl sX6_63 gX6_in ⟨Nat.le_of_ble_eq_true rfl, Nat.le_of_ble_eq_true rfl⟩ (Nat.le_of_ble_eq_true rfl) ⟨Nat.le_of_ble_eq_true rfl, Nat.le_of_ble_eq_true rfl⟩ ?_
      refine r_in (lo := 11) (hi := 16) (by decide) (by decide) (fun q => absurd e16 q) (fun _ => ⟨_, rfl, ?_⟩)
      refine x_if_eq (tgt := 24) (pc' := 14) rfl rfl rfl (fun _ => ?_) (fun c11 => absurd (rfl) c11)
      refine x_iload_n (pc' := 25) rfl rfl rfl ?_
      refine x_i2l (pc' := 26) rfl rfl ?_
      refine x_lconst (pc' := 27) rfl rfl lconst_0 ?_
      refine x_ldc2 (pc' := 30) rfl rfl rfl ?_
      refine x_cS3i (d := 1) (pc' := 33) rfl rfl sX6_63 gX6_in ⟨Nat.le_of_ble_eq_true rfl, Nat.le_of_ble_eq_true rfl⟩ (Nat.le_of_ble_eq_true rfl) ⟨Nat.le_of_ble_eq_true rfl, Nat.le_of_ble_eq_true rfl⟩ ?_
      refine r_in (lo := 0) (hi := 9) (by decide) (by decide) (fun _ => ⟨_, rfl, ?_⟩) (fun q => absurd q e9)
      refine x_if_ne (tgt := 39) (pc' := 36) rfl rfl rfl (fun _ => ?_) (fun c33 => absurd c33 ((by decide)))
      refine x_iload_n (pc' := 40) rfl rfl rfl ?_
      refine x_iconst (pc' := 41) rfl rfl iconst_4 ?_
      refine x_icmp_ge (tgt := 76) (pc' := 44) rfl rfl rfl (fun c41 => absurd c41 ((by decide))) (fun _ => ?_)
      refine x_iload_n (pc' := 45) rfl rfl rfl ?_
      refine x_if_ne (tgt := 55) (pc' := 48) rfl rfl rfl (fun _ => ?_) (fun c45 => absurd c45 ((by decide)))
      refine x_iload_n (pc' := 56) rfl rfl rfl ?_
      refine x_iconst (pc' := 57) rfl rfl iconst_1 ?_
      refine x_icmp_ne (tgt := 67) (pc' := 60) rfl rfl rfl (fun c57 => absurd ((by decide)) c57) (fun _ => ?_)
      refine x_aload_n (pc' := 61) rfl rfl rfl ?_
      refine x_cV0i (d := 1) (pc' := 64) rfl rfl sX6_169 gX6_all (hM.1) ⟨Nat.le_of_ble_eq_true rfl, Nat.le_of_ble_eq_true rfl⟩ (Nat.le_of_ble_eq_true rfl) ⟨Nat.le_of_ble_eq_true rfl, Nat.le_of_ble_eq_true rfl⟩ ?_
      refine m_all hM t4 ho.1.1 t2 ⟨_, rfl, ?_⟩
      refine x_goto (tgt := 75) rfl rfl ?_
      exact x_ireturn rfl rfl rfl (Nat.le_of_ble_eq_true rfl) (Nat.le_of_ble_eq_true rfl) (h _ _ hM hA x_fr.rf)
    · rw [if_neg (by decide), if_neg (by decide), if_pos (by decide)] at h
      refine x_iload_n (pc' := 1) rfl rfl rfl ?_
      refine x_i2l (pc' := 2) rfl rfl ?_
      refine x_ldc2 (pc' := 5) rfl rfl rfl ?_
      refine x_ldc2 (pc' := 8) rfl rfl rfl ?_
      refine x_cS3i (d := 1) (pc' := 11) rfl rfl sX6_63 gX6_in ⟨Nat.le_of_ble_eq_true rfl, Nat.le_of_ble_eq_true rfl⟩ (Nat.le_of_ble_eq_true rfl) ⟨Nat.le_of_ble_eq_true rfl, Nat.le_of_ble_eq_true rfl⟩ ?_
      refine r_in (lo := 11) (hi := 16) (by decide) (by decide) (fun q => absurd e16 q) (fun _ => ⟨_, rfl, ?_⟩)
      refine x_if_eq (tgt := 24) (pc' := 14) rfl rfl rfl (fun _ => ?_) (fun c11 => absurd (rfl) c11)
      refine x_iload_n (pc' := 25) rfl rfl rfl ?_
      refine x_i2l (pc' := 26) rfl rfl ?_
      refine x_lconst (pc' := 27) rfl rfl lconst_0 ?_
      refine x_ldc2 (pc' := 30) rfl rfl rfl ?_
      refine x_cS3i (d := 1) (pc' := 33) rfl rfl sX6_63 gX6_in ⟨Nat.le_of_ble_eq_true rfl, Nat.le_of_ble_eq_true rfl⟩ (Nat.le_of_ble_eq_true rfl) ⟨Nat.le_of_ble_eq_true rfl, Nat.le_of_ble_eq_true rfl⟩ ?_
      refine r_in (lo := 0) (hi := 9) (by decide) (by decide) (fun _ => ⟨_, rfl, ?_⟩) (fun q => absurd q e9)
      refine x_if_ne (tgt := 39) (pc' := 36) rfl rfl rfl (fun _ => ?_) (fun c33 => absurd c33 ((by decide)))
      refine x_iload_n (pc' := 40) rfl rfl rfl ?_
      refine x_iconst (pc' := 41) rfl rfl iconst_4 ?_
      refine x_icmp_ge (tgt := 76) (pc' := 44) rfl rfl rfl (fun c41 => absurd c41 ((by decide))) (fun _ => ?_)
      refine x_iload_n (pc' := 45) rfl rfl rfl ?_
      refine x_if_ne (tgt := 55) (pc' := 48) rfl rfl rfl (fun _ => ?_) (fun c45 => absurd c45 ((by decide)))
      refine x_iload_n (pc' := 56) rfl rfl rfl ?_
      refine x_iconst (pc' := 57) rfl rfl iconst_1 ?_
      refine x_icmp_ne (tgt := 67) (pc' := 60) rfl rfl rfl (fun _ => ?_) (fun c57 => absurd c57 ((by decide)))
      refine x_aload_n (pc' := 68) rfl rfl rfl ?_
      refine x_get (pc' := 71) rfl rfl rfl (hM.1) rfl ?_
      refine x_iload_n (pc' := 72) rfl rfl rfl ?_
      refine x_iconst (pc' := 73) rfl rfl iconst_2 ?_
      refine x_isub (pc' := 74) rfl rfl ?_
      refine x_eqi (show nI 2 - 2 = nI 0 from by decide) ?_
      refine x_iaload (pc' := 75) rfl rfl (hM.2.1 2 (by decide)) (vp_in_nI (n := 0) (N := 2) (by decide) (by decide)) ?_
      refine x_eqi (show M.2.1 2 (nI 0).toNatClampNeg = nI (g_π (a_g A) 0) from by rw [t3]; rfl) ?_
      exact x_ireturn rfl rfl rfl (Nat.le_of_ble_eq_true rfl) (Nat.le_of_ble_eq_true rfl) (h _ _ hM hA x_fr.rf)
    · rw [if_neg (by decide), if_neg (by decide), if_neg (by decide), if_pos (by decide)] at h
      refine x_iload_n (pc' := 1) rfl rfl rfl ?_
      refine x_i2l (pc' := 2) rfl rfl ?_
      refine x_ldc2 (pc' := 5) rfl rfl rfl ?_
      refine x_ldc2 (pc' := 8) rfl rfl rfl ?_
      refine x_cS3i (d := 1) (pc' := 11) rfl rfl sX6_63 gX6_in ⟨Nat.le_of_ble_eq_true rfl, Nat.le_of_ble_eq_true rfl⟩ (Nat.le_of_ble_eq_true rfl) ⟨Nat.le_of_ble_eq_true rfl, Nat.le_of_ble_eq_true rfl⟩ ?_
      refine r_in (lo := 11) (hi := 16) (by decide) (by decide) (fun q => absurd e16 q) (fun _ => ⟨_, rfl, ?_⟩)
      refine x_if_eq (tgt := 24) (pc' := 14) rfl rfl rfl (fun _ => ?_) (fun c11 => absurd (rfl) c11)
      refine x_iload_n (pc' := 25) rfl rfl rfl ?_
      refine x_i2l (pc' := 26) rfl rfl ?_
      refine x_lconst (pc' := 27) rfl rfl lconst_0 ?_
      refine x_ldc2 (pc' := 30) rfl rfl rfl ?_
      refine x_cS3i (d := 1) (pc' := 33) rfl rfl sX6_63 gX6_in ⟨Nat.le_of_ble_eq_true rfl, Nat.le_of_ble_eq_true rfl⟩ (Nat.le_of_ble_eq_true rfl) ⟨Nat.le_of_ble_eq_true rfl, Nat.le_of_ble_eq_true rfl⟩ ?_
      refine r_in (lo := 0) (hi := 9) (by decide) (by decide) (fun _ => ⟨_, rfl, ?_⟩) (fun q => absurd q e9)
      refine x_if_ne (tgt := 39) (pc' := 36) rfl rfl rfl (fun _ => ?_) (fun c33 => absurd c33 ((by decide)))
      refine x_iload_n (pc' := 40) rfl rfl rfl ?_
      refine x_iconst (pc' := 41) rfl rfl iconst_4 ?_
      refine x_icmp_ge (tgt := 76) (pc' := 44) rfl rfl rfl (fun c41 => absurd c41 ((by decide))) (fun _ => ?_)
      refine x_iload_n (pc' := 45) rfl rfl rfl ?_
      refine x_if_ne (tgt := 55) (pc' := 48) rfl rfl rfl (fun _ => ?_) (fun c45 => absurd c45 ((by decide)))
      refine x_iload_n (pc' := 56) rfl rfl rfl ?_
      refine x_iconst (pc' := 57) rfl rfl iconst_1 ?_
      refine x_icmp_ne (tgt := 67) (pc' := 60) rfl rfl rfl (fun _ => ?_) (fun c57 => absurd c57 ((by decide)))
      refine x_aload_n (pc' := 68) rfl rfl rfl ?_
      refine x_get (pc' := 71) rfl rfl rfl (hM.1) rfl ?_
      refine x_iload_n (pc' := 72) rfl rfl rfl ?_
      refine x_iconst (pc' := 73) rfl rfl iconst_2 ?_
      refine x_isub (pc' := 74) rfl rfl ?_
      refine x_eqi (show nI 3 - 2 = nI 1 from by decide) ?_
      refine x_iaload (pc' := 75) rfl rfl (hM.2.1 2 (by decide)) (vp_in_nI (n := 1) (N := 2) (by decide) (by decide)) ?_
      refine x_eqi (show M.2.1 2 (nI 1).toNatClampNeg = nI (g_π (a_g A) 1) from by rw [t3]; rfl) ?_
      exact x_ireturn rfl rfl rfl (Nat.le_of_ble_eq_true rfl) (Nat.le_of_ble_eq_true rfl) (h _ _ hM hA x_fr.rf)
    · rw [if_neg (by decide), if_neg (by decide), if_neg (by decide), if_neg (by decide), if_pos (by decide)] at h
      refine x_iload_n (pc' := 1) rfl rfl rfl ?_
      refine x_i2l (pc' := 2) rfl rfl ?_
      refine x_ldc2 (pc' := 5) rfl rfl rfl ?_
      refine x_ldc2 (pc' := 8) rfl rfl rfl ?_
      refine x_cS3i (d := 1) (pc' := 11) rfl rfl sX6_63 gX6_in ⟨Nat.le_of_ble_eq_true rfl, Nat.le_of_ble_eq_true rfl⟩ (Nat.le_of_ble_eq_true rfl) ⟨Nat.le_of_ble_eq_true rfl, Nat.le_of_ble_eq_true rfl⟩ ?_
      refine r_in (lo := 11) (hi := 16) (by decide) (by decide) (fun q => absurd e16 q) (fun _ => ⟨_, rfl, ?_⟩)
      refine x_if_eq (tgt := 24) (pc' := 14) rfl rfl rfl (fun _ => ?_) (fun c11 => absurd (rfl) c11)
      refine x_iload_n (pc' := 25) rfl rfl rfl ?_
      refine x_i2l (pc' := 26) rfl rfl ?_
      refine x_lconst (pc' := 27) rfl rfl lconst_0 ?_
      refine x_ldc2 (pc' := 30) rfl rfl rfl ?_
      refine x_cS3i (d := 1) (pc' := 33) rfl rfl sX6_63 gX6_in ⟨Nat.le_of_ble_eq_true rfl, Nat.le_of_ble_eq_true rfl⟩ (Nat.le_of_ble_eq_true rfl) ⟨Nat.le_of_ble_eq_true rfl, Nat.le_of_ble_eq_true rfl⟩ ?_
      refine r_in (lo := 0) (hi := 9) (by decide) (by decide) (fun _ => ⟨_, rfl, ?_⟩) (fun q => absurd q e9)
      refine x_if_ne (tgt := 39) (pc' := 36) rfl rfl rfl (fun _ => ?_) (fun c33 => absurd c33 ((by decide)))
      refine x_iload_n (pc' := 40) rfl rfl rfl ?_
      refine x_iconst (pc' := 41) rfl rfl iconst_4 ?_
      refine x_icmp_ge (tgt := 76) (pc' := 44) rfl rfl rfl (fun _ => ?_) (fun c41 => absurd ((by decide)) c41)
      refine x_iload_n (pc' := 77) rfl rfl rfl ?_
      refine x_iconst (pc' := 78) rfl rfl iconst_4 ?_
      refine x_icmp_ne (tgt := 88) (pc' := 81) rfl rfl rfl (fun c78 => absurd ((by decide)) c78) (fun _ => ?_)
      refine x_aload_n (pc' := 82) rfl rfl rfl ?_
      refine x_get (pc' := 85) rfl rfl rfl (hM.1) rfl ?_
      refine x_eqi t7 ?_
      refine x_goto (tgt := 143) rfl rfl ?_
      exact x_ireturn rfl rfl rfl (Nat.le_of_ble_eq_true rfl) (Nat.le_of_ble_eq_true rfl) (h _ _ hM hA x_fr.rf)
    · rw [if_neg (by decide), if_neg (by decide), if_neg (by decide), if_neg (by decide), if_neg (by decide), if_pos (by decide)] at h
      refine x_iload_n (pc' := 1) rfl rfl rfl ?_
      refine x_i2l (pc' := 2) rfl rfl ?_
      refine x_ldc2 (pc' := 5) rfl rfl rfl ?_
      refine x_ldc2 (pc' := 8) rfl rfl rfl ?_
      refine x_cS3i (d := 1) (pc' := 11) rfl rfl sX6_63 gX6_in ⟨Nat.le_of_ble_eq_true rfl, Nat.le_of_ble_eq_true rfl⟩ (Nat.le_of_ble_eq_true rfl) ⟨Nat.le_of_ble_eq_true rfl, Nat.le_of_ble_eq_true rfl⟩ ?_
      refine r_in (lo := 11) (hi := 16) (by decide) (by decide) (fun q => absurd e16 q) (fun _ => ⟨_, rfl, ?_⟩)
      refine x_if_eq (tgt := 24) (pc' := 14) rfl rfl rfl (fun _ => ?_) (fun c11 => absurd (rfl) c11)
      refine x_iload_n (pc' := 25) rfl rfl rfl ?_
      refine x_i2l (pc' := 26) rfl rfl ?_
      refine x_lconst (pc' := 27) rfl rfl lconst_0 ?_
      refine x_ldc2 (pc' := 30) rfl rfl rfl ?_
      refine x_cS3i (d := 1) (pc' := 33) rfl rfl sX6_63 gX6_in ⟨Nat.le_of_ble_eq_true rfl, Nat.le_of_ble_eq_true rfl⟩ (Nat.le_of_ble_eq_true rfl) ⟨Nat.le_of_ble_eq_true rfl, Nat.le_of_ble_eq_true rfl⟩ ?_
      refine r_in (lo := 0) (hi := 9) (by decide) (by decide) (fun _ => ⟨_, rfl, ?_⟩) (fun q => absurd q e9)
      refine x_if_ne (tgt := 39) (pc' := 36) rfl rfl rfl (fun _ => ?_) (fun c33 => absurd c33 ((by decide)))
      refine x_iload_n (pc' := 40) rfl rfl rfl ?_
      refine x_iconst (pc' := 41) rfl rfl iconst_4 ?_
      refine x_icmp_ge (tgt := 76) (pc' := 44) rfl rfl rfl (fun _ => ?_) (fun c41 => absurd ((by decide)) c41)
      refine x_iload_n (pc' := 77) rfl rfl rfl ?_
      refine x_iconst (pc' := 78) rfl rfl iconst_4 ?_
      refine x_icmp_ne (tgt := 88) (pc' := 81) rfl rfl rfl (fun _ => ?_) (fun c78 => absurd c78 ((by decide)))
      refine x_iload_n (pc' := 89) rfl rfl rfl ?_
      refine x_iconst (pc' := 90) rfl rfl iconst_5 ?_
      refine x_icmp_ne (tgt := 100) (pc' := 93) rfl rfl rfl (fun c90 => absurd ((by decide)) c90) (fun _ => ?_)
      refine x_aload_n (pc' := 94) rfl rfl rfl ?_
      refine x_get (pc' := 97) rfl rfl rfl (hM.1) rfl ?_
      refine x_eqi b2 ?_
      refine x_goto (tgt := 143) rfl rfl ?_
      exact x_ireturn rfl rfl rfl (Nat.le_of_ble_eq_true rfl) (Nat.le_of_ble_eq_true rfl) (h _ _ hM hA x_fr.rf)
    · rw [if_neg (by decide), if_neg (by decide), if_neg (by decide), if_neg (by decide), if_neg (by decide), if_neg (by decide), if_pos (by decide)] at h
      refine x_iload_n (pc' := 1) rfl rfl rfl ?_
      refine x_i2l (pc' := 2) rfl rfl ?_
      refine x_ldc2 (pc' := 5) rfl rfl rfl ?_
      refine x_ldc2 (pc' := 8) rfl rfl rfl ?_
      refine x_cS3i (d := 1) (pc' := 11) rfl rfl sX6_63 gX6_in ⟨Nat.le_of_ble_eq_true rfl, Nat.le_of_ble_eq_true rfl⟩ (Nat.le_of_ble_eq_true rfl) ⟨Nat.le_of_ble_eq_true rfl, Nat.le_of_ble_eq_true rfl⟩ ?_
      refine r_in (lo := 11) (hi := 16) (by decide) (by decide) (fun q => absurd e16 q) (fun _ => ⟨_, rfl, ?_⟩)
      refine x_if_eq (tgt := 24) (pc' := 14) rfl rfl rfl (fun _ => ?_) (fun c11 => absurd (rfl) c11)
      refine x_iload_n (pc' := 25) rfl rfl rfl ?_
      refine x_i2l (pc' := 26) rfl rfl ?_
      refine x_lconst (pc' := 27) rfl rfl lconst_0 ?_
      refine x_ldc2 (pc' := 30) rfl rfl rfl ?_
      refine x_cS3i (d := 1) (pc' := 33) rfl rfl sX6_63 gX6_in ⟨Nat.le_of_ble_eq_true rfl, Nat.le_of_ble_eq_true rfl⟩ (Nat.le_of_ble_eq_true rfl) ⟨Nat.le_of_ble_eq_true rfl, Nat.le_of_ble_eq_true rfl⟩ ?_
      refine r_in (lo := 0) (hi := 9) (by decide) (by decide) (fun _ => ⟨_, rfl, ?_⟩) (fun q => absurd q e9)
      refine x_if_ne (tgt := 39) (pc' := 36) rfl rfl rfl (fun _ => ?_) (fun c33 => absurd c33 ((by decide)))
      refine x_iload_n (pc' := 40) rfl rfl rfl ?_
      refine x_iconst (pc' := 41) rfl rfl iconst_4 ?_
      refine x_icmp_ge (tgt := 76) (pc' := 44) rfl rfl rfl (fun _ => ?_) (fun c41 => absurd ((by decide)) c41)
      refine x_iload_n (pc' := 77) rfl rfl rfl ?_
      refine x_iconst (pc' := 78) rfl rfl iconst_4 ?_
      refine x_icmp_ne (tgt := 88) (pc' := 81) rfl rfl rfl (fun _ => ?_) (fun c78 => absurd c78 ((by decide)))
      refine x_iload_n (pc' := 89) rfl rfl rfl ?_
      refine x_iconst (pc' := 90) rfl rfl iconst_5 ?_
      refine x_icmp_ne (tgt := 100) (pc' := 93) rfl rfl rfl (fun _ => ?_) (fun c90 => absurd c90 ((by decide)))
      refine x_iload_n (pc' := 101) rfl rfl rfl ?_
      refine x_bipush (pc' := 103) rfl rfl bipush_6 ?_
      refine x_icmp_ne (tgt := 113) (pc' := 106) rfl rfl rfl (fun c103 => absurd ((by decide)) c103) (fun _ => ?_)
      refine x_aload_n (pc' := 107) rfl rfl rfl ?_
      refine x_get (pc' := 110) rfl rfl rfl (hM.1) rfl ?_
      refine x_eqi t5 ?_
      refine x_goto (tgt := 143) rfl rfl ?_
      exact x_ireturn rfl rfl rfl (Nat.le_of_ble_eq_true rfl) (Nat.le_of_ble_eq_true rfl) (h _ _ hM hA x_fr.rf)
    · rw [if_neg (by decide), if_neg (by decide), if_neg (by decide), if_neg (by decide), if_neg (by decide), if_neg (by decide), if_neg (by decide), if_pos (by decide)] at h
      refine x_iload_n (pc' := 1) rfl rfl rfl ?_
      refine x_i2l (pc' := 2) rfl rfl ?_
      refine x_ldc2 (pc' := 5) rfl rfl rfl ?_
      refine x_ldc2 (pc' := 8) rfl rfl rfl ?_
      refine x_cS3i (d := 1) (pc' := 11) rfl rfl sX6_63 gX6_in ⟨Nat.le_of_ble_eq_true rfl, Nat.le_of_ble_eq_true rfl⟩ (Nat.le_of_ble_eq_true rfl) ⟨Nat.le_of_ble_eq_true rfl, Nat.le_of_ble_eq_true rfl⟩ ?_
      refine r_in (lo := 11) (hi := 16) (by decide) (by decide) (fun q => absurd e16 q) (fun _ => ⟨_, rfl, ?_⟩)
      refine x_if_eq (tgt := 24) (pc' := 14) rfl rfl rfl (fun _ => ?_) (fun c11 => absurd (rfl) c11)
      refine x_iload_n (pc' := 25) rfl rfl rfl ?_
      refine x_i2l (pc' := 26) rfl rfl ?_
      refine x_lconst (pc' := 27) rfl rfl lconst_0 ?_
      refine x_ldc2 (pc' := 30) rfl rfl rfl ?_
      refine x_cS3i (d := 1) (pc' := 33) rfl rfl sX6_63 gX6_in ⟨Nat.le_of_ble_eq_true rfl, Nat.le_of_ble_eq_true rfl⟩ (Nat.le_of_ble_eq_true rfl) ⟨Nat.le_of_ble_eq_true rfl, Nat.le_of_ble_eq_true rfl⟩ ?_
      refine r_in (lo := 0) (hi := 9) (by decide) (by decide) (fun _ => ⟨_, rfl, ?_⟩) (fun q => absurd q e9)
      refine x_if_ne (tgt := 39) (pc' := 36) rfl rfl rfl (fun _ => ?_) (fun c33 => absurd c33 ((by decide)))
      refine x_iload_n (pc' := 40) rfl rfl rfl ?_
      refine x_iconst (pc' := 41) rfl rfl iconst_4 ?_
      refine x_icmp_ge (tgt := 76) (pc' := 44) rfl rfl rfl (fun _ => ?_) (fun c41 => absurd ((by decide)) c41)
      refine x_iload_n (pc' := 77) rfl rfl rfl ?_
      refine x_iconst (pc' := 78) rfl rfl iconst_4 ?_
      refine x_icmp_ne (tgt := 88) (pc' := 81) rfl rfl rfl (fun _ => ?_) (fun c78 => absurd c78 ((by decide)))
      refine x_iload_n (pc' := 89) rfl rfl rfl ?_
      refine x_iconst (pc' := 90) rfl rfl iconst_5 ?_
      refine x_icmp_ne (tgt := 100) (pc' := 93) rfl rfl rfl (fun _ => ?_) (fun c90 => absurd c90 ((by decide)))
      refine x_iload_n (pc' := 101) rfl rfl rfl ?_
      refine x_bipush (pc' := 103) rfl rfl bipush_6 ?_
      refine x_icmp_ne (tgt := 113) (pc' := 106) rfl rfl rfl (fun _ => ?_) (fun c103 => absurd c103 ((by decide)))
      refine x_iload_n (pc' := 114) rfl rfl rfl ?_
      refine x_bipush (pc' := 116) rfl rfl bipush_7 ?_
      refine x_icmp_ne (tgt := 126) (pc' := 119) rfl rfl rfl (fun c116 => absurd ((by decide)) c116) (fun _ => ?_)
      refine x_aload_n (pc' := 120) rfl rfl rfl ?_
      refine x_get (pc' := 123) rfl rfl rfl (hM.1) rfl ?_
      refine x_eqi t6 ?_
      refine x_goto (tgt := 143) rfl rfl ?_
      exact x_ireturn rfl rfl rfl (Nat.le_of_ble_eq_true rfl) (Nat.le_of_ble_eq_true rfl) (h _ _ hM hA x_fr.rf)
    · rw [if_neg (by decide), if_neg (by decide), if_neg (by decide), if_neg (by decide), if_neg (by decide), if_neg (by decide), if_neg (by decide), if_neg (by decide), if_pos (by decide)] at h
      refine x_iload_n (pc' := 1) rfl rfl rfl ?_
      refine x_i2l (pc' := 2) rfl rfl ?_
      refine x_ldc2 (pc' := 5) rfl rfl rfl ?_
      refine x_ldc2 (pc' := 8) rfl rfl rfl ?_
      refine x_cS3i (d := 1) (pc' := 11) rfl rfl sX6_63 gX6_in ⟨Nat.le_of_ble_eq_true rfl, Nat.le_of_ble_eq_true rfl⟩ (Nat.le_of_ble_eq_true rfl) ⟨Nat.le_of_ble_eq_true rfl, Nat.le_of_ble_eq_true rfl⟩ ?_
      refine r_in (lo := 11) (hi := 16) (by decide) (by decide) (fun q => absurd e16 q) (fun _ => ⟨_, rfl, ?_⟩)
      refine x_if_eq (tgt := 24) (pc' := 14) rfl rfl rfl (fun _ => ?_) (fun c11 => absurd (rfl) c11)
      refine x_iload_n (pc' := 25) rfl rfl rfl ?_
      refine x_i2l (pc' := 26) rfl rfl ?_
      refine x_lconst (pc' := 27) rfl rfl lconst_0 ?_
      refine x_ldc2 (pc' := 30) rfl rfl rfl ?_
      refine x_cS3i (d := 1) (pc' := 33) rfl rfl sX6_63 gX6_in ⟨Nat.le_of_ble_eq_true rfl, Nat.le_of_ble_eq_true rfl⟩ (Nat.le_of_ble_eq_true rfl) ⟨Nat.le_of_ble_eq_true rfl, Nat.le_of_ble_eq_true rfl⟩ ?_
      refine r_in (lo := 0) (hi := 9) (by decide) (by decide) (fun _ => ⟨_, rfl, ?_⟩) (fun q => absurd q e9)
      refine x_if_ne (tgt := 39) (pc' := 36) rfl rfl rfl (fun _ => ?_) (fun c33 => absurd c33 ((by decide)))
      refine x_iload_n (pc' := 40) rfl rfl rfl ?_
      refine x_iconst (pc' := 41) rfl rfl iconst_4 ?_
      refine x_icmp_ge (tgt := 76) (pc' := 44) rfl rfl rfl (fun _ => ?_) (fun c41 => absurd ((by decide)) c41)
      refine x_iload_n (pc' := 77) rfl rfl rfl ?_
      refine x_iconst (pc' := 78) rfl rfl iconst_4 ?_
      refine x_icmp_ne (tgt := 88) (pc' := 81) rfl rfl rfl (fun _ => ?_) (fun c78 => absurd c78 ((by decide)))
      refine x_iload_n (pc' := 89) rfl rfl rfl ?_
      refine x_iconst (pc' := 90) rfl rfl iconst_5 ?_
      refine x_icmp_ne (tgt := 100) (pc' := 93) rfl rfl rfl (fun _ => ?_) (fun c90 => absurd c90 ((by decide)))
      refine x_iload_n (pc' := 101) rfl rfl rfl ?_
      refine x_bipush (pc' := 103) rfl rfl bipush_6 ?_
      refine x_icmp_ne (tgt := 113) (pc' := 106) rfl rfl rfl (fun _ => ?_) (fun c103 => absurd c103 ((by decide)))
      refine x_iload_n (pc' := 114) rfl rfl rfl ?_
      refine x_bipush (pc' := 116) rfl rfl bipush_7 ?_
      refine x_icmp_ne (tgt := 126) (pc' := 119) rfl rfl rfl (fun _ => ?_) (fun c116 => absurd c116 ((by decide)))
      refine x_iload_n (pc' := 127) rfl rfl rfl ?_
      refine x_bipush (pc' := 129) rfl rfl bipush_8 ?_
      refine x_icmp_ne (tgt := 139) (pc' := 132) rfl rfl rfl (fun c129 => absurd ((by decide)) c129) (fun _ => ?_)
      refine x_aload_n (pc' := 133) rfl rfl rfl ?_
      refine x_get (pc' := 136) rfl rfl rfl (hM.1) rfl ?_
      refine x_eqi b7 ?_
      refine x_goto (tgt := 143) rfl rfl ?_
      exact x_ireturn rfl rfl rfl (Nat.le_of_ble_eq_true rfl) (Nat.le_of_ble_eq_true rfl) (h _ _ hM hA x_fr.rf)
    · rw [if_neg (by decide), if_neg (by decide), if_neg (by decide), if_neg (by decide), if_neg (by decide), if_neg (by decide), if_neg (by decide), if_neg (by decide), if_neg (by decide), if_pos (by decide)] at h
      refine x_iload_n (pc' := 1) rfl rfl rfl ?_
      refine x_i2l (pc' := 2) rfl rfl ?_
      refine x_ldc2 (pc' := 5) rfl rfl rfl ?_
      refine x_ldc2 (pc' := 8) rfl rfl rfl ?_
      refine x_cS3i (d := 1) (pc' := 11) rfl rfl sX6_63 gX6_in ⟨Nat.le_of_ble_eq_true rfl, Nat.le_of_ble_eq_true rfl⟩ (Nat.le_of_ble_eq_true rfl) ⟨Nat.le_of_ble_eq_true rfl, Nat.le_of_ble_eq_true rfl⟩ ?_
      refine r_in (lo := 11) (hi := 16) (by decide) (by decide) (fun q => absurd e16 q) (fun _ => ⟨_, rfl, ?_⟩)
      refine x_if_eq (tgt := 24) (pc' := 14) rfl rfl rfl (fun _ => ?_) (fun c11 => absurd (rfl) c11)
      refine x_iload_n (pc' := 25) rfl rfl rfl ?_
      refine x_i2l (pc' := 26) rfl rfl ?_
      refine x_lconst (pc' := 27) rfl rfl lconst_0 ?_
      refine x_ldc2 (pc' := 30) rfl rfl rfl ?_
      refine x_cS3i (d := 1) (pc' := 33) rfl rfl sX6_63 gX6_in ⟨Nat.le_of_ble_eq_true rfl, Nat.le_of_ble_eq_true rfl⟩ (Nat.le_of_ble_eq_true rfl) ⟨Nat.le_of_ble_eq_true rfl, Nat.le_of_ble_eq_true rfl⟩ ?_
      refine r_in (lo := 0) (hi := 9) (by decide) (by decide) (fun _ => ⟨_, rfl, ?_⟩) (fun q => absurd q e9)
      refine x_if_ne (tgt := 39) (pc' := 36) rfl rfl rfl (fun _ => ?_) (fun c33 => absurd c33 ((by decide)))
      refine x_iload_n (pc' := 40) rfl rfl rfl ?_
      refine x_iconst (pc' := 41) rfl rfl iconst_4 ?_
      refine x_icmp_ge (tgt := 76) (pc' := 44) rfl rfl rfl (fun _ => ?_) (fun c41 => absurd ((by decide)) c41)
      refine x_iload_n (pc' := 77) rfl rfl rfl ?_
      refine x_iconst (pc' := 78) rfl rfl iconst_4 ?_
      refine x_icmp_ne (tgt := 88) (pc' := 81) rfl rfl rfl (fun _ => ?_) (fun c78 => absurd c78 ((by decide)))
      refine x_iload_n (pc' := 89) rfl rfl rfl ?_
      refine x_iconst (pc' := 90) rfl rfl iconst_5 ?_
      refine x_icmp_ne (tgt := 100) (pc' := 93) rfl rfl rfl (fun _ => ?_) (fun c90 => absurd c90 ((by decide)))
      refine x_iload_n (pc' := 101) rfl rfl rfl ?_
      refine x_bipush (pc' := 103) rfl rfl bipush_6 ?_
      refine x_icmp_ne (tgt := 113) (pc' := 106) rfl rfl rfl (fun _ => ?_) (fun c103 => absurd c103 ((by decide)))
      refine x_iload_n (pc' := 114) rfl rfl rfl ?_
      refine x_bipush (pc' := 116) rfl rfl bipush_7 ?_
      refine x_icmp_ne (tgt := 126) (pc' := 119) rfl rfl rfl (fun _ => ?_) (fun c116 => absurd c116 ((by decide)))
      refine x_iload_n (pc' := 127) rfl rfl rfl ?_
      refine x_bipush (pc' := 129) rfl rfl bipush_8 ?_
      refine x_icmp_ne (tgt := 139) (pc' := 132) rfl rfl rfl (fun _ => ?_) (fun c129 => absurd c129 ((by decide)))
      refine x_aload_n (pc' := 140) rfl rfl rfl ?_
      refine x_get (pc' := 143) rfl rfl rfl (hM.1) rfl ?_
      refine x_eqi b5 ?_
      exact x_ireturn rfl rfl rfl (Nat.le_of_ble_eq_true rfl) (Nat.le_of_ble_eq_true rfl) (h _ _ hM hA x_fr.rf)
  · obtain ⟨k, hk, rfl⟩ := nI_of2 (n := 16) (M := 16) rfl (fun q => e16 (Or.inl (Int32.lt_trans q (by decide)))) (Int32.not_lt.mp (fun q => e16 (Or.inr q)))
    have hk11 : 11 ≤ k := by
      rcases Nat.lt_or_ge k 11 with q | q
      · exact absurd (Or.inl (nI_lt (a := k) (b := 11) q (by decide))) e16
      · exact q
    have hne : ∀ j : Nat, j < 11 → ¬ nI k = nI j := fun j hj q => by
      have := (nI_eq (by omega) (by omega)).mp q
      omega
    rw [if_neg (show ¬ nI k = 0 from hne 0 (by decide)), if_neg (show ¬ nI k = 1 from hne 1 (by decide)), if_neg (show ¬ nI k = 2 from hne 2 (by decide)), if_neg (show ¬ nI k = 3 from hne 3 (by decide)), if_neg (show ¬ nI k = 4 from hne 4 (by decide)), if_neg (show ¬ nI k = 5 from hne 5 (by decide)), if_neg (show ¬ nI k = 6 from hne 6 (by decide)), if_neg (show ¬ nI k = 7 from hne 7 (by decide)), if_neg (show ¬ nI k = 8 from hne 8 (by decide)), if_neg (show ¬ nI k = 9 from hne 9 (by decide)), if_pos ⟨fun q => e16 (Or.inl q), fun q => e16 (Or.inr q)⟩] at h
    refine x_iload_n (pc' := 1) rfl rfl rfl ?_
    refine x_i2l (pc' := 2) rfl rfl ?_
    refine x_ldc2 (pc' := 5) rfl rfl rfl ?_
    refine x_ldc2 (pc' := 8) rfl rfl rfl ?_
    refine x_cS3i (d := 1) (pc' := 11) rfl rfl sX6_63 gX6_in ⟨Nat.le_of_ble_eq_true rfl, Nat.le_of_ble_eq_true rfl⟩ (Nat.le_of_ble_eq_true rfl) ⟨Nat.le_of_ble_eq_true rfl, Nat.le_of_ble_eq_true rfl⟩ ?_
    refine r_in (lo := 11) (hi := 16) (by decide) (by decide) (fun _ => ⟨_, rfl, ?_⟩) (fun q => absurd q e16)
    refine x_if_eq (tgt := 24) (pc' := 14) rfl rfl rfl (fun c11 => absurd c11 ((by decide))) (fun _ => ?_)
    refine x_aload_n (pc' := 15) rfl rfl rfl ?_
    refine x_get (pc' := 18) rfl rfl rfl (hM.1) rfl ?_
    refine x_iload_n (pc' := 19) rfl rfl rfl ?_
    refine x_bipush (pc' := 21) rfl rfl bipush_11 ?_
    refine x_isub (pc' := 22) rfl rfl ?_
    refine x_eqi (show nI k - 11 = nI (k - 11) from pk_sub (a := k) (b := 11) hk11) ?_
    refine x_iaload (pc' := 23) rfl rfl (hM.2.1 3 (by decide)) (vp_in_nI (n := k - 11) (N := 6) (by omega) (by decide)) ?_
    refine x_eqi (show M.2.1 3 (nI (k - 11)).toNatClampNeg = a_no A ((nI k).toNatClampNeg - 10) from by rw [nI_clamp (by omega), nI_clamp (by omega), b9]; show a_no A (k - 11 + 1) = _; rw [show k - 11 + 1 = k - 10 by omega]) ?_
    exact x_ireturn rfl rfl rfl (Nat.le_of_ble_eq_true rfl) (Nat.le_of_ble_eq_true rfl) (h _ _ hM hA x_fr.rf)
end RD
end
section
-- == 54.backs
/-! Back and loop: the reference's records; weak contracts where the state alone is told. -/
/-- beans behind a sowing aside -/
def g_as (g : q_G) (b : Nat) : q_G := (g_κ g, q_b1 (g_v g b).1 0 (g_v g b).2.2.2, g_π g, g_n g, g_f g, g_l g, g_t g)
theorem g_as_ok {C : Nat} {g : q_G} {b : Nat} (h : g_ok C g) (hC : 99 ≤ C) (hC2 : C ≤ 100) (hb : b < g_n g) : g_ok C (g_as g b) := by
  obtain ⟨v1, v2, v3⟩ := g_v_ok h hC hC2 hb
  obtain ⟨a1, a2, a3, a4, a5, a6, a7, a8, a9⟩ := h
  refine ⟨a1, a2, a3, a4, a5, q_b1_le v1, a7, fun i hi => ⟨(a8 i hi).1, ?_⟩, a9⟩
  show q_b1 (g_v g b).1 0 (g_v g b).2.2.2 i = 0
  have h3 : (g_v g b).1 i = 0 := (v3 i (by omega)).trans (a8 i hi).2
  unfold q_b1
  split
  · unfold q_up
    split
    · rfl
    · exact h3
  · exact h3
/-- sown so many times -/
def g_sq (b : Nat) : Nat → q_G → q_G
  | 0, g => g
  | k + 1, g => g_as (g_sq b k g) b
/-- how many times it can be sown -/
def g_rc (b : Nat) : Nat → Nat → q_G → Nat
  | 0, i, _ => i
  | k + 1, i, g => if g_can (g_sq b i g) b then g_rc b k (i + 1) g else i
theorem g_sq_st (b : Nat) (g : q_G) : ∀ k, g_κ (g_sq b k g) = g_κ g ∧ g_π (g_sq b k g) = g_π g ∧ g_n (g_sq b k g) = g_n g ∧ g_f (g_sq b k g) = g_f g ∧ g_l (g_sq b k g) = g_l g ∧ g_t (g_sq b k g) = g_t g
  | 0 => ⟨rfl, rfl, rfl, rfl, rfl, rfl⟩
  | k + 1 => g_sq_st b g k
theorem g_sq_ok {C : Nat} {g : q_G} {b : Nat} (h : g_ok C g) (hC : 99 ≤ C) (hC2 : C ≤ 100) (hb : b < g_n g) : ∀ k, g_ok C (g_sq b k g)
  | 0 => h
  | k + 1 => g_as_ok (g_sq_ok h hC hC2 hb k) hC hC2 (by rw [(g_sq_st b g k).2.2.1]; exact hb)
theorem g_sq_ly (b : Nat) (g : q_G) (k : Nat) : g_ly g (g_sq b k g) = g := by
  obtain ⟨h1, h2, h3, h4, h5, h6⟩ := g_sq_st b g k
  show (g_κ (g_sq b k g), g_β g, g_π g, g_n (g_sq b k g), g_f (g_sq b k g), g_l (g_sq b k g), g_t g) = g
  rw [h1, h3, h4, h5]
theorem g_rc_le (b : Nat) : ∀ (k i : Nat) (g : q_G), i ≤ g_rc b k i g ∧ g_rc b k i g ≤ i + k
  | 0, i, g => ⟨Nat.le_refl _, Nat.le_refl _⟩
  | k + 1, i, g => by
    unfold g_rc
    split
    · have := g_rc_le b k (i + 1) g
      omega
    · omega
/-- a ring kept at place 9 k -/
def x_bn (k m : Nat) (bs old : Nat → Int32) : Nat → Int32 := fun j => if 9 * k ≤ j ∧ j < 9 * k + m then bs (j - 9 * k) else old j
theorem x_bn_0 (k : Nat) (bs old : Nat → Int32) : x_bn k 0 bs old = old := by
  funext j
  unfold x_bn
  rw [if_neg (by omega)]
theorem x_bn_s (k m : Nat) (bs old : Nat → Int32) : upd (x_bn k m bs old) (9 * k + m) (bs m) = x_bn k (m + 1) bs old := by
  funext j
  unfold upd x_bn
  by_cases h : j = 9 * k + m
  · rw [if_pos h, if_pos (by omega), show j - 9 * k = m by omega]
  · rw [if_neg h]
    by_cases h2 : 9 * k ≤ j ∧ j < 9 * k + m
    · rw [if_pos h2, if_pos (by omega)]
    · rw [if_neg h2, if_neg (by omega)]
/-- rings 0 .. n are kept -/
def m_bn (M : x_N) (b n : Nat) (g : q_G) : Prop := ∀ j, j ≤ n → ∀ i, i < 9 → M.2.1 8 (9 * j + i) = nI (g_β (g_sq b j g) i)
section BK
variable {E : x_E} {z : Nat} {f : x_H} {S : x_S} {M : x_N} {A : q_A} {post : Option Value → x_H → Prop} {a b : Int32} {g : q_G} {C : Nat}
theorem m_recL {k : Nat} (hk : k ≤ 200) (f0 : x_H) (M0 : x_N) (h : ∀ f' : x_H, x_Mdl z f' (M0.1, x_ua M0.2.1 8 (x_bn k 9 (M0.2.1 1) (M0.2.1 8)), M0.2.2) → x_fr (fun q => q < 59) f0 f' → post none f') : ∀ (m i : Nat) (f : x_H), i + m = 9 → x_Mdl z f (M0.1, x_ua M0.2.1 8 (x_bn k i (M0.2.1 1) (M0.2.1 8)), M0.2.2) → x_fr (fun q => q < 59) f0 f → X E (x_rm 1 0 0) mX6_records (x_QM E z 0 0 post) 2 [(2, .int (nI i)), (0, .ref 59), (1, .int (nI k))] [] z f 0 0 := by
  intro m
  induction m with
  | zero =>
    intro i f hi hM hF
    have hi2 : i = 9 := by omega
    subst hi2
    refine x_iload_n (pc' := 3) rfl rfl rfl ?_
    refine x_bipush (pc' := 5) rfl rfl bipush_9 ?_
    refine x_icmp_ge (tgt := 31) (pc' := 8) rfl rfl rfl (fun _ => ?_) (fun c5 => absurd ((by decide : (9 : Int32) ≤ nI 9)) c5)
    exact x_return rfl rfl (Nat.le_of_ble_eq_true rfl) (Nat.le_of_ble_eq_true rfl) (h _ hM hF)
  | succ m ih =>
    intro i f hi hM hF
    have hcl : (nI i).toNatClampNeg = i := nI_clamp (by omega)
    have hcl2 : (nI (9 * k + i)).toNatClampNeg = 9 * k + i := nI_clamp (by omega)
    refine x_iload_n (pc' := 3) rfl rfl rfl ?_
    refine x_bipush (pc' := 5) rfl rfl bipush_9 ?_
    refine x_icmp_ge (tgt := 31) (pc' := 8) rfl rfl rfl (fun c5 => absurd c5 ((nI_ge (a := i) (b := 9) (by omega) (by decide)))) (fun _ => ?_)
    refine x_aload_n (pc' := 9) rfl rfl rfl ?_
    refine x_get (pc' := 12) rfl rfl rfl (hM.1) rfl ?_
    refine x_bipush (pc' := 14) rfl rfl bipush_9 ?_
    refine x_iload_n (pc' := 15) rfl rfl rfl ?_
    refine x_imul (pc' := 16) rfl rfl ?_
    refine x_eqi (show (9 : Int32) * nI k = nI (9 * k) from pk_mul 9 k) ?_
    refine x_iload_n (pc' := 17) rfl rfl rfl ?_
    refine x_iadd (pc' := 18) rfl rfl ?_
    refine x_eqi (nI_add _ _) ?_
    refine x_aload_n (pc' := 19) rfl rfl rfl ?_
    refine x_get (pc' := 22) rfl rfl rfl (hM.1) rfl ?_
    refine x_iload_n (pc' := 23) rfl rfl rfl ?_
    refine x_iaload (pc' := 24) rfl rfl (hM.2.1 1 (by decide)) (vp_in_nI (n := i) (N := 9) (by omega) (by decide)) ?_
    refine x_eqi (show M0.2.1 1 (nI i).toNatClampNeg = M0.2.1 1 i from by rw [hcl]) ?_
    refine x_iastore (pc' := 25) rfl rfl (hM.2.1 8 (by decide)) (vp_in_nI (n := 9 * k + i) (N := 1809) (by omega) (by decide)) (fun f1 e1 => ?_)
    have hM1 := hM.arr 8 (by decide) e1
    have hF1 := hF.up e1 (by decide)
    refine x_iinc (pc' := 28) (lv' := [(2, _), (0, _), (1, _)]) rfl rfl (Nat.le_of_ble_eq_true rfl) rfl (nI_1 i) rfl ?_
    refine x_goto (tgt := 2) rfl rfl ?_
    refine ih (i + 1) _ (by omega) ?_ hF1
    have e9 : x_ua (x_ua M0.2.1 8 (x_bn k i (M0.2.1 1) (M0.2.1 8))) 8 (upd (x_bn k i (M0.2.1 1) (M0.2.1 8)) (nI (9 * k + i)).toNatClampNeg (M0.2.1 1 i)) = x_ua M0.2.1 8 (x_bn k (i + 1) (M0.2.1 1) (M0.2.1 8)) := by rw [x_ua_ua, hcl2, x_bn_s]
    rw [← e9]
    exact hM1
theorem m_records {k : Nat} (hk : k ≤ 200) (hM : x_Mdl z f M) (h : ∀ f' : x_H, x_Mdl z f' (M.1, x_ua M.2.1 8 (x_bn k 9 (M.2.1 1) (M.2.1 8)), M.2.2) → x_fr (fun q => q < 59) f f' → post none f') : Y E 1 mX6_records [.ref 59, .int (nI k)] z f 0 0 post := by
  refine Y.intro gX6_records (lv := [(0, .ref 59), (1, .int (nI k))]) rfl (Nat.le_of_ble_eq_true rfl) ?_
  refine x_iconst (pc' := 1) rfl rfl iconst_0 ?_
  refine x_istore_n (pc' := 2) (lv' := [(2, _), (0, _), (1, _)]) rfl rfl (Nat.le_of_ble_eq_true rfl) rfl ?_
  exact m_recL hk f M h 9 0 f (by omega) (by rw [x_bn_0, x_ua_id]; exact hM) x_fr.rf
/-- what else records200 leaves -/
def m_kr (M M' : x_N) : Prop := (∀ j, j ≠ 1 → j ≠ 2 → j ≠ 8 → M'.2.1 j = M.2.1 j) ∧ (∀ i, i ≠ 14 → i ≠ 15 → i ≠ 16 → i ≠ 17 → M'.1 i = M.1 i)
theorem m_r2L {b : Nat} (hok : g_ok 99 g) (hb : b < g_n g) (f0 : x_H) (M0 : x_N) (hm0 : M0.1 18 = 1) (K : ∀ (f' : x_H) (M' : x_N) (n : Nat), n ≤ 200 → n = g_rc b 200 0 g → x_Mdl z f' M' → m_is M' (g_sq b n g) → m_kr M0 M' → m_bn M' b n g → x_fr (fun q => q < 59) f0 f' → X E (x_rm 6 0 0) mX6_records200 (x_QM E z 0 0 post) 49 [(2, .int (nI n)), (0, .ref 59), (1, .int (nI b))] [] z f' 0 0) : ∀ (k i : Nat) (f : x_H) (M : x_N), i + k = 200 → g_rc b k i g = g_rc b 200 0 g → x_Mdl z f M → m_is M (g_sq b i g) → m_kr M0 M → m_bn M b i g → x_fr (fun q => q < 59) f0 f → X E (x_rm 6 0 0) mX6_records200 (x_QM E z 0 0 post) 18 [(2, .int (nI i)), (0, .ref 59), (1, .int (nI b))] [] z f 0 0 := by
  intro k
  induction k with
  | zero =>
    intro i f M hi he hM hm hk hbn hF
    have hi2 : i = 200 := by omega
    subst hi2
    refine x_iload_n (pc' := 19) rfl rfl rfl ?_
    refine x_sipush (pc' := 22) rfl rfl sipush_200 ?_
    refine x_icmp_ge (tgt := 49) (pc' := 25) rfl rfl rfl (fun _ => ?_) (fun c22 => absurd ((by decide : (200 : Int32) ≤ nI 200)) c22)
    exact K _ _ 200 (by omega) he hM hm hk hbn hF
  | succ k ih =>
    intro i f M hi he hM hm hk hbn hF
    have oi := g_sq_ok hok (by decide) (by decide) hb i
    obtain ⟨s1, s2, s3, s4, s5, s6⟩ := g_sq_st b g i
    replace he : (if g_can (g_sq b i g) b then g_rc b k (i + 1) g else i) = g_rc b 200 0 g := he
    obtain ⟨t1, t2, t3, t4, t5, t6, t7⟩ := id hm
    obtain ⟨o1, o2, o3, o4, o5, o6, o7, o8, o9⟩ := id oi
    refine x_iload_n (pc' := 19) rfl rfl rfl ?_
    refine x_sipush (pc' := 22) rfl rfl sipush_200 ?_
    refine x_icmp_ge (tgt := 49) (pc' := 25) rfl rfl rfl (fun c22 => absurd c22 ((nI_ge (a := i) (b := 200) (by omega) (by decide)))) (fun _ => ?_)
    refine x_aload_n (pc' := 26) rfl rfl rfl ?_
    refine x_iload_n (pc' := 27) rfl rfl rfl ?_
    refine x_cV1i (d := 3) (pc' := 30) rfl rfl sX6_135 gX6_canMove (hM.1) ⟨Nat.le_of_ble_eq_true rfl, Nat.le_of_ble_eq_true rfl⟩ (Nat.le_of_ble_eq_true rfl) ⟨Nat.le_of_ble_eq_true rfl, Nat.le_of_ble_eq_true rfl⟩ ?_
    refine m_can1 hM hm oi (by decide) (by have := hok.1; omega) (fun d2 => ⟨_, rfl, ?_⟩) (fun d2 => ⟨_, rfl, ?_⟩)
    · rw [if_pos d2] at he
      refine x_if_eq (tgt := 49) (pc' := 33) rfl rfl rfl (fun c30 => absurd c30 ((by decide))) (fun _ => ?_)
      refine x_aload_n (pc' := 34) rfl rfl rfl ?_
      refine x_iload_n (pc' := 35) rfl rfl rfl ?_
      refine x_cV1v (d := 3) (pc' := 38) rfl rfl sX6_106 gX6_sows (hM.1) ⟨Nat.le_of_ble_eq_true rfl, Nat.le_of_ble_eq_true rfl⟩ (Nat.le_of_ble_eq_true rfl) ⟨Nat.le_of_ble_eq_true rfl, Nat.le_of_ble_eq_true rfl⟩ ?_
      refine m_sows (a := 1) hM t4 o1 t5 (by omega) t6 (by omega) t1 o5 t2 (fun x => Nat.le_trans (o6 x) (by decide)) d2.2.1 d2.1 d2.2.2 t7 o4 t3 (fun x => by have := o7 x; omega) ((hk.2 18 (by decide) (by decide) (by decide) (by decide)).trans hm0) (by decide) (fun f1 M1 hM1 w hF1 => ⟨rfl, ?_⟩)
      obtain ⟨w1, w2, w3, w4, w5, w6, w7, w8, w9⟩ := w
      rw [if_pos rfl] at w1
      have hm1 : m_is M1 (g_sq b (i + 1) g) := ⟨(w3 0 (by decide) (by decide)).trans t1, w1, w2, (w5 3 (by decide) (by decide) (by decide) (by decide)).trans t4, (w5 4 (by decide) (by decide) (by decide) (by decide)).trans t5, (w5 5 (by decide) (by decide) (by decide) (by decide)).trans t6, (w5 7 (by decide) (by decide) (by decide) (by decide)).trans t7⟩
      have hk1 : m_kr M0 M1 := ⟨fun j j1 j2 j3 => (w3 j j1 j2).trans (hk.1 j j1 j2 j3), fun j j1 j2 j3 j4 => (w5 j j1 j2 j3 j4).trans (hk.2 j j1 j2 j3 j4)⟩
      refine x_iinc (pc' := 41) (lv' := [(2, _), (0, _), (1, _)]) rfl rfl (Nat.le_of_ble_eq_true rfl) rfl (nI_1 i) rfl ?_
      refine x_aload_n (pc' := 42) rfl rfl rfl ?_
      refine x_iload_n (pc' := 43) rfl rfl rfl ?_
      refine x_cV1v (d := 1) (pc' := 46) rfl rfl sX6_186 gX6_records (hM1.1) ⟨Nat.le_of_ble_eq_true rfl, Nat.le_of_ble_eq_true rfl⟩ (Nat.le_of_ble_eq_true rfl) ⟨Nat.le_of_ble_eq_true rfl, Nat.le_of_ble_eq_true rfl⟩ ?_
      refine m_records (k := i + 1) (by omega) hM1 (fun f2 hM2 hF2 => ⟨rfl, ?_⟩)
      refine x_goto (tgt := 18) rfl rfl ?_
      refine ih (i + 1) f2 _ (by omega) he hM2 hm1 ⟨fun j j1 j2 j3 => (if_neg j3).trans (hk1.1 j j1 j2 j3), hk1.2⟩ ?_ ((hF.trans hF1).trans hF2)
      intro j hj x hx
      show x_bn (i + 1) 9 (M1.2.1 1) (M1.2.1 8) (9 * j + x) = _
      unfold x_bn
      by_cases hji : j = i + 1
      · subst hji
        rw [if_pos (by omega), show 9 * (i + 1) + x - 9 * (i + 1) = x by omega, hm1.2.1]
      · rw [if_neg (by omega), w3 8 (by decide) (by decide)]
        exact hbn j (by omega) x hx
    · rw [if_neg d2] at he
      refine x_if_eq (tgt := 49) (pc' := 33) rfl rfl rfl (fun _ => ?_) (fun c30 => absurd (rfl) c30)
      exact K _ _ i (by omega) he hM hm hk hbn hF
theorem m_records200 {b : Nat} (hM : x_Mdl z f M) (hA : r_is M A) (ho : a_ok A) (hb : b < g_n (a_g A)) (h : ∀ (f' : x_H) (M' : x_N) (n : Nat), n ≤ 200 → n = g_rc b 200 0 (a_g A) → x_Mdl z f' M' → r_is M' A → m_bn M' b n (a_g A) → x_fr (fun q => q < 59) f f' → post (some (.int (nI n))) f') : Y E 6 mX6_records200 [.ref 59, .int (nI b)] z f 0 0 post := by
  refine Y.intro gX6_records200 (lv := [(0, .ref 59), (1, .int (nI b))]) rfl (Nat.le_of_ble_eq_true rfl) ?_
  obtain ⟨b1, b2, b3, b4, b5, b6, b7, b8, b9⟩ := id hA
  refine x_aload_n (pc' := 1) rfl rfl rfl ?_
  refine x_bipush (pc' := 3) rfl rfl bipush_6 ?_
  refine x_cV1v (d := 1) (pc' := 6) rfl rfl sX6_154 gX6_keeps (hM.1) ⟨Nat.le_of_ble_eq_true rfl, Nat.le_of_ble_eq_true rfl⟩ (Nat.le_of_ble_eq_true rfl) ⟨Nat.le_of_ble_eq_true rfl, Nat.le_of_ble_eq_true rfl⟩ ?_
  refine m_keeps (l := 6) (by decide) hM b1 (fun f1 M1 hM1 g1 k1 fr1 hF1 => ⟨rfl, ?_⟩)
  refine x_aload_n (pc' := 7) rfl rfl rfl ?_
  refine x_iconst (pc' := 8) rfl rfl iconst_1 ?_
  refine x_put (pc' := 11) rfl rfl rfl (hM1.1) (Nat.le_of_ble_eq_true rfl) rfl rfl rfl rfl (fun f1 e1 => ?_)
  have hM2 := hM1.num 18 e1 (x_mFs18 _ _)
  have hF2 := hF1.up e1 (by decide)
  refine x_iconst (pc' := 12) rfl rfl iconst_0 ?_
  refine x_istore_n (pc' := 13) (lv' := [(2, _), (0, _), (1, _)]) rfl rfl (Nat.le_of_ble_eq_true rfl) rfl ?_
  refine x_aload_n (pc' := 14) rfl rfl rfl ?_
  refine x_iconst (pc' := 15) rfl rfl iconst_0 ?_
  refine x_cV1v (d := 1) (pc' := 18) rfl rfl sX6_186 gX6_records (hM2.1) ⟨Nat.le_of_ble_eq_true rfl, Nat.le_of_ble_eq_true rfl⟩ (Nat.le_of_ble_eq_true rfl) ⟨Nat.le_of_ble_eq_true rfl, Nat.le_of_ble_eq_true rfl⟩ ?_
  refine m_records (k := 0) (by decide) hM2 (fun f3 hM3 hF3 => ⟨rfl, ?_⟩)
  refine x_lvp [0, 1, 2] rfl ?_
  refine m_r2L (g := a_g A) ho.1 hb f3 (upd M1.1 18 1, x_ua M1.2.1 8 (x_bn 0 9 (M1.2.1 1) (M1.2.1 8)), M1.2.2) rfl ?_ 200 0 f3 _ (by omega) rfl hM3 g1 ⟨fun _ _ _ _ => rfl, fun _ _ _ _ _ => rfl⟩ ?_ x_fr.rf
  · intro f4 M4 n hn hne hM4 hm4 hk4 hbn4 hF4
    have hfr4 : m_fr M4 6 (a_g A) := fr1.eq (hk4.1 6 (by decide) (by decide) (by decide))
    have ok4 := g_sq_ok ho.1 (by decide) (by decide) hb n
    refine x_aload_n (pc' := 50) rfl rfl rfl ?_
    refine x_iconst (pc' := 51) rfl rfl iconst_0 ?_
    refine x_put (pc' := 54) rfl rfl rfl (hM4.1) (Nat.le_of_ble_eq_true rfl) rfl rfl rfl rfl (fun f2 e2 => ?_)
    have hM5 := hM4.num 18 e2 (x_mFs18 _ _)
    have hF5 := hF4.up e2 (by decide)
    refine x_aload_n (pc' := 55) rfl rfl rfl ?_
    refine x_bipush (pc' := 57) rfl rfl bipush_6 ?_
    refine x_cV1v (d := 1) (pc' := 60) rfl rfl sX6_160 gX6_lays (hM5.1) ⟨Nat.le_of_ble_eq_true rfl, Nat.le_of_ble_eq_true rfl⟩ (Nat.le_of_ble_eq_true rfl) ⟨Nat.le_of_ble_eq_true rfl, Nat.le_of_ble_eq_true rfl⟩ ?_
    refine m_lays (l := 6) (g := a_g A) (by decide) hM5 hm4 hfr4 ho.1 ok4 (fun f6 M6 hM6 g6 y1 y2 y3 hF6 => ⟨rfl, ?_⟩)
    rw [g_sq_ly] at g6
    refine x_iload_n (pc' := 61) rfl rfl rfl ?_
    refine x_ireturn rfl rfl rfl (Nat.le_refl _) (Nat.le_refl _) (h f6 M6 n hn hne hM6 (hA.sc ⟨fun i hi => ?_, fun j hj => ?_⟩ g6) (fun j hj i hi => ?_) (((hF2.trans hF3).trans hF5).trans hF6))
    · rw [y1 i (by omega)]
      by_cases h18 : i = 18
      · subst h18
        exact b3.symm
      · refine (pk_un h18).trans ((hk4.2 i (by omega) (by omega) (by omega) (by omega)).trans ((pk_un h18).trans ?_))
        rw [k1.1]
    · rw [y2 j (by omega) (by omega)]
      refine (hk4.1 j (by omega) (by omega) (by omega)).trans ((if_neg (by omega)).trans (k1.2.1 j (by omega)))
    · rw [y2 8 (by decide) (by decide)]
      exact hbn4 j hj i hi
  · intro j hj x hx
    have hj0 : j = 0 := by omega
    subst hj0
    show x_bn 0 9 (M1.2.1 1) (M1.2.1 8) (9 * 0 + x) = _
    unfold x_bn
    rw [if_pos (by omega), show 9 * 0 + x - 9 * 0 = x by omega, g1.2.1]
    rfl
theorem m_likeL {j k n : Nat} {β γ : Nat → Nat} (hM : x_Mdl z f M) (hj : j ≤ 200) (hk : k ≤ 200) (hn : M.1 3 = nI n) (hn9 : n ≤ 9) (hβ : ∀ i, i < 9 → M.2.1 8 (9 * j + i) = nI (β i)) (hγ : ∀ i, i < 9 → M.2.1 8 (9 * k + i) = nI (γ i)) (hβ5 : ∀ i, β i ≤ 100) (hγ5 : ∀ i, γ i ≤ 100) (h1 : (∀ i, i < n → β i = γ i) → post (some (.int 1)) f) (h0 : ¬ (∀ i, i < n → β i = γ i) → post (some (.int 0)) f) : ∀ (m i : Nat), i + m = n → (∀ x, x < i → β x = γ x) → X E (x_rm 1 0 0) mX6_isLike (x_QM E z 0 0 post) 2 [(3, .int (nI i)), (0, .ref 59), (1, .int (nI j)), (2, .int (nI k))] [] z f 0 0 := by
  intro m
  induction m with
  | zero =>
    intro i hi hx
    refine x_iload_n (pc' := 3) rfl rfl rfl ?_
    refine x_aload_n (pc' := 4) rfl rfl rfl ?_
    refine x_get (pc' := 7) rfl rfl rfl (hM.1) rfl ?_
    refine x_eqi hn ?_
    refine x_icmp_ge (tgt := 43) (pc' := 10) rfl rfl rfl (fun _ => ?_) (fun c7 => absurd ((nI_le (by omega) (by omega))) c7)
    refine x_iconst (pc' := 44) rfl rfl iconst_1 ?_
    exact x_ireturn rfl rfl rfl (Nat.le_of_ble_eq_true rfl) (Nat.le_of_ble_eq_true rfl) (h1 (fun x hx2 => hx x (by omega)))
  | succ m ih =>
    intro i hi hx
    have e1 : M.2.1 8 (nI (9 * j + i)).toNatClampNeg = nI (β i) := by rw [nI_clamp (by omega)]; exact hβ i (by omega)
    have e2 : M.2.1 8 (nI (9 * k + i)).toNatClampNeg = nI (γ i) := by rw [nI_clamp (by omega)]; exact hγ i (by omega)
    have k1 := hβ5 i
    have k2 := hγ5 i
    refine x_iload_n (pc' := 3) rfl rfl rfl ?_
    refine x_aload_n (pc' := 4) rfl rfl rfl ?_
    refine x_get (pc' := 7) rfl rfl rfl (hM.1) rfl ?_
    refine x_eqi hn ?_
    refine x_icmp_ge (tgt := 43) (pc' := 10) rfl rfl rfl (fun c7 => absurd c7 ((nI_ge (by omega) (by omega)))) (fun _ => ?_)
    refine x_aload_n (pc' := 11) rfl rfl rfl ?_
    refine x_get (pc' := 14) rfl rfl rfl (hM.1) rfl ?_
    refine x_bipush (pc' := 16) rfl rfl bipush_9 ?_
    refine x_iload_n (pc' := 17) rfl rfl rfl ?_
    refine x_imul (pc' := 18) rfl rfl ?_
    refine x_eqi (show (9 : Int32) * nI j = nI (9 * j) from pk_mul 9 j) ?_
    refine x_iload_n (pc' := 19) rfl rfl rfl ?_
    refine x_iadd (pc' := 20) rfl rfl ?_
    refine x_eqi (nI_add _ _) ?_
    refine x_iaload (pc' := 21) rfl rfl (hM.2.1 8 (by decide)) (vp_in_nI (n := 9 * j + i) (N := 1809) (by omega) (by decide)) ?_
    refine x_eqi e1 ?_
    refine x_aload_n (pc' := 22) rfl rfl rfl ?_
    refine x_get (pc' := 25) rfl rfl rfl (hM.1) rfl ?_
    refine x_bipush (pc' := 27) rfl rfl bipush_9 ?_
    refine x_iload_n (pc' := 28) rfl rfl rfl ?_
    refine x_imul (pc' := 29) rfl rfl ?_
    refine x_eqi (show (9 : Int32) * nI k = nI (9 * k) from pk_mul 9 k) ?_
    refine x_iload_n (pc' := 30) rfl rfl rfl ?_
    refine x_iadd (pc' := 31) rfl rfl ?_
    refine x_eqi (nI_add _ _) ?_
    refine x_iaload (pc' := 32) rfl rfl (hM.2.1 8 (by decide)) (vp_in_nI (n := 9 * k + i) (N := 1809) (by omega) (by decide)) ?_
    refine x_eqi e2 ?_
    refine x_icmp_eq (tgt := 37) (pc' := 35) rfl rfl rfl (fun c32 => ?_) (fun c32 => ?_)
    · have d := (nI_eq (by omega) (by omega)).mp c32
      refine x_iinc (pc' := 40) (lv' := [(3, _), (0, _), (1, _), (2, _)]) rfl rfl (Nat.le_of_ble_eq_true rfl) rfl (nI_1 i) rfl ?_
      refine x_goto (tgt := 2) rfl rfl ?_
      refine ih (i + 1) (by omega) (fun x hx2 => ?_)
      by_cases h9 : x = i
      · rw [h9]
        exact d
      · exact hx x (by omega)
    · have d : ¬ β i = γ i := fun q => c32 (by rw [q])
      refine x_iconst (pc' := 36) rfl rfl iconst_0 ?_
      exact x_ireturn rfl rfl rfl (Nat.le_of_ble_eq_true rfl) (Nat.le_of_ble_eq_true rfl) (h0 (fun q => d (q i (by omega))))
theorem m_like {j k n : Nat} {β γ : Nat → Nat} (hM : x_Mdl z f M) (hj : j ≤ 200) (hk : k ≤ 200) (hn : M.1 3 = nI n) (hn9 : n ≤ 9) (hβ : ∀ i, i < 9 → M.2.1 8 (9 * j + i) = nI (β i)) (hγ : ∀ i, i < 9 → M.2.1 8 (9 * k + i) = nI (γ i)) (hβ5 : ∀ i, β i ≤ 100) (hγ5 : ∀ i, γ i ≤ 100) (h1 : (∀ i, i < n → β i = γ i) → post (some (.int 1)) f) (h0 : ¬ (∀ i, i < n → β i = γ i) → post (some (.int 0)) f) : Y E 1 mX6_isLike [.ref 59, .int (nI j), .int (nI k)] z f 0 0 post := by
  refine Y.intro gX6_isLike (lv := [(0, .ref 59), (1, .int (nI j)), (2, .int (nI k))]) rfl (Nat.le_of_ble_eq_true rfl) ?_
  refine x_iconst (pc' := 1) rfl rfl iconst_0 ?_
  refine x_istore_n (pc' := 2) (lv' := [(3, _), (0, _), (1, _), (2, _)]) rfl rfl (Nat.le_of_ble_eq_true rfl) rfl ?_
  exact m_likeL hM hj hk hn hn9 hβ hγ hβ5 hγ5 h1 h0 n 0 (by omega) (fun x hx => absurd hx (Nat.not_lt_zero x))
/-- the first ring among k .. n that is like ring 0 -/
def q_bk (b : Nat) (g : q_G) : Nat → Nat → Int32
  | 0, _ => -9
  | m + 1, k => if (∀ x, x < g_n g → g_β g x = g_β (g_sq b k g) x) then nI k else q_bk b g m (k + 1)
def s_backR (A : q_A) (a : Int32) : q_A × Int32 := if q_in (g_n (a_g A)) a then (A, q_bk a.toNatClampNeg (a_g A) (g_rc a.toNatClampNeg 200 0 (a_g A)) 1) else (s_no A 1, -1)
theorem r_backL {b n : Nat} (ho : a_ok A) (hb : b < g_n (a_g A)) (hn : n ≤ 200) (hM : x_Mdl z f M) (hA : r_is M A) (hbn : m_bn M b n (a_g A)) (r : Int32) (h : post (some (.int r)) f) : ∀ (m k : Nat), k + m = n + 1 → 1 ≤ k → q_bk b (a_g A) m k = r → X E (x_rm 9 0 0) mX6_back (x_QM E z 0 0 post) 22 [(3, .int (nI k)), (2, .int (nI n)), (0, .ref 59), (1, .int (nI b))] [] z f 0 0 := by
  have hokx : ∀ x i, g_β (g_sq b x (a_g A)) i ≤ 100 := fun x i => Nat.le_trans ((g_sq_ok ho.1 (by decide) (by decide) hb x).2.2.2.2.2.1 i) (by decide)
  intro m
  induction m with
  | zero =>
    intro k hk h1 he
    have he2 : (-9 : Int32) = r := he
    subst he2
    refine x_iload_n (pc' := 23) rfl rfl rfl ?_
    refine x_iload_n (pc' := 24) rfl rfl rfl ?_
    refine x_icmp_gt (tgt := 44) (pc' := 27) rfl rfl rfl (fun _ => ?_) (fun c24 => absurd ((nI_lt (by omega) (by omega))) c24)
    refine x_bipush (pc' := 46) rfl rfl bipush_m9 ?_
    exact x_ireturn rfl rfl rfl (Nat.le_of_ble_eq_true rfl) (Nat.le_of_ble_eq_true rfl) (h)
  | succ m ih =>
    intro k hk h1 he
    replace he : (if (∀ x, x < g_n (a_g A) → g_β (a_g A) x = g_β (g_sq b k (a_g A)) x) then nI k else q_bk b (a_g A) m (k + 1)) = r := he
    refine x_iload_n (pc' := 23) rfl rfl rfl ?_
    refine x_iload_n (pc' := 24) rfl rfl rfl ?_
    refine x_icmp_gt (tgt := 44) (pc' := 27) rfl rfl rfl (fun c24 => absurd c24 ((nI_nlt (by omega) (by omega)))) (fun _ => ?_)
    refine x_aload_n (pc' := 28) rfl rfl rfl ?_
    refine x_iconst (pc' := 29) rfl rfl iconst_0 ?_
    refine x_iload_n (pc' := 30) rfl rfl rfl ?_
    refine x_cV2i (d := 1) (pc' := 33) rfl rfl sX6_192 gX6_isLike (hM.1) ⟨Nat.le_of_ble_eq_true rfl, Nat.le_of_ble_eq_true rfl⟩ (Nat.le_of_ble_eq_true rfl) ⟨Nat.le_of_ble_eq_true rfl, Nat.le_of_ble_eq_true rfl⟩ ?_
    refine m_like (j := 0) (k := k) (n := g_n (a_g A)) (β := g_β (a_g A)) (γ := g_β (g_sq b k (a_g A))) hM (by decide) (by omega) hA.1.2.2.2.1 ho.1.1 (hbn 0 (by omega)) (hbn k (by omega)) (hokx 0) (hokx k) (fun d => ⟨_, rfl, ?_⟩) (fun d => ⟨_, rfl, ?_⟩)
    · rw [if_pos d] at he
      subst he
      refine x_if_eq (tgt := 38) (pc' := 36) rfl rfl rfl (fun c33 => absurd c33 ((by decide))) (fun _ => ?_)
      refine x_iload_n (pc' := 37) rfl rfl rfl ?_
      exact x_ireturn rfl rfl rfl (Nat.le_of_ble_eq_true rfl) (Nat.le_of_ble_eq_true rfl) (h)
    · rw [if_neg d] at he
      refine x_if_eq (tgt := 38) (pc' := 36) rfl rfl rfl (fun _ => ?_) (fun c33 => absurd (rfl) c33)
      refine x_iinc (pc' := 41) (lv' := [(3, _), (2, _), (0, _), (1, _)]) rfl rfl (Nat.le_of_ble_eq_true rfl) rfl (nI_1 k) rfl ?_
      refine x_goto (tgt := 22) rfl rfl ?_
      exact ih (k + 1) (by omega) (by omega) he
theorem r_back (hM : x_Mdl z f M) (hA : r_is M A) (ho : a_ok A) (h : r_ends z f post (s_backR A a)) : Y E 9 mX6_back [.ref 59, .int a] z f 0 0 post := by
  refine Y.intro gX6_back (lv := [(0, .ref 59), (1, .int a)]) rfl (Nat.le_of_ble_eq_true rfl) ?_
  by_cases d1 : q_in (g_n (a_g A)) a
  · obtain ⟨k, hk, hk2, rfl, hcl⟩ := q_in_k d1
    rw [show s_backR A (nI k) = _ from if_pos d1, hcl] at h
    refine x_aload_n (pc' := 1) rfl rfl rfl ?_
    refine x_iload_n (pc' := 2) rfl rfl rfl ?_
    refine x_cV1i (d := 2) (pc' := 5) rfl rfl sX6_103 gX6_isBowl (hM.1) ⟨Nat.le_of_ble_eq_true rfl, Nat.le_of_ble_eq_true rfl⟩ (Nat.le_of_ble_eq_true rfl) ⟨Nat.le_of_ble_eq_true rfl, Nat.le_of_ble_eq_true rfl⟩ ?_
    refine r_bowl hM hA ho (fun _ => ⟨_, rfl, ?_⟩) (fun q => absurd d1 q)
    refine x_if_ne (tgt := 14) (pc' := 8) rfl rfl rfl (fun _ => ?_) (fun c5 => absurd c5 ((by decide)))
    refine x_aload_n (pc' := 15) rfl rfl rfl ?_
    refine x_iload_n (pc' := 16) rfl rfl rfl ?_
    refine x_cV1i (d := 6) (pc' := 19) rfl rfl sX6_189 gX6_records200 (hM.1) ⟨Nat.le_of_ble_eq_true rfl, Nat.le_of_ble_eq_true rfl⟩ (Nat.le_of_ble_eq_true rfl) ⟨Nat.le_of_ble_eq_true rfl, Nat.le_of_ble_eq_true rfl⟩ ?_
    refine m_records200 hM hA ho hk (fun f1 M1 n hn hne hM1 hA1 hbn1 hF1 => ⟨_, rfl, ?_⟩)
    refine x_istore_n (pc' := 20) (lv' := [(2, _), (0, _), (1, _)]) rfl rfl (Nat.le_of_ble_eq_true rfl) rfl ?_
    refine x_iconst (pc' := 21) rfl rfl iconst_1 ?_
    refine x_istore_n (pc' := 22) (lv' := [(3, _), (2, _), (0, _), (1, _)]) rfl rfl (Nat.le_of_ble_eq_true rfl) rfl ?_
    subst hne
    exact r_backL ho hk hn hM1 hA1 hbn1 _ (h _ _ hM1 hA1 hF1) (g_rc k 200 0 (a_g A)) 1 (by omega) (by omega) rfl
  · rw [show s_backR A a = _ from if_neg d1] at h
    refine x_aload_n (pc' := 1) rfl rfl rfl ?_
    refine x_iload_n (pc' := 2) rfl rfl rfl ?_
    refine x_cV1i (d := 2) (pc' := 5) rfl rfl sX6_103 gX6_isBowl (hM.1) ⟨Nat.le_of_ble_eq_true rfl, Nat.le_of_ble_eq_true rfl⟩ (Nat.le_of_ble_eq_true rfl) ⟨Nat.le_of_ble_eq_true rfl, Nat.le_of_ble_eq_true rfl⟩ ?_
    refine r_bowl hM hA ho (fun q => absurd q d1) (fun _ => ⟨_, rfl, ?_⟩)
    refine x_if_ne (tgt := 14) (pc' := 8) rfl rfl rfl (fun c5 => absurd (rfl) c5) (fun _ => ?_)
    refine x_aload_n (pc' := 9) rfl rfl rfl ?_
    refine x_iconst (pc' := 10) rfl rfl iconst_m1 ?_
    refine x_cV1i (d := 1) (pc' := 13) rfl rfl sX6_110 gX6_refuse (hM.1) ⟨Nat.le_of_ble_eq_true rfl, Nat.le_of_ble_eq_true rfl⟩ (Nat.le_of_ble_eq_true rfl) ⟨Nat.le_of_ble_eq_true rfl, Nat.le_of_ble_eq_true rfl⟩ ?_
    refine r_refuse (k := 0) (by decide) (by decide) hM hA (fun f1 M1 hM1 hA1 hF1 => ⟨_, rfl, ?_⟩)
    exact x_ireturn rfl rfl rfl (Nat.le_of_ble_eq_true rfl) (Nat.le_of_ble_eq_true rfl) (h _ _ hM1 hA1 hF1)
end BK
end
section
-- == 55.loops
/-! Back of the class; loop, of which the state alone is told. -/
def q_bkC (b : Nat) (g0 : q_G) : Nat → Nat → q_G → Int32
  | 0, _, _ => -9
  | m + 1, i, g => if g_can g b then (if (∀ x, x < g_n g0 → g_β (g_mv g b) x = g_β g0 x) then nI i else q_bkC b g0 m (i + 1) (g_mv g b)) else -9
def s_backC (A : q_A) (a : Int32) : q_A × Int32 := if q_in (g_n (a_g A)) a then (A, q_bkC a.toNatClampNeg (a_g A) 200 1 (a_g A)) else (s_no A 1, -1)
def n_loop (A : q_A) (a b : Int32) : q_A := if q_in (g_n (a_g A)) a then (if b < 0 ∨ 1 < b then s_no A 2 else A) else s_no A 1
section LP
variable {E : x_E} {z : Nat} {f : x_H} {S : x_S} {M : x_N} {A : q_A} {post : Option Value → x_H → Prop} {a b : Int32} {g : q_G} {C : Nat}
/-- a try of so many bowls -/
def c_one (z : Nat) (f : x_H) (S0 : x_S) (A : q_A) (T : x_T) (g : q_G) : Prop := x_Sys z f (S0.1, x_ut S0.2.1 2 T, S0.2.2.1, S0.2.2.2) ∧ t_is T g ∧ g_ok 99 g ∧ g_n g = g_n (a_g A)
theorem c_one.t2 {f' : x_H} {S0 : x_S} {T T' : x_T} {g g' : q_G} (h : c_one z f S0 A T g) (ht : x_t z f' 9 T') (hf : x_fr (x_ot 9) f f') (hg : t_is T' g') (ho : g_ok 99 g') (hn : g_n g' = g_n g) : c_one z f' S0 A T' g' := by
  obtain ⟨h1, h2, h4, h6⟩ := h
  exact ⟨h1.tt (j := 2) (by decide) ht hf, hg, ho, hn.trans h6⟩
theorem c_backM {b : Nat} (ho : a_ok A) (hb : b < g_n (a_g A)) (f0 : x_H) (S0 : x_S) (hA : c_is S0 A) (r : Int32) (h : c_ends z f0 post (A, r)) : ∀ (k i : Nat) (f : x_H) (T : x_T) (g : q_G), i + k = 201 → c_one z f S0 A T g → q_bkC b (a_g A) k i g = r → x_fr (fun q => 59 ≤ q) f0 f → X E (x_rm 9 0 0) mX5_back (x_QM E z 0 0 post) 30 [(2, .int (nI i)), (0, .ref 0), (1, .int (nI b))] [] z f 0 0 := by
  have hn9 := ho.1.1
  intro k
  induction k with
  | zero =>
    intro i f T g hi hC he hF
    have hi2 : i = 201 := by omega
    subst hi2
    have he2 : (-9 : Int32) = r := he
    subst he2
    refine x_iload_n (pc' := 31) rfl rfl rfl ?_
    refine x_sipush (pc' := 34) rfl rfl sipush_200 ?_
    refine x_icmp_gt (tgt := 78) (pc' := 37) rfl rfl rfl (fun _ => ?_) (fun c34 => absurd ((by decide : (200 : Int32) < nI 201)) c34)
    refine x_bipush (pc' := 80) rfl rfl bipush_m9 ?_
    exact x_ireturn rfl rfl rfl (Nat.le_of_ble_eq_true rfl) (Nat.le_of_ble_eq_true rfl) (h _ _ hC.1 (c_tr hA) hF)
  | succ k ih =>
    intro i f T g hi hC he hF
    have hT : x_t z f 9 T := hC.1.2.1 2 (by decide)
    have hT0 : x_t z f 1 (S0.2.1 0) := hC.1.2.1 0 (by decide)
    replace he : (if g_can g b then (if (∀ x, x < g_n (a_g A) → g_β (g_mv g b) x = g_β (a_g A) x) then nI i else q_bkC b (a_g A) k (i + 1) (g_mv g b)) else -9) = r := he
    refine x_iload_n (pc' := 31) rfl rfl rfl ?_
    refine x_sipush (pc' := 34) rfl rfl sipush_200 ?_
    refine x_icmp_gt (tgt := 78) (pc' := 37) rfl rfl rfl (fun c34 => absurd c34 ((nI_nlt (a := 200) (by omega) (by decide)))) (fun _ => ?_)
    refine x_aload_n (pc' := 38) rfl rfl rfl ?_
    refine x_get (pc' := 41) rfl rfl rfl (hC.1.1) rfl ?_
    refine x_iload_n (pc' := 42) rfl rfl rfl ?_
    refine x_cV1i (d := 2) (pc' := 45) rfl rfl sX5_118 gX3_canMove (hT.1) ⟨Nat.le_of_ble_eq_true rfl, Nat.le_of_ble_eq_true rfl⟩ (Nat.le_of_ble_eq_true rfl) ⟨Nat.le_of_ble_eq_true rfl, Nat.le_of_ble_eq_true rfl⟩ ?_
    refine w_can hT hC.2.1 hC.2.2.1 (by decide) (by omega) (fun d2 => ⟨_, rfl, ?_⟩) (fun d2 => ⟨_, rfl, ?_⟩)
    · rw [if_pos d2] at he
      refine x_if_eq (tgt := 78) (pc' := 48) rfl rfl rfl (fun c45 => absurd c45 ((by decide))) (fun _ => ?_)
      refine x_aload_n (pc' := 49) rfl rfl rfl ?_
      refine x_get (pc' := 52) rfl rfl rfl (hC.1.1) rfl ?_
      refine x_iload_n (pc' := 53) rfl rfl rfl ?_
      refine x_cV1v (d := 4) (pc' := 56) rfl rfl sX5_124 gX3_makeMove (hT.1) ⟨Nat.le_of_ble_eq_true rfl, Nat.le_of_ble_eq_true rfl⟩ (Nat.le_of_ble_eq_true rfl) ⟨Nat.le_of_ble_eq_true rfl, Nat.le_of_ble_eq_true rfl⟩ ?_
      refine w_move hT hC.2.1 hC.2.2.1 (by decide) d2.2.1 (fun f1 T1 hT1 g1 g4 g5 g6 g7 g8 hF1 => ⟨rfl, ?_⟩)
      have hC1 := hC.t2 hT1 hF1 g1 (g_mv_ok hC.2.2.1 (by decide) (by decide) d2.2.1) rfl
      have hT01 : x_t z f1 1 (S0.2.1 0) := hC1.1.2.1 0 (by decide)
      have hF2 := hF.trans (c_fr0 (j := 2) (by decide) hF1)
      have hng : g_n (g_mv g b) = g_n (a_g A) := hC.2.2.2
      refine x_aload_n (pc' := 57) rfl rfl rfl ?_
      refine x_get (pc' := 60) rfl rfl rfl (hC1.1.1) rfl ?_
      refine x_aload_n (pc' := 61) rfl rfl rfl ?_
      refine x_get (pc' := 64) rfl rfl rfl (hC1.1.1) rfl ?_
      refine x_cV1i (d := 3) (pc' := 67) rfl rfl sX5_158 gX3_sameBeans (hT1.1) ⟨Nat.le_of_ble_eq_true rfl, Nat.le_of_ble_eq_true rfl⟩ (Nat.le_of_ble_eq_true rfl) ⟨Nat.le_of_ble_eq_true rfl, Nat.le_of_ble_eq_true rfl⟩ ?_
      refine w_same hT1 hT01 g1 hA.1 (hC1.2.2.1.mono (by decide)) (ho.1.mono (by decide)) hC1.2.2.2.symm (fun d3 => ⟨_, rfl, ?_⟩) (fun d3 => ⟨_, rfl, ?_⟩)
      · rw [hng] at d3
        rw [if_pos d3] at he
        subst he
        refine x_if_eq (tgt := 72) (pc' := 70) rfl rfl rfl (fun c67 => absurd c67 ((by decide))) (fun _ => ?_)
        refine x_iload_n (pc' := 71) rfl rfl rfl ?_
        exact x_ireturn rfl rfl rfl (Nat.le_of_ble_eq_true rfl) (Nat.le_of_ble_eq_true rfl) (h _ _ hC1.1 (c_tr hA) hF2)
      · rw [hng] at d3
        rw [if_neg d3] at he
        refine x_if_eq (tgt := 72) (pc' := 70) rfl rfl rfl (fun _ => ?_) (fun c67 => absurd (rfl) c67)
        refine x_iinc (pc' := 75) (lv' := [(2, _), (0, _), (1, _)]) rfl rfl (Nat.le_of_ble_eq_true rfl) rfl (nI_1 i) rfl ?_
        refine x_goto (tgt := 30) rfl rfl ?_
        exact ih (i + 1) _ _ _ (by omega) hC1 he hF2
    · rw [if_neg d2] at he
      subst he
      refine x_if_eq (tgt := 78) (pc' := 48) rfl rfl rfl (fun _ => ?_) (fun c45 => absurd (rfl) c45)
      refine x_bipush (pc' := 80) rfl rfl bipush_m9 ?_
      exact x_ireturn rfl rfl rfl (Nat.le_of_ble_eq_true rfl) (Nat.le_of_ble_eq_true rfl) (h _ _ hC.1 (c_tr hA) hF)
theorem c_back (hS : x_Sys z f S) (hA : c_is S A) (ho : a_ok A) (h : c_ends z f post (s_backC A a)) : Y E 9 mX5_back [.ref 0, .int a] z f 0 0 post := by
  refine Y.intro gX5_back (lv := [(0, .ref 0), (1, .int a)]) rfl (Nat.le_of_ble_eq_true rfl) ?_
  have hT := hS.2.1 0 (by decide)
  by_cases d1 : q_in (g_n (a_g A)) a
  · obtain ⟨k, hk, hk2, rfl, hcl⟩ := q_in_k d1
    rw [show s_backC A (nI k) = _ from if_pos d1, hcl] at h
    refine x_aload_n (pc' := 1) rfl rfl rfl ?_
    refine x_get (pc' := 4) rfl rfl rfl (hS.1) rfl ?_
    refine x_iload_n (pc' := 5) rfl rfl rfl ?_
    refine x_cV1i (d := 1) (pc' := 8) rfl rfl sX5_90 gX3_has (hT.1) ⟨Nat.le_of_ble_eq_true rfl, Nat.le_of_ble_eq_true rfl⟩ (Nat.le_of_ble_eq_true rfl) ⟨Nat.le_of_ble_eq_true rfl, Nat.le_of_ble_eq_true rfl⟩ ?_
    refine c_has hS hA ho (fun _ => ⟨_, rfl, ?_⟩) (fun q => absurd d1 q)
    refine x_if_ne (tgt := 17) (pc' := 11) rfl rfl rfl (fun _ => ?_) (fun c8 => absurd c8 ((by decide)))
    refine x_aload_n (pc' := 18) rfl rfl rfl ?_
    refine x_get (pc' := 21) rfl rfl rfl (hS.1) rfl ?_
    refine x_aload_n (pc' := 22) rfl rfl rfl ?_
    refine x_get (pc' := 25) rfl rfl rfl (hS.1) rfl ?_
    refine x_cV1v (d := 1) (pc' := 28) rfl rfl sX5_79 gX3_copyFrom ((hS.2.1 2 (by decide)).1) ⟨Nat.le_of_ble_eq_true rfl, Nat.le_of_ble_eq_true rfl⟩ (Nat.le_of_ble_eq_true rfl) ⟨Nat.le_of_ble_eq_true rfl, Nat.le_of_ble_eq_true rfl⟩ ?_
    refine w_copyFrom (hS.2.1 2 (by decide)) hT (by decide) (fun f1 hT1 hF1 => ⟨rfl, ?_⟩)
    have hS1 := hS.tab 2 (by decide) hT1 hF1
    refine x_iconst (pc' := 29) rfl rfl iconst_1 ?_
    refine x_istore_n (pc' := 30) (lv' := [(2, _), (0, _), (1, _)]) rfl rfl (Nat.le_of_ble_eq_true rfl) rfl ?_
    refine x_lvp [0, 1, 2] rfl ?_
    exact c_backM ho hk f S hA _ h 200 1 f1 _ (a_g A) (by omega) ⟨hS1, x_cp_is hA.1, ho.1, rfl⟩ rfl (c_fr0 (j := 2) (by decide) hF1)
  · rw [show s_backC A a = _ from if_neg d1] at h
    refine x_aload_n (pc' := 1) rfl rfl rfl ?_
    refine x_get (pc' := 4) rfl rfl rfl (hS.1) rfl ?_
    refine x_iload_n (pc' := 5) rfl rfl rfl ?_
    refine x_cV1i (d := 1) (pc' := 8) rfl rfl sX5_90 gX3_has (hT.1) ⟨Nat.le_of_ble_eq_true rfl, Nat.le_of_ble_eq_true rfl⟩ (Nat.le_of_ble_eq_true rfl) ⟨Nat.le_of_ble_eq_true rfl, Nat.le_of_ble_eq_true rfl⟩ ?_
    refine c_has hS hA ho (fun q => absurd q d1) (fun _ => ⟨_, rfl, ?_⟩)
    refine x_if_ne (tgt := 17) (pc' := 11) rfl rfl rfl (fun c8 => absurd (rfl) c8) (fun _ => ?_)
    refine x_aload_n (pc' := 12) rfl rfl rfl ?_
    refine x_iconst (pc' := 13) rfl rfl iconst_m1 ?_
    refine x_cV1i (d := 1) (pc' := 16) rfl rfl sX5_68 gX5_refuse (hS.1) ⟨Nat.le_of_ble_eq_true rfl, Nat.le_of_ble_eq_true rfl⟩ (Nat.le_of_ble_eq_true rfl) ⟨Nat.le_of_ble_eq_true rfl, Nat.le_of_ble_eq_true rfl⟩ ?_
    refine c_refuse (k := 1) (by decide) (by decide) hS hA (fun f1 S1 hS1 hA1 hF1 => ⟨_, rfl, ?_⟩)
    exact x_ireturn rfl rfl rfl (Nat.le_of_ble_eq_true rfl) (Nat.le_of_ble_eq_true rfl) (h _ _ hS1 hA1 hF1)
-- loop
abbrev c_any2 (z : Nat) (f0 : x_H) (post : Option Value → x_H → Prop) (S0 : x_S) (A : q_A) : Prop := ∀ (f' : x_H) (T U : x_T) (g u : q_G) (r : Int32), c_two z f' S0 A T U g u → x_fr (fun q => 59 ≤ q) f0 f' → post (some (.int r)) f'
theorem c_rndL {b : Nat} (hb : b < g_n (a_g A)) (hn9 : g_n (a_g A) ≤ 9) (f0 : x_H) (S0 : x_S) (h : c_any2 z f0 post S0 A) : ∀ (k i : Nat) (s t : Int32) (f : x_H) (T U : x_T) (g u : q_G), i + k = 4000000 → c_two z f S0 A T U g u → x_fr (fun q => 59 ≤ q) f0 f → X E (x_rm 5 0 0) mX5_roundOf (x_QM E z 0 0 post) 29 [(4, .int (nI i)), (3, .int s), (2, .int t), (0, .ref 0), (1, .int (nI b))] [] z f 0 0 := by
  intro k
  induction k with
  | zero =>
    intro i s t f T U g u hi hC hF
    have hi2 : i = 4000000 := by omega
    subst hi2
    refine x_iload (pc' := 31) rfl rfl rfl ?_
    refine x_ldc (pc' := 33) rfl rfl rfl ?_
    refine x_icmp_ge (tgt := 102) (pc' := 36) rfl rfl rfl (fun _ => ?_) (fun c33 => absurd ((by decide : (4000000 : Int32) ≤ nI 4000000)) c33)
    refine x_bipush (pc' := 104) rfl rfl bipush_m9 ?_
    exact x_ireturn rfl rfl rfl (Nat.le_of_ble_eq_true rfl) (Nat.le_of_ble_eq_true rfl) (h _ _ _ _ _ _ hC hF)
  | succ k ih =>
    intro i s t f T U g u hi hC hF
    have hT : x_t z f 9 T := hC.1.2.1 2 (by decide)
    have hU : x_t z f 13 U := hC.1.2.1 3 (by decide)
    refine x_iload (pc' := 31) rfl rfl rfl ?_
    refine x_ldc (pc' := 33) rfl rfl rfl ?_
    refine x_icmp_ge (tgt := 102) (pc' := 36) rfl rfl rfl (fun c33 => absurd c33 ((nI_ge (a := i) (b := 4000000) (by omega) (by decide)))) (fun _ => ?_)
    refine x_aload_n (pc' := 37) rfl rfl rfl ?_
    refine x_get (pc' := 40) rfl rfl rfl (hC.1.1) rfl ?_
    refine x_iload_n (pc' := 41) rfl rfl rfl ?_
    refine x_cV1i (d := 2) (pc' := 44) rfl rfl sX5_118 gX3_canMove (hT.1) ⟨Nat.le_of_ble_eq_true rfl, Nat.le_of_ble_eq_true rfl⟩ (Nat.le_of_ble_eq_true rfl) ⟨Nat.le_of_ble_eq_true rfl, Nat.le_of_ble_eq_true rfl⟩ ?_
    refine w_can hT hC.2.1 hC.2.2.2.1 (by decide) (by omega) (fun d2 => ⟨_, rfl, ?_⟩) (fun d2 => ⟨_, rfl, ?_⟩)
    · refine x_if_eq (tgt := 102) (pc' := 47) rfl rfl rfl (fun c44 => absurd c44 ((by decide))) (fun _ => ?_)
      refine x_aload_n (pc' := 48) rfl rfl rfl ?_
      refine x_get (pc' := 51) rfl rfl rfl (hC.1.1) rfl ?_
      refine x_iload_n (pc' := 52) rfl rfl rfl ?_
      refine x_cV1v (d := 4) (pc' := 55) rfl rfl sX5_124 gX3_makeMove (hT.1) ⟨Nat.le_of_ble_eq_true rfl, Nat.le_of_ble_eq_true rfl⟩ (Nat.le_of_ble_eq_true rfl) ⟨Nat.le_of_ble_eq_true rfl, Nat.le_of_ble_eq_true rfl⟩ ?_
      refine w_move hT hC.2.1 hC.2.2.2.1 (by decide) d2.2.1 (fun f1 T1 hT1 g1 g4 g5 g6 g7 g8 hF1 => ⟨rfl, ?_⟩)
      have hC1 := hC.t2 hT1 hF1 g1 (g_mv_ok hC.2.2.2.1 (by decide) (by decide) d2.2.1) rfl
      have hU1 : x_t z f1 13 U := hC1.1.2.1 3 (by decide)
      have hF2 := hF.trans (c_fr0 (j := 2) (by decide) hF1)
      refine x_iinc (pc' := 58) (lv' := [(3, _), (4, _), (2, _), (0, _), (1, _)]) rfl rfl (Nat.le_of_ble_eq_true rfl) rfl (rfl) rfl ?_
      refine x_aload_n (pc' := 59) rfl rfl rfl ?_
      refine x_get (pc' := 62) rfl rfl rfl (hC1.1.1) rfl ?_
      refine x_aload_n (pc' := 63) rfl rfl rfl ?_
      refine x_get (pc' := 66) rfl rfl rfl (hC1.1.1) rfl ?_
      refine x_cV1i (d := 3) (pc' := 69) rfl rfl sX5_158 gX3_sameBeans (hT1.1) ⟨Nat.le_of_ble_eq_true rfl, Nat.le_of_ble_eq_true rfl⟩ (Nat.le_of_ble_eq_true rfl) ⟨Nat.le_of_ble_eq_true rfl, Nat.le_of_ble_eq_true rfl⟩ ?_
      refine w_same hT1 hU1 g1 hC.2.2.1 (hC1.2.2.2.1.mono (by decide)) (hC1.2.2.2.2.1.mono (by decide)) (hC1.2.2.2.2.2.2.trans hC1.2.2.2.2.2.1.symm) (fun d3 => ⟨_, rfl, ?_⟩) (fun d3 => ⟨_, rfl, ?_⟩)
      · refine x_if_eq (tgt := 74) (pc' := 72) rfl rfl rfl (fun c69 => absurd c69 ((by decide))) (fun _ => ?_)
        refine x_iload_n (pc' := 73) rfl rfl rfl ?_
        exact x_ireturn rfl rfl rfl (Nat.le_of_ble_eq_true rfl) (Nat.le_of_ble_eq_true rfl) (h _ _ _ _ _ _ hC1 hF2)
      · refine x_if_eq (tgt := 74) (pc' := 72) rfl rfl rfl (fun _ => ?_) (fun c69 => absurd (rfl) c69)
        refine x_iload_n (pc' := 75) rfl rfl rfl ?_
        refine x_iload_n (pc' := 76) rfl rfl rfl ?_
        refine x_icmp_ne (tgt := 96) (pc' := 79) rfl rfl rfl (fun c76 => ?_) (fun c76 => ?_)
        · refine x_iinc (pc' := 99) (lv' := [(4, _), (3, _), (2, _), (0, _), (1, _)]) rfl rfl (Nat.le_of_ble_eq_true rfl) rfl (nI_1 i) rfl ?_
          refine x_goto (tgt := 29) rfl rfl ?_
          refine x_lvp [0, 1, 2, 3, 4] rfl ?_
          exact ih (i + 1) _ _ _ _ _ _ _ (by omega) hC1 hF2
        · refine x_aload_n (pc' := 80) rfl rfl rfl ?_
          refine x_get (pc' := 83) rfl rfl rfl (hC1.1.1) rfl ?_
          refine x_aload_n (pc' := 84) rfl rfl rfl ?_
          refine x_get (pc' := 87) rfl rfl rfl (hC1.1.1) rfl ?_
          refine x_cV1v (d := 1) (pc' := 90) rfl rfl sX5_79 gX3_copyFrom (hU1.1) ⟨Nat.le_of_ble_eq_true rfl, Nat.le_of_ble_eq_true rfl⟩ (Nat.le_of_ble_eq_true rfl) ⟨Nat.le_of_ble_eq_true rfl, Nat.le_of_ble_eq_true rfl⟩ ?_
          refine w_copyFrom hU1 hT1 (by decide) (fun f3 hU3 hF3 => ⟨rfl, ?_⟩)
          have hC3 := hC1.t3 hU3 hF3 (x_cp_is g1) hC1.2.2.2.1 (hC1.2.2.2.2.2.1.trans hC1.2.2.2.2.2.2.symm)
          have hF4 := hF2.trans (c_fr0 (j := 3) (by decide) hF3)
          refine x_iload_n (pc' := 91) rfl rfl rfl ?_
          refine x_iconst (pc' := 92) rfl rfl iconst_2 ?_
          refine x_imul (pc' := 93) rfl rfl ?_
          refine x_istore_n (pc' := 94) (lv' := [(2, _), (3, _), (4, _), (0, _), (1, _)]) rfl rfl (Nat.le_of_ble_eq_true rfl) rfl ?_
          refine x_iconst (pc' := 95) rfl rfl iconst_0 ?_
          refine x_istore_n (pc' := 96) (lv' := [(3, _), (2, _), (4, _), (0, _), (1, _)]) rfl rfl (Nat.le_of_ble_eq_true rfl) rfl ?_
          refine x_iinc (pc' := 99) (lv' := [(4, _), (3, _), (2, _), (0, _), (1, _)]) rfl rfl (Nat.le_of_ble_eq_true rfl) rfl (nI_1 i) rfl ?_
          refine x_goto (tgt := 29) rfl rfl ?_
          exact ih (i + 1) _ _ _ _ _ _ _ (by omega) hC3 hF4
    · refine x_if_eq (tgt := 102) (pc' := 47) rfl rfl rfl (fun _ => ?_) (fun c44 => absurd (rfl) c44)
      refine x_bipush (pc' := 104) rfl rfl bipush_m9 ?_
      exact x_ireturn rfl rfl rfl (Nat.le_of_ble_eq_true rfl) (Nat.le_of_ble_eq_true rfl) (h _ _ _ _ _ _ hC hF)
theorem c_two0 {f : x_H} (hS : x_Sys z f S) (hA : c_is S A) (ho : a_ok A) {f' : x_H} (hT1 : x_t z f' 13 (x_cp (S.2.1 3) (S.2.1 0))) {f1 : x_H} (hS1 : x_Sys z f1 (S.1, x_ut S.2.1 2 (x_cp (S.2.1 2) (S.2.1 0)), S.2.2.1, S.2.2.2)) (hF : x_fr (x_ot 13) f1 f') : c_two z f' S A (x_cp (S.2.1 2) (S.2.1 0)) (x_cp (S.2.1 3) (S.2.1 0)) (a_g A) (a_g A) :=
  ⟨hS1.tab 3 (by decide) hT1 hF, x_cp_is hA.1, x_cp_is hA.1, ho.1, ho.1, rfl, rfl⟩
theorem c_roundOf {b : Nat} (hS : x_Sys z f S) (hA : c_is S A) (ho : a_ok A) (hb : b < g_n (a_g A)) (h : c_any2 z f post S A) : Y E 5 mX5_roundOf [.ref 0, .int (nI b)] z f 0 0 post := by
  refine Y.intro gX5_roundOf (lv := [(0, .ref 0), (1, .int (nI b))]) rfl (Nat.le_of_ble_eq_true rfl) ?_
  have hT := hS.2.1 0 (by decide)
  refine x_aload_n (pc' := 1) rfl rfl rfl ?_
  refine x_get (pc' := 4) rfl rfl rfl (hS.1) rfl ?_
  refine x_aload_n (pc' := 5) rfl rfl rfl ?_
  refine x_get (pc' := 8) rfl rfl rfl (hS.1) rfl ?_
  refine x_cV1v (d := 1) (pc' := 11) rfl rfl sX5_79 gX3_copyFrom ((hS.2.1 2 (by decide)).1) ⟨Nat.le_of_ble_eq_true rfl, Nat.le_of_ble_eq_true rfl⟩ (Nat.le_of_ble_eq_true rfl) ⟨Nat.le_of_ble_eq_true rfl, Nat.le_of_ble_eq_true rfl⟩ ?_
  refine w_copyFrom (hS.2.1 2 (by decide)) hT (by decide) (fun f1 hT1 hF1 => ⟨rfl, ?_⟩)
  have hS1 := hS.tab 2 (by decide) hT1 hF1
  have hU1 : x_t z f1 13 (S.2.1 3) := hS1.2.1 3 (by decide)
  have hT01 : x_t z f1 1 (S.2.1 0) := hS1.2.1 0 (by decide)
  refine x_aload_n (pc' := 12) rfl rfl rfl ?_
  refine x_get (pc' := 15) rfl rfl rfl (hS1.1) rfl ?_
  refine x_aload_n (pc' := 16) rfl rfl rfl ?_
  refine x_get (pc' := 19) rfl rfl rfl (hS1.1) rfl ?_
  refine x_cV1v (d := 1) (pc' := 22) rfl rfl sX5_79 gX3_copyFrom (hU1.1) ⟨Nat.le_of_ble_eq_true rfl, Nat.le_of_ble_eq_true rfl⟩ (Nat.le_of_ble_eq_true rfl) ⟨Nat.le_of_ble_eq_true rfl, Nat.le_of_ble_eq_true rfl⟩ ?_
  refine w_copyFrom hU1 hT01 (by decide) (fun f2 hU2 hF2 => ⟨rfl, ?_⟩)
  have hC := c_two0 hS hA ho hU2 hS1 hF2
  refine x_iconst (pc' := 23) rfl rfl iconst_1 ?_
  refine x_istore_n (pc' := 24) (lv' := [(2, _), (0, _), (1, _)]) rfl rfl (Nat.le_of_ble_eq_true rfl) rfl ?_
  refine x_iconst (pc' := 25) rfl rfl iconst_0 ?_
  refine x_istore_n (pc' := 26) (lv' := [(3, _), (2, _), (0, _), (1, _)]) rfl rfl (Nat.le_of_ble_eq_true rfl) rfl ?_
  refine x_iconst (pc' := 27) rfl rfl iconst_0 ?_
  refine x_istore (pc' := 29) (lv' := [(4, _), (3, _), (2, _), (0, _), (1, _)]) rfl rfl (Nat.le_of_ble_eq_true rfl) rfl ?_
  refine x_lvp [0, 1, 2, 3, 4] rfl ?_
  exact c_rndL hb ho.1.1 f S h 4000000 0 _ _ f2 _ _ _ _ (by omega) hC ((c_fr0 (j := 2) (by decide) hF1).trans (c_fr0 (j := 3) (by decide) hF2))
theorem c_entL2 {b : Nat} {r : Int32} (hb : b < g_n (a_g A)) (f0 : x_H) (S0 : x_S) (h : c_any2 z f0 post S0 A) : ∀ (k i : Nat) (f : x_H) (T U : x_T) (g u : q_G), i + k = 201 → c_two z f S0 A T U g u → x_fr (fun q => 59 ≤ q) f0 f → X E (x_rm 5 0 0) mX5_entryOf (x_QM E z 0 0 post) 45 [(3, .int (nI i)), (0, .ref 0), (1, .int (nI b)), (2, .int r)] [] z f 0 0 := by
  intro k
  induction k with
  | zero =>
    intro i f T U g u hi hC hF
    have hi2 : i = 201 := by omega
    subst hi2
    refine x_iload_n (pc' := 46) rfl rfl rfl ?_
    refine x_sipush (pc' := 49) rfl rfl sipush_200 ?_
    refine x_icmp_gt (tgt := 90) (pc' := 52) rfl rfl rfl (fun _ => ?_) (fun c49 => absurd ((by decide : (200 : Int32) < nI 201)) c49)
    refine x_bipush (pc' := 92) rfl rfl bipush_m9 ?_
    exact x_ireturn rfl rfl rfl (Nat.le_of_ble_eq_true rfl) (Nat.le_of_ble_eq_true rfl) (h _ _ _ _ _ _ hC hF)
  | succ k ih =>
    intro i f T U g u hi hC hF
    have hT : x_t z f 9 T := hC.1.2.1 2 (by decide)
    have hU : x_t z f 13 U := hC.1.2.1 3 (by decide)
    have hbg : b < g_n g := by rw [hC.2.2.2.2.2.1]; exact hb
    have hbu : b < g_n u := by rw [hC.2.2.2.2.2.2]; exact hb
    refine x_iload_n (pc' := 46) rfl rfl rfl ?_
    refine x_sipush (pc' := 49) rfl rfl sipush_200 ?_
    refine x_icmp_gt (tgt := 90) (pc' := 52) rfl rfl rfl (fun c49 => absurd c49 ((nI_nlt (a := 200) (by omega) (by decide)))) (fun _ => ?_)
    refine x_aload_n (pc' := 53) rfl rfl rfl ?_
    refine x_get (pc' := 56) rfl rfl rfl (hC.1.1) rfl ?_
    refine x_aload_n (pc' := 57) rfl rfl rfl ?_
    refine x_get (pc' := 60) rfl rfl rfl (hC.1.1) rfl ?_
    refine x_cV1i (d := 3) (pc' := 63) rfl rfl sX5_158 gX3_sameBeans (hT.1) ⟨Nat.le_of_ble_eq_true rfl, Nat.le_of_ble_eq_true rfl⟩ (Nat.le_of_ble_eq_true rfl) ⟨Nat.le_of_ble_eq_true rfl, Nat.le_of_ble_eq_true rfl⟩ ?_
    refine w_same hT hU hC.2.1 hC.2.2.1 (hC.2.2.2.1.mono (by decide)) (hC.2.2.2.2.1.mono (by decide)) (hC.2.2.2.2.2.2.trans hC.2.2.2.2.2.1.symm) (fun d3 => ⟨_, rfl, ?_⟩) (fun d3 => ⟨_, rfl, ?_⟩)
    · refine x_if_eq (tgt := 68) (pc' := 66) rfl rfl rfl (fun c63 => absurd c63 ((by decide))) (fun _ => ?_)
      refine x_iload_n (pc' := 67) rfl rfl rfl ?_
      exact x_ireturn rfl rfl rfl (Nat.le_of_ble_eq_true rfl) (Nat.le_of_ble_eq_true rfl) (h _ _ _ _ _ _ hC hF)
    · refine x_if_eq (tgt := 68) (pc' := 66) rfl rfl rfl (fun _ => ?_) (fun c63 => absurd (rfl) c63)
      refine x_aload_n (pc' := 69) rfl rfl rfl ?_
      refine x_get (pc' := 72) rfl rfl rfl (hC.1.1) rfl ?_
      refine x_iload_n (pc' := 73) rfl rfl rfl ?_
      refine x_cV1v (d := 4) (pc' := 76) rfl rfl sX5_124 gX3_makeMove (hT.1) ⟨Nat.le_of_ble_eq_true rfl, Nat.le_of_ble_eq_true rfl⟩ (Nat.le_of_ble_eq_true rfl) ⟨Nat.le_of_ble_eq_true rfl, Nat.le_of_ble_eq_true rfl⟩ ?_
      refine w_move hT hC.2.1 hC.2.2.2.1 (by decide) hbg (fun f1 T1 hT1 g1 g4 g5 g6 g7 g8 hF1 => ⟨rfl, ?_⟩)
      have hC1 := hC.t2 hT1 hF1 g1 (g_mv_ok hC.2.2.2.1 (by decide) (by decide) hbg) rfl
      have hU1 : x_t z f1 13 U := hC1.1.2.1 3 (by decide)
      refine x_aload_n (pc' := 77) rfl rfl rfl ?_
      refine x_get (pc' := 80) rfl rfl rfl (hC1.1.1) rfl ?_
      refine x_iload_n (pc' := 81) rfl rfl rfl ?_
      refine x_cV1v (d := 4) (pc' := 84) rfl rfl sX5_124 gX3_makeMove (hU1.1) ⟨Nat.le_of_ble_eq_true rfl, Nat.le_of_ble_eq_true rfl⟩ (Nat.le_of_ble_eq_true rfl) ⟨Nat.le_of_ble_eq_true rfl, Nat.le_of_ble_eq_true rfl⟩ ?_
      refine w_move hU1 hC.2.2.1 hC.2.2.2.2.1 (by decide) hbu (fun f2 U2 hU2 u1 u4 u5 u6 u7 u8 hF2 => ⟨rfl, ?_⟩)
      have hC2 := hC1.t3 hU2 hF2 u1 (g_mv_ok hC.2.2.2.2.1 (by decide) (by decide) hbu) rfl
      refine x_iinc (pc' := 87) (lv' := [(3, _), (0, _), (1, _), (2, _)]) rfl rfl (Nat.le_of_ble_eq_true rfl) rfl (nI_1 i) rfl ?_
      refine x_goto (tgt := 45) rfl rfl ?_
      exact ih (i + 1) _ _ _ _ _ (by omega) hC2 ((hF.trans (c_fr0 (j := 2) (by decide) hF1)).trans (c_fr0 (j := 3) (by decide) hF2))
theorem c_entL1 {b N : Nat} (hN : N < 2 ^ 31) (hb : b < g_n (a_g A)) (f0 : x_H) (S0 : x_S) (h : c_any2 z f0 post S0 A) : ∀ (k i : Nat) (f : x_H) (T U : x_T) (g u : q_G), i + k = N → c_two z f S0 A T U g u → x_fr (fun q => 59 ≤ q) f0 f → X E (x_rm 5 0 0) mX5_entryOf (x_QM E z 0 0 post) 24 [(3, .int (nI i)), (0, .ref 0), (1, .int (nI b)), (2, .int (nI N))] [] z f 0 0 := by
  intro k
  induction k with
  | zero =>
    intro i f T U g u hi hC hF
    have hi2 : i = N := by omega
    subst hi2
    refine x_iload_n (pc' := 25) rfl rfl rfl ?_
    refine x_iload_n (pc' := 26) rfl rfl rfl ?_
    refine x_icmp_ge (tgt := 43) (pc' := 29) rfl rfl rfl (fun _ => ?_) (fun c26 => absurd ((Int32.le_refl _)) c26)
    refine x_iconst (pc' := 44) rfl rfl iconst_0 ?_
    refine x_istore_n (pc' := 45) (lv' := [(3, _), (0, _), (1, _), (2, _)]) rfl rfl (Nat.le_of_ble_eq_true rfl) rfl ?_
    exact c_entL2 hb f0 S0 h 201 0 f T U g u (by omega) hC hF
  | succ k ih =>
    intro i f T U g u hi hC hF
    have hT : x_t z f 9 T := hC.1.2.1 2 (by decide)
    have hbg : b < g_n g := by rw [hC.2.2.2.2.2.1]; exact hb
    refine x_iload_n (pc' := 25) rfl rfl rfl ?_
    refine x_iload_n (pc' := 26) rfl rfl rfl ?_
    refine x_icmp_ge (tgt := 43) (pc' := 29) rfl rfl rfl (fun c26 => absurd c26 ((nI_ge (by omega) hN))) (fun _ => ?_)
    refine x_aload_n (pc' := 30) rfl rfl rfl ?_
    refine x_get (pc' := 33) rfl rfl rfl (hC.1.1) rfl ?_
    refine x_iload_n (pc' := 34) rfl rfl rfl ?_
    refine x_cV1v (d := 4) (pc' := 37) rfl rfl sX5_124 gX3_makeMove (hT.1) ⟨Nat.le_of_ble_eq_true rfl, Nat.le_of_ble_eq_true rfl⟩ (Nat.le_of_ble_eq_true rfl) ⟨Nat.le_of_ble_eq_true rfl, Nat.le_of_ble_eq_true rfl⟩ ?_
    refine w_move hT hC.2.1 hC.2.2.2.1 (by decide) hbg (fun f1 T1 hT1 g1 g4 g5 g6 g7 g8 hF1 => ⟨rfl, ?_⟩)
    have hC1 := hC.t2 hT1 hF1 g1 (g_mv_ok hC.2.2.2.1 (by decide) (by decide) hbg) rfl
    refine x_iinc (pc' := 40) (lv' := [(3, _), (0, _), (1, _), (2, _)]) rfl rfl (Nat.le_of_ble_eq_true rfl) rfl (nI_1 i) rfl ?_
    refine x_goto (tgt := 24) rfl rfl ?_
    exact ih (i + 1) _ _ _ _ _ (by omega) hC1 (hF.trans (c_fr0 (j := 2) (by decide) hF1))
theorem c_entryOf {b : Nat} {r : Int32} (hS : x_Sys z f S) (hA : c_is S A) (ho : a_ok A) (hb : b < g_n (a_g A)) (h : c_any2 z f post S A) : Y E 5 mX5_entryOf [.ref 0, .int (nI b), .int r] z f 0 0 post := by
  refine Y.intro gX5_entryOf (lv := [(0, .ref 0), (1, .int (nI b)), (2, .int r)]) rfl (Nat.le_of_ble_eq_true rfl) ?_
  have hT := hS.2.1 0 (by decide)
  refine x_aload_n (pc' := 1) rfl rfl rfl ?_
  refine x_get (pc' := 4) rfl rfl rfl (hS.1) rfl ?_
  refine x_aload_n (pc' := 5) rfl rfl rfl ?_
  refine x_get (pc' := 8) rfl rfl rfl (hS.1) rfl ?_
  refine x_cV1v (d := 1) (pc' := 11) rfl rfl sX5_79 gX3_copyFrom ((hS.2.1 2 (by decide)).1) ⟨Nat.le_of_ble_eq_true rfl, Nat.le_of_ble_eq_true rfl⟩ (Nat.le_of_ble_eq_true rfl) ⟨Nat.le_of_ble_eq_true rfl, Nat.le_of_ble_eq_true rfl⟩ ?_
  refine w_copyFrom (hS.2.1 2 (by decide)) hT (by decide) (fun f1 hT1 hF1 => ⟨rfl, ?_⟩)
  have hS1 := hS.tab 2 (by decide) hT1 hF1
  have hU1 : x_t z f1 13 (S.2.1 3) := hS1.2.1 3 (by decide)
  have hT01 : x_t z f1 1 (S.2.1 0) := hS1.2.1 0 (by decide)
  refine x_aload_n (pc' := 12) rfl rfl rfl ?_
  refine x_get (pc' := 15) rfl rfl rfl (hS1.1) rfl ?_
  refine x_aload_n (pc' := 16) rfl rfl rfl ?_
  refine x_get (pc' := 19) rfl rfl rfl (hS1.1) rfl ?_
  refine x_cV1v (d := 1) (pc' := 22) rfl rfl sX5_79 gX3_copyFrom (hU1.1) ⟨Nat.le_of_ble_eq_true rfl, Nat.le_of_ble_eq_true rfl⟩ (Nat.le_of_ble_eq_true rfl) ⟨Nat.le_of_ble_eq_true rfl, Nat.le_of_ble_eq_true rfl⟩ ?_
  refine w_copyFrom hU1 hT01 (by decide) (fun f2 hU2 hF2 => ⟨rfl, ?_⟩)
  have hC := c_two0 hS hA ho hU2 hS1 hF2
  have hF := (c_fr0 (j := 2) (by decide) hF1).trans (c_fr0 (j := 3) (by decide) hF2)
  refine x_iconst (pc' := 23) rfl rfl iconst_0 ?_
  refine x_istore_n (pc' := 24) (lv' := [(3, _), (0, _), (1, _), (2, _)]) rfl rfl (Nat.le_of_ble_eq_true rfl) rfl ?_
  by_cases d : r < 0
  · refine x_iload_n (pc' := 25) rfl rfl rfl ?_
    refine x_iload_n (pc' := 26) rfl rfl rfl ?_
    refine x_icmp_ge (tgt := 43) (pc' := 29) rfl rfl rfl (fun _ => ?_) (fun c26 => absurd ((Int32.le_of_lt d)) c26)
    refine x_iconst (pc' := 44) rfl rfl iconst_0 ?_
    refine x_istore_n (pc' := 45) (lv' := [(3, _), (0, _), (1, _), (2, _)]) rfl rfl (Nat.le_of_ble_eq_true rfl) rfl ?_
    exact c_entL2 hb f S h 201 0 f2 _ _ _ _ (by omega) hC hF
  · obtain ⟨N, hN, rfl⟩ := nI_of d
    exact c_entL1 hN hb f S h N 0 f2 _ _ _ _ (by omega) hC hF
theorem c_two.back {f' : x_H} {S0 : x_S} {T U : x_T} {g u : q_G} (h : c_two z f' S0 A T U g u) (hA : c_is S0 A) : x_Sys z f' (S0.1, x_ut (x_ut S0.2.1 2 T) 3 U, S0.2.2.1, S0.2.2.2) ∧ c_is (S0.1, x_ut (x_ut S0.2.1 2 T) 3 U, S0.2.2.1, S0.2.2.2) A := ⟨h.1, h.is hA⟩
theorem c_loop (hS : x_Sys z f S) (hA : c_is S A) (ho : a_ok A) (h : c_any z f post (n_loop A a b)) : Y E 9 mX5_loop [.ref 0, .int a, .int b] z f 0 0 post := by
  refine Y.intro gX5_loop (lv := [(0, .ref 0), (1, .int a), (2, .int b)]) rfl (Nat.le_of_ble_eq_true rfl) ?_
  have hT := hS.2.1 0 (by decide)
  by_cases d1 : q_in (g_n (a_g A)) a
  · obtain ⟨k, hk, hk2, rfl, hcl⟩ := q_in_k d1
    by_cases e9 : b < 0 ∨ 1 < b
    · rw [show n_loop A (nI k) b = s_no A 2 from (if_pos d1).trans (if_pos e9)] at h
      refine x_aload_n (pc' := 1) rfl rfl rfl ?_
      refine x_get (pc' := 4) rfl rfl rfl (hS.1) rfl ?_
      refine x_iload_n (pc' := 5) rfl rfl rfl ?_
      refine x_cV1i (d := 1) (pc' := 8) rfl rfl sX5_90 gX3_has (hT.1) ⟨Nat.le_of_ble_eq_true rfl, Nat.le_of_ble_eq_true rfl⟩ (Nat.le_of_ble_eq_true rfl) ⟨Nat.le_of_ble_eq_true rfl, Nat.le_of_ble_eq_true rfl⟩ ?_
      refine c_has hS hA ho (fun _ => ⟨_, rfl, ?_⟩) (fun q => absurd d1 q)
      refine x_if_ne (tgt := 17) (pc' := 11) rfl rfl rfl (fun _ => ?_) (fun c8 => absurd c8 ((by decide)))
      refine x_iload_n (pc' := 18) rfl rfl rfl ?_
      refine x_if_lt (tgt := 26) (pc' := 21) rfl rfl rfl (fun c18 => ?_) (fun c18 => ?_)
      · refine x_aload_n (pc' := 27) rfl rfl rfl ?_
        refine x_bipush (pc' := 29) rfl rfl bipush_m2 ?_
        refine x_cV1i (d := 1) (pc' := 32) rfl rfl sX5_68 gX5_refuse (hS.1) ⟨Nat.le_of_ble_eq_true rfl, Nat.le_of_ble_eq_true rfl⟩ (Nat.le_of_ble_eq_true rfl) ⟨Nat.le_of_ble_eq_true rfl, Nat.le_of_ble_eq_true rfl⟩ ?_
        refine c_refuse (k := 2) (by decide) (by decide) hS hA (fun f1 S1 hS1 hA1 hF1 => ⟨_, rfl, ?_⟩)
        exact x_ireturn rfl rfl rfl (Nat.le_of_ble_eq_true rfl) (Nat.le_of_ble_eq_true rfl) (h _ _ _ hS1 hA1 hF1)
      · refine x_iload_n (pc' := 22) rfl rfl rfl ?_
        refine x_iconst (pc' := 23) rfl rfl iconst_1 ?_
        refine x_icmp_le (tgt := 33) (pc' := 26) rfl rfl rfl (fun q => absurd e9 (fun w => w.elim c18 (Int32.not_lt.mpr q))) (fun _ => ?_)
        refine x_aload_n (pc' := 27) rfl rfl rfl ?_
        refine x_bipush (pc' := 29) rfl rfl bipush_m2 ?_
        refine x_cV1i (d := 1) (pc' := 32) rfl rfl sX5_68 gX5_refuse (hS.1) ⟨Nat.le_of_ble_eq_true rfl, Nat.le_of_ble_eq_true rfl⟩ (Nat.le_of_ble_eq_true rfl) ⟨Nat.le_of_ble_eq_true rfl, Nat.le_of_ble_eq_true rfl⟩ ?_
        refine c_refuse (k := 2) (by decide) (by decide) hS hA (fun f1 S1 hS1 hA1 hF1 => ⟨_, rfl, ?_⟩)
        exact x_ireturn rfl rfl rfl (Nat.le_of_ble_eq_true rfl) (Nat.le_of_ble_eq_true rfl) (h _ _ _ hS1 hA1 hF1)
    · rw [show n_loop A (nI k) b = A from (if_pos d1).trans (if_neg e9)] at h
      refine x_aload_n (pc' := 1) rfl rfl rfl ?_
      refine x_get (pc' := 4) rfl rfl rfl (hS.1) rfl ?_
      refine x_iload_n (pc' := 5) rfl rfl rfl ?_
      refine x_cV1i (d := 1) (pc' := 8) rfl rfl sX5_90 gX3_has (hT.1) ⟨Nat.le_of_ble_eq_true rfl, Nat.le_of_ble_eq_true rfl⟩ (Nat.le_of_ble_eq_true rfl) ⟨Nat.le_of_ble_eq_true rfl, Nat.le_of_ble_eq_true rfl⟩ ?_
      refine c_has hS hA ho (fun _ => ⟨_, rfl, ?_⟩) (fun q => absurd d1 q)
      refine x_if_ne (tgt := 17) (pc' := 11) rfl rfl rfl (fun _ => ?_) (fun c8 => absurd c8 ((by decide)))
      refine x_iload_n (pc' := 18) rfl rfl rfl ?_
      refine x_if_lt (tgt := 26) (pc' := 21) rfl rfl rfl (fun c18 => absurd c18 ((fun q => e9 (Or.inl q)))) (fun _ => ?_)
      refine x_iload_n (pc' := 22) rfl rfl rfl ?_
      refine x_iconst (pc' := 23) rfl rfl iconst_1 ?_
      refine x_icmp_le (tgt := 33) (pc' := 26) rfl rfl rfl (fun _ => ?_) (fun c23 => absurd ((Int32.not_lt.mp (fun q => e9 (Or.inr q)))) c23)
      refine x_aload_n (pc' := 34) rfl rfl rfl ?_
      refine x_iload_n (pc' := 35) rfl rfl rfl ?_
      refine x_cV1i (d := 5) (pc' := 38) rfl rfl sX5_162 gX5_roundOf (hS.1) ⟨Nat.le_of_ble_eq_true rfl, Nat.le_of_ble_eq_true rfl⟩ (Nat.le_of_ble_eq_true rfl) ⟨Nat.le_of_ble_eq_true rfl, Nat.le_of_ble_eq_true rfl⟩ ?_
      refine c_roundOf hS hA ho hk (fun f1 T1 U1 g1 u1 r1 hC1 hF1 => ⟨_, rfl, ?_⟩)
      obtain ⟨hS1, hA1⟩ := hC1.back hA
      refine x_istore_n (pc' := 39) (lv' := [(3, _), (0, _), (1, _), (2, _)]) rfl rfl (Nat.le_of_ble_eq_true rfl) rfl ?_
      refine x_iload_n (pc' := 40) rfl rfl rfl ?_
      refine x_bipush (pc' := 42) rfl rfl bipush_m9 ?_
      refine x_icmp_ne (tgt := 48) (pc' := 45) rfl rfl rfl (fun c42 => ?_) (fun c42 => ?_)
      · refine x_aload_n (pc' := 49) rfl rfl rfl ?_
        refine x_iload_n (pc' := 50) rfl rfl rfl ?_
        refine x_iload_n (pc' := 51) rfl rfl rfl ?_
        refine x_cV2i (d := 5) (pc' := 54) rfl rfl sX5_165 gX5_entryOf (hS1.1) ⟨Nat.le_of_ble_eq_true rfl, Nat.le_of_ble_eq_true rfl⟩ (Nat.le_of_ble_eq_true rfl) ⟨Nat.le_of_ble_eq_true rfl, Nat.le_of_ble_eq_true rfl⟩ ?_
        refine c_entryOf hS1 hA1 ho hk (fun f2 T2 U2 g2 u2 r2 hC2 hF2 => ⟨_, rfl, ?_⟩)
        obtain ⟨hS2, hA2⟩ := hC2.back hA1
        refine x_istore (pc' := 56) (lv' := [(4, _), (3, _), (0, _), (1, _), (2, _)]) rfl rfl (Nat.le_of_ble_eq_true rfl) rfl ?_
        refine x_iload_n (pc' := 57) rfl rfl rfl ?_
        refine x_if_eq (tgt := 67) (pc' := 60) rfl rfl rfl (fun c57 => ?_) (fun c57 => ?_)
        · refine x_iload (pc' := 69) rfl rfl rfl ?_
          refine x_goto (tgt := 73) rfl rfl ?_
          exact x_ireturn rfl rfl rfl (Nat.le_of_ble_eq_true rfl) (Nat.le_of_ble_eq_true rfl) (h _ _ _ hS2 hA2 (hF1.trans hF2))
        · refine x_iload (pc' := 62) rfl rfl rfl ?_
          refine x_bipush (pc' := 64) rfl rfl bipush_m9 ?_
          refine x_icmp_ne (tgt := 72) (pc' := 67) rfl rfl rfl (fun c64 => ?_) (fun c64 => ?_)
          · refine x_iload_n (pc' := 73) rfl rfl rfl ?_
            exact x_ireturn rfl rfl rfl (Nat.le_of_ble_eq_true rfl) (Nat.le_of_ble_eq_true rfl) (h _ _ _ hS2 hA2 (hF1.trans hF2))
          · refine x_iload (pc' := 69) rfl rfl rfl ?_
            refine x_goto (tgt := 73) rfl rfl ?_
            exact x_ireturn rfl rfl rfl (Nat.le_of_ble_eq_true rfl) (Nat.le_of_ble_eq_true rfl) (h _ _ _ hS2 hA2 (hF1.trans hF2))
      · refine x_bipush (pc' := 47) rfl rfl bipush_m9 ?_
        exact x_ireturn rfl rfl rfl (Nat.le_of_ble_eq_true rfl) (Nat.le_of_ble_eq_true rfl) (h _ _ _ hS1 hA1 hF1)
  · rw [show n_loop A a b = s_no A 1 from if_neg d1] at h
    refine x_aload_n (pc' := 1) rfl rfl rfl ?_
    refine x_get (pc' := 4) rfl rfl rfl (hS.1) rfl ?_
    refine x_iload_n (pc' := 5) rfl rfl rfl ?_
    refine x_cV1i (d := 1) (pc' := 8) rfl rfl sX5_90 gX3_has (hT.1) ⟨Nat.le_of_ble_eq_true rfl, Nat.le_of_ble_eq_true rfl⟩ (Nat.le_of_ble_eq_true rfl) ⟨Nat.le_of_ble_eq_true rfl, Nat.le_of_ble_eq_true rfl⟩ ?_
    refine c_has hS hA ho (fun q => absurd q d1) (fun _ => ⟨_, rfl, ?_⟩)
    refine x_if_ne (tgt := 17) (pc' := 11) rfl rfl rfl (fun c8 => absurd (rfl) c8) (fun _ => ?_)
    refine x_aload_n (pc' := 12) rfl rfl rfl ?_
    refine x_iconst (pc' := 13) rfl rfl iconst_m1 ?_
    refine x_cV1i (d := 1) (pc' := 16) rfl rfl sX5_68 gX5_refuse (hS.1) ⟨Nat.le_of_ble_eq_true rfl, Nat.le_of_ble_eq_true rfl⟩ (Nat.le_of_ble_eq_true rfl) ⟨Nat.le_of_ble_eq_true rfl, Nat.le_of_ble_eq_true rfl⟩ ?_
    refine c_refuse (k := 1) (by decide) (by decide) hS hA (fun f1 S1 hS1 hA1 hF1 => ⟨_, rfl, ?_⟩)
    exact x_ireturn rfl rfl rfl (Nat.le_of_ble_eq_true rfl) (Nat.le_of_ble_eq_true rfl) (h _ _ _ hS1 hA1 hF1)
theorem r_loopL {b n : Nat} {w : Int32} (ho : a_ok A) (hb : b < g_n (a_g A)) (hn : n ≤ 200) (hM : x_Mdl z f M) (hA : r_is M A) (hbn : m_bn M b n (a_g A)) (h : ∀ r : Int32, post (some (.int r)) f) (k : Nat) (hk : k ≤ n) (K : ∀ j : Nat, X E (x_rm 9 0 0) mX6_loop (x_QM E z 0 0 post) 88 [(5, .int (nI j)), (4, .int (nI k)), (3, .int (nI n)), (0, .ref 59), (1, .int (nI b)), (2, .int w)] [] z f 0 0) : ∀ (m j : Nat), j + m = k → X E (x_rm 9 0 0) mX6_loop (x_QM E z 0 0 post) 49 [(5, .int (nI j)), (4, .int (nI k)), (3, .int (nI n)), (0, .ref 59), (1, .int (nI b)), (2, .int w)] [] z f 0 0 := by
  have hokx : ∀ x i, g_β (g_sq b x (a_g A)) i ≤ 100 := fun x i => Nat.le_trans ((g_sq_ok ho.1 (by decide) (by decide) hb x).2.2.2.2.2.1 i) (by decide)
  intro m
  induction m with
  | zero =>
    intro j hj
    refine x_iload (pc' := 51) rfl rfl rfl ?_
    refine x_iload (pc' := 53) rfl rfl rfl ?_
    refine x_icmp_ge (tgt := 88) (pc' := 56) rfl rfl rfl (fun _ => ?_) (fun c53 => absurd ((nI_le (by omega) (by omega))) c53)
    exact K j
  | succ m ih =>
    intro j hj
    refine x_iload (pc' := 51) rfl rfl rfl ?_
    refine x_iload (pc' := 53) rfl rfl rfl ?_
    refine x_icmp_ge (tgt := 88) (pc' := 56) rfl rfl rfl (fun c53 => absurd c53 ((nI_ge (by omega) (by omega)))) (fun _ => ?_)
    refine x_aload_n (pc' := 57) rfl rfl rfl ?_
    refine x_iload (pc' := 59) rfl rfl rfl ?_
    refine x_iload (pc' := 61) rfl rfl rfl ?_
    refine x_cV2i (d := 1) (pc' := 64) rfl rfl sX6_192 gX6_isLike (hM.1) ⟨Nat.le_of_ble_eq_true rfl, Nat.le_of_ble_eq_true rfl⟩ (Nat.le_of_ble_eq_true rfl) ⟨Nat.le_of_ble_eq_true rfl, Nat.le_of_ble_eq_true rfl⟩ ?_
    refine m_like (j := j) (k := k) (n := g_n (a_g A)) (β := g_β (g_sq b j (a_g A))) (γ := g_β (g_sq b k (a_g A))) hM (by omega) (by omega) hA.1.2.2.2.1 ho.1.1 (hbn j (by omega)) (hbn k (by omega)) (hokx j) (hokx k) (fun d => ⟨_, rfl, ?_⟩) (fun d => ⟨_, rfl, ?_⟩)
    · refine x_if_eq (tgt := 82) (pc' := 67) rfl rfl rfl (fun c64 => absurd c64 ((by decide))) (fun _ => ?_)
      refine x_iload_n (pc' := 68) rfl rfl rfl ?_
      refine x_if_ne (tgt := 76) (pc' := 71) rfl rfl rfl (fun c68 => ?_) (fun c68 => ?_)
      · refine x_iload (pc' := 78) rfl rfl rfl ?_
        refine x_iload (pc' := 80) rfl rfl rfl ?_
        refine x_isub (pc' := 81) rfl rfl ?_
        exact x_ireturn rfl rfl rfl (Nat.le_of_ble_eq_true rfl) (Nat.le_of_ble_eq_true rfl) (h _)
      · refine x_iload (pc' := 73) rfl rfl rfl ?_
        refine x_goto (tgt := 81) rfl rfl ?_
        exact x_ireturn rfl rfl rfl (Nat.le_of_ble_eq_true rfl) (Nat.le_of_ble_eq_true rfl) (h _)
    · refine x_if_eq (tgt := 82) (pc' := 67) rfl rfl rfl (fun _ => ?_) (fun c64 => absurd (rfl) c64)
      refine x_iinc (pc' := 85) (lv' := [(5, _), (4, _), (3, _), (0, _), (1, _), (2, _)]) rfl rfl (Nat.le_of_ble_eq_true rfl) rfl (nI_1 j) rfl ?_
      refine x_goto (tgt := 49) rfl rfl ?_
      exact ih (j + 1) (by omega)
theorem r_loopK {b n : Nat} {w : Int32} (ho : a_ok A) (hb : b < g_n (a_g A)) (hn : n ≤ 200) (hM : x_Mdl z f M) (hA : r_is M A) (hbn : m_bn M b n (a_g A)) (h : ∀ r : Int32, post (some (.int r)) f) : ∀ (m k : Nat), k + m = n + 1 → X E (x_rm 9 0 0) mX6_loop (x_QM E z 0 0 post) 40 [(4, .int (nI k)), (3, .int (nI n)), (0, .ref 59), (1, .int (nI b)), (2, .int w)] [] z f 0 0 := by
  intro m
  induction m with
  | zero =>
    intro k hk
    refine x_iload (pc' := 42) rfl rfl rfl ?_
    refine x_iload_n (pc' := 43) rfl rfl rfl ?_
    refine x_icmp_gt (tgt := 94) (pc' := 46) rfl rfl rfl (fun _ => ?_) (fun c43 => absurd ((nI_lt (by omega) (by omega))) c43)
    refine x_bipush (pc' := 96) rfl rfl bipush_m9 ?_
    exact x_ireturn rfl rfl rfl (Nat.le_of_ble_eq_true rfl) (Nat.le_of_ble_eq_true rfl) (h _)
  | succ m ih =>
    intro k hk
    refine x_iload (pc' := 42) rfl rfl rfl ?_
    refine x_iload_n (pc' := 43) rfl rfl rfl ?_
    refine x_icmp_gt (tgt := 94) (pc' := 46) rfl rfl rfl (fun c43 => absurd c43 ((nI_nlt (by omega) (by omega)))) (fun _ => ?_)
    refine x_iconst (pc' := 47) rfl rfl iconst_0 ?_
    refine x_istore (pc' := 49) (lv' := [(5, _), (4, _), (3, _), (0, _), (1, _), (2, _)]) rfl rfl (Nat.le_of_ble_eq_true rfl) rfl ?_
    refine r_loopL ho hb hn hM hA hbn h k (by omega) (fun j => ?_) k 0 (by omega)
    refine x_iinc (pc' := 91) (lv' := [(4, _), (5, _), (3, _), (0, _), (1, _), (2, _)]) rfl rfl (Nat.le_of_ble_eq_true rfl) rfl (nI_1 k) rfl ?_
    refine x_goto (tgt := 40) rfl rfl ?_
    refine x_lvp [0, 2, 3, 4, 5] rfl ?_
    exact ih (k + 1) (by omega)
theorem r_loop (hM : x_Mdl z f M) (hA : r_is M A) (ho : a_ok A) (h : r_any z f post (n_loop A a b)) : Y E 9 mX6_loop [.ref 59, .int a, .int b] z f 0 0 post := by
  refine Y.intro gX6_loop (lv := [(0, .ref 59), (1, .int a), (2, .int b)]) rfl (Nat.le_of_ble_eq_true rfl) ?_
  by_cases d1 : q_in (g_n (a_g A)) a
  · obtain ⟨k, hk, hk2, rfl, hcl⟩ := q_in_k d1
    by_cases e9 : b < 0 ∨ 1 < b
    · rw [show n_loop A (nI k) b = s_no A 2 from (if_pos d1).trans (if_pos e9)] at h
      refine x_aload_n (pc' := 1) rfl rfl rfl ?_
      refine x_iload_n (pc' := 2) rfl rfl rfl ?_
      refine x_cV1i (d := 2) (pc' := 5) rfl rfl sX6_103 gX6_isBowl (hM.1) ⟨Nat.le_of_ble_eq_true rfl, Nat.le_of_ble_eq_true rfl⟩ (Nat.le_of_ble_eq_true rfl) ⟨Nat.le_of_ble_eq_true rfl, Nat.le_of_ble_eq_true rfl⟩ ?_
      refine r_bowl hM hA ho (fun _ => ⟨_, rfl, ?_⟩) (fun q => absurd d1 q)
      refine x_if_ne (tgt := 14) (pc' := 8) rfl rfl rfl (fun _ => ?_) (fun c5 => absurd c5 ((by decide)))
      refine x_iload_n (pc' := 15) rfl rfl rfl ?_
      refine x_i2l (pc' := 16) rfl rfl ?_
      refine x_lconst (pc' := 17) rfl rfl lconst_0 ?_
      refine x_lconst (pc' := 18) rfl rfl lconst_1 ?_
      refine x_cS3i (d := 1) (pc' := 21) rfl rfl sX6_63 gX6_in ⟨Nat.le_of_ble_eq_true rfl, Nat.le_of_ble_eq_true rfl⟩ (Nat.le_of_ble_eq_true rfl) ⟨Nat.le_of_ble_eq_true rfl, Nat.le_of_ble_eq_true rfl⟩ ?_
      refine r_in (lo := 0) (hi := 1) (by decide) (by decide) (fun q => absurd e9 q) (fun _ => ⟨_, rfl, ?_⟩)
      refine x_if_ne (tgt := 31) (pc' := 24) rfl rfl rfl (fun c21 => absurd (rfl) c21) (fun _ => ?_)
      refine x_aload_n (pc' := 25) rfl rfl rfl ?_
      refine x_bipush (pc' := 27) rfl rfl bipush_m2 ?_
      refine x_cV1i (d := 1) (pc' := 30) rfl rfl sX6_110 gX6_refuse (hM.1) ⟨Nat.le_of_ble_eq_true rfl, Nat.le_of_ble_eq_true rfl⟩ (Nat.le_of_ble_eq_true rfl) ⟨Nat.le_of_ble_eq_true rfl, Nat.le_of_ble_eq_true rfl⟩ ?_
      refine r_refuse (k := 1) (by decide) (by decide) hM hA (fun f1 M1 hM1 hA1 hF1 => ⟨_, rfl, ?_⟩)
      exact x_ireturn rfl rfl rfl (Nat.le_of_ble_eq_true rfl) (Nat.le_of_ble_eq_true rfl) (h _ _ _ hM1 hA1 hF1)
    · rw [show n_loop A (nI k) b = A from (if_pos d1).trans (if_neg e9)] at h
      refine x_aload_n (pc' := 1) rfl rfl rfl ?_
      refine x_iload_n (pc' := 2) rfl rfl rfl ?_
      refine x_cV1i (d := 2) (pc' := 5) rfl rfl sX6_103 gX6_isBowl (hM.1) ⟨Nat.le_of_ble_eq_true rfl, Nat.le_of_ble_eq_true rfl⟩ (Nat.le_of_ble_eq_true rfl) ⟨Nat.le_of_ble_eq_true rfl, Nat.le_of_ble_eq_true rfl⟩ ?_
      refine r_bowl hM hA ho (fun _ => ⟨_, rfl, ?_⟩) (fun q => absurd d1 q)
      refine x_if_ne (tgt := 14) (pc' := 8) rfl rfl rfl (fun _ => ?_) (fun c5 => absurd c5 ((by decide)))
      refine x_iload_n (pc' := 15) rfl rfl rfl ?_
      refine x_i2l (pc' := 16) rfl rfl ?_
      refine x_lconst (pc' := 17) rfl rfl lconst_0 ?_
      refine x_lconst (pc' := 18) rfl rfl lconst_1 ?_
      refine x_cS3i (d := 1) (pc' := 21) rfl rfl sX6_63 gX6_in ⟨Nat.le_of_ble_eq_true rfl, Nat.le_of_ble_eq_true rfl⟩ (Nat.le_of_ble_eq_true rfl) ⟨Nat.le_of_ble_eq_true rfl, Nat.le_of_ble_eq_true rfl⟩ ?_
      refine r_in (lo := 0) (hi := 1) (by decide) (by decide) (fun _ => ⟨_, rfl, ?_⟩) (fun q => absurd q e9)
      refine x_if_ne (tgt := 31) (pc' := 24) rfl rfl rfl (fun _ => ?_) (fun c21 => absurd c21 ((by decide)))
      refine x_aload_n (pc' := 32) rfl rfl rfl ?_
      refine x_iload_n (pc' := 33) rfl rfl rfl ?_
      refine x_cV1i (d := 6) (pc' := 36) rfl rfl sX6_189 gX6_records200 (hM.1) ⟨Nat.le_of_ble_eq_true rfl, Nat.le_of_ble_eq_true rfl⟩ (Nat.le_of_ble_eq_true rfl) ⟨Nat.le_of_ble_eq_true rfl, Nat.le_of_ble_eq_true rfl⟩ ?_
      refine m_records200 hM hA ho hk (fun f1 M1 n hn hne hM1 hA1 hbn1 hF1 => ⟨_, rfl, ?_⟩)
      refine x_istore_n (pc' := 37) (lv' := [(3, _), (0, _), (1, _), (2, _)]) rfl rfl (Nat.le_of_ble_eq_true rfl) rfl ?_
      refine x_iconst (pc' := 38) rfl rfl iconst_1 ?_
      refine x_istore (pc' := 40) (lv' := [(4, _), (3, _), (0, _), (1, _), (2, _)]) rfl rfl (Nat.le_of_ble_eq_true rfl) rfl ?_
      exact r_loopK ho hk hn hM1 hA1 hbn1 (fun r => h _ _ r hM1 hA1 hF1) n 1 (by omega)
  · rw [show n_loop A a b = s_no A 1 from if_neg d1] at h
    refine x_aload_n (pc' := 1) rfl rfl rfl ?_
    refine x_iload_n (pc' := 2) rfl rfl rfl ?_
    refine x_cV1i (d := 2) (pc' := 5) rfl rfl sX6_103 gX6_isBowl (hM.1) ⟨Nat.le_of_ble_eq_true rfl, Nat.le_of_ble_eq_true rfl⟩ (Nat.le_of_ble_eq_true rfl) ⟨Nat.le_of_ble_eq_true rfl, Nat.le_of_ble_eq_true rfl⟩ ?_
    refine r_bowl hM hA ho (fun q => absurd q d1) (fun _ => ⟨_, rfl, ?_⟩)
    refine x_if_ne (tgt := 14) (pc' := 8) rfl rfl rfl (fun c5 => absurd (rfl) c5) (fun _ => ?_)
    refine x_aload_n (pc' := 9) rfl rfl rfl ?_
    refine x_iconst (pc' := 10) rfl rfl iconst_m1 ?_
    refine x_cV1i (d := 1) (pc' := 13) rfl rfl sX6_110 gX6_refuse (hM.1) ⟨Nat.le_of_ble_eq_true rfl, Nat.le_of_ble_eq_true rfl⟩ (Nat.le_of_ble_eq_true rfl) ⟨Nat.le_of_ble_eq_true rfl, Nat.le_of_ble_eq_true rfl⟩ ?_
    refine r_refuse (k := 0) (by decide) (by decide) hM hA (fun f1 M1 hM1 hA1 hF1 => ⟨_, rfl, ?_⟩)
    exact x_ireturn rfl rfl rfl (Nat.le_of_ble_eq_true rfl) (Nat.le_of_ble_eq_true rfl) (h _ _ _ hM1 hA1 hF1)
end LP
end
