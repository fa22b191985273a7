/-! The reference's calls: those that change the state, those that look at it. -/
section RA
variable {E : x_E} {z : Nat} {f : x_H} {M : x_N} {A : q_A} {post : Option Value → x_H → Prop} {a b : Int32} {g : q_G} {C : Nat}
theorem r_fr0 {k : Nat} {f' : x_H} {c : x_C} (e : f' = x_up f k c) (hk : 59 ≤ k) : x_fr (fun q => q < 59) f f' := (x_fr.rf (P := fun q => q < 59)).up e (Nat.not_lt.mpr hk)
theorem r_in {u v : Int64} {lo hi : Int32} (hu : u = lo.toInt64) (hv : v = hi.toInt64) (h1 : ¬ (a < lo ∨ hi < a) → post (some (.int 1)) f) (h0 : (a < lo ∨ hi < a) → post (some (.int 0)) f) : Y E 1 mX6_in [.long a.toInt64, .long u, .long v] z f 0 0 post := by
  subst hu hv
  refine w_in (fun q => h1 ?_) (fun q => h0 ?_)
  · rw [i64_lt, i64_lt] at q
    exact fun k => k.elim q.1 q.2
  · rw [i64_lt, i64_lt] at q
    by_cases k1 : a < lo
    · exact Or.inl k1
    · by_cases k2 : hi < a
      · exact Or.inr k2
      · exact absurd ⟨k1, k2⟩ q
theorem m_can1 {k : Nat} (hM : x_Mdl z f M) (hg : m_is M g) (hok : g_ok C g) (hC : C ≤ 100) (hk : k < 2 ^ 31) (h1 : g_can g k → post (some (.int 1)) f) (h0 : ¬ g_can g k → post (some (.int 0)) f) : Y E 3 mX6_canMove [.ref 59, .int (nI k)] z f 0 0 post := by
  refine m_can hM hg hok hC (fun b' e d => h1 ?_) (fun d => h0 (d k rfl hk))
  have hb' : b' < 2 ^ 31 := by have := d.2.1; have := hok.1; omega
  rw [(nI_eq hk hb').mp e]
  exact d
theorem r_letter (hM : x_Mdl z f M) (hA : r_is M A) (ho : a_ok A) (h : r_ends z f post (s_letter A a)) : Y E 9 mX6_letter [.ref 59, .int a] z f 0 0 post := by
  refine Y.intro gX6_letter (lv := [(0, .ref 59), (1, .int a)]) rfl (Nat.le_of_ble_eq_true rfl) ?_
  obtain ⟨b1, b2, b3, b4, b5, b6, b7, b8, b9⟩ := id hA
  have hlc := ho.2.2.2.1
  refine x_iload_n (pc' := 1) rfl rfl rfl ?_
  refine x_if_ge (tgt := 11) (pc' := 4) rfl rfl rfl (fun c1 => ?_) (fun c1 => ?_)
  · have d1 : ¬ a < 0 := Int32.not_lt.mpr c1
    refine x_iload_n (pc' := 12) rfl rfl rfl ?_
    refine x_sipush (pc' := 15) rfl rfl sipush_255 ?_
    refine x_icmp_gt (tgt := 27) (pc' := 18) rfl rfl rfl (fun c15 => ?_) (fun c15 => ?_)
    · rw [show s_letter A a = _ from (if_neg d1).trans (if_pos (Or.inl c15))] at h
      refine x_aload_n (pc' := 28) rfl rfl rfl ?_
      refine x_bipush (pc' := 30) rfl rfl bipush_m6 ?_
      refine x_cV1i (d := 1) (pc' := 33) rfl rfl sX6_110 gX6_refuse (hM.1) ⟨Nat.le_of_ble_eq_true rfl, Nat.le_of_ble_eq_true rfl⟩ (Nat.le_of_ble_eq_true rfl) ⟨Nat.le_of_ble_eq_true rfl, Nat.le_of_ble_eq_true rfl⟩ ?_
      refine r_refuse (k := 5) (by decide) (by decide) hM hA (fun f1 M1 hM1 hA1 hF1 => ⟨_, rfl, ?_⟩)
      exact x_ireturn rfl rfl rfl (Nat.le_of_ble_eq_true rfl) (Nat.le_of_ble_eq_true rfl) (h _ _ hM1 hA1 hF1)
    · refine x_aload_n (pc' := 19) rfl rfl rfl ?_
      refine x_get (pc' := 22) rfl rfl rfl (hM.1) rfl ?_
      refine x_eqi b5 ?_
      refine x_bipush (pc' := 24) rfl rfl bipush_96 ?_
      by_cases d3 : a_lc A = 96
      · rw [show s_letter A a = _ from (if_neg d1).trans (if_pos (Or.inr d3))] at h
        refine x_icmp_ne (tgt := 34) (pc' := 27) rfl rfl rfl (fun q => absurd (show nI (a_lc A) = 96 by rw [d3]; rfl) q) (fun _ => ?_)
        refine x_aload_n (pc' := 28) rfl rfl rfl ?_
        refine x_bipush (pc' := 30) rfl rfl bipush_m6 ?_
        refine x_cV1i (d := 1) (pc' := 33) rfl rfl sX6_110 gX6_refuse (hM.1) ⟨Nat.le_of_ble_eq_true rfl, Nat.le_of_ble_eq_true rfl⟩ (Nat.le_of_ble_eq_true rfl) ⟨Nat.le_of_ble_eq_true rfl, Nat.le_of_ble_eq_true rfl⟩ ?_
        refine r_refuse (k := 5) (by decide) (by decide) hM hA (fun f1 M1 hM1 hA1 hF1 => ⟨_, rfl, ?_⟩)
        exact x_ireturn rfl rfl rfl (Nat.le_of_ble_eq_true rfl) (Nat.le_of_ble_eq_true rfl) (h _ _ hM1 hA1 hF1)
      · rw [show s_letter A a = _ from (if_neg d1).trans (if_neg (fun q => q.elim c15 d3))] at h
        refine x_icmp_ne (tgt := 34) (pc' := 27) rfl rfl rfl (fun _ => ?_) (fun q => absurd ((nI_eq (a := a_lc A) (b := 96) (by omega) (by decide)).mp q) d3)
        refine x_aload_n (pc' := 35) rfl rfl rfl ?_
        refine x_get (pc' := 38) rfl rfl rfl (hM.1) rfl ?_
        obtain ⟨ka, hka, rfl⟩ := nI_of d1
        refine x_aload_n (pc' := 39) rfl rfl rfl ?_
        refine x_get (pc' := 42) rfl rfl rfl (hM.1) rfl ?_
        refine x_eqi b5 ?_
        refine x_iload_n (pc' := 43) rfl rfl rfl ?_
        refine x_iastore (pc' := 44) rfl rfl (hM.2.1 4 (by decide)) (vp_in_nI (n := a_lc A) (N := 96) (by omega) (by decide)) (fun f1 e1 => ?_)
        have hM1 := hM.arr 4 (by decide) e1
        have hF1 := r_fr0 e1 (by decide)
        rw [nI_clamp (by omega), b6, q_up_I] at hM1
        refine x_aload_n (pc' := 45) rfl rfl rfl ?_
        refine x_dup (pc' := 46) rfl rfl rfl ?_
        refine x_get (pc' := 49) rfl rfl rfl (hM1.1) rfl ?_
        refine x_eqi b5 ?_
        refine x_iconst (pc' := 50) rfl rfl iconst_1 ?_
        refine x_iadd (pc' := 51) rfl rfl ?_
        refine x_eqi (nI_1 _) ?_
        refine x_put (pc' := 54) rfl rfl rfl (hM1.1) (Nat.le_of_ble_eq_true rfl) rfl rfl rfl rfl (fun f2 e2 => ?_)
        have hM2 := hM1.num 11 e2 (x_mFs11 _ _)
        have hF2 := hF1.up e2 (by decide)
        refine x_aload_n (pc' := 55) rfl rfl rfl ?_
        refine x_get (pc' := 58) rfl rfl rfl (hM2.1) rfl ?_
        exact x_ireturn rfl rfl rfl (Nat.le_of_ble_eq_true rfl) (Nat.le_of_ble_eq_true rfl) (h _ _ hM2 ⟨b1, b2, b3, b4.eq (fun i hi => pk_un (by omega)) rfl rfl, rfl, by show (fun i => nI (q_up (a_lf A) (a_lc A) ka i)) = fun i => nI (q_up (a_lf A) (a_lc A) (nI ka).toNatClampNeg i); rw [nI_clamp hka], b7, b8, b9⟩ hF2)
  · rw [show s_letter A a = _ from if_pos (Int32.not_le.mp c1)] at h
    refine x_aload_n (pc' := 5) rfl rfl rfl ?_
    refine x_bipush (pc' := 7) rfl rfl bipush_m4 ?_
    refine x_cV1i (d := 1) (pc' := 10) rfl rfl sX6_110 gX6_refuse (hM.1) ⟨Nat.le_of_ble_eq_true rfl, Nat.le_of_ble_eq_true rfl⟩ (Nat.le_of_ble_eq_true rfl) ⟨Nat.le_of_ble_eq_true rfl, Nat.le_of_ble_eq_true rfl⟩ ?_
    refine r_refuse (k := 3) (by decide) (by decide) hM hA (fun f1 M1 hM1 hA1 hF1 => ⟨_, rfl, ?_⟩)
    exact x_ireturn rfl rfl rfl (Nat.le_of_ble_eq_true rfl) (Nat.le_of_ble_eq_true rfl) (h _ _ hM1 hA1 hF1)
theorem r_row (hM : x_Mdl z f M) (hA : r_is M A) (ho : a_ok A) (h : r_ends z f post (s_row A a)) : Y E 9 mX6_row [.ref 59, .int a] z f 0 0 post := by
  refine Y.intro gX6_row (lv := [(0, .ref 59), (1, .int a)]) rfl (Nat.le_of_ble_eq_true rfl) ?_
  obtain ⟨b1, b2, b3, b4, b5, b6, b7, b8, b9⟩ := id hA
  have hrc := ho.2.2.2.2.2.1
  refine x_iload_n (pc' := 1) rfl rfl rfl ?_
  refine x_if_ge (tgt := 11) (pc' := 4) rfl rfl rfl (fun c1 => ?_) (fun c1 => ?_)
  · have d1 : ¬ a < 0 := Int32.not_lt.mpr c1
    refine x_iload_n (pc' := 12) rfl rfl rfl ?_
    refine x_bipush (pc' := 14) rfl rfl bipush_9 ?_
    refine x_icmp_gt (tgt := 26) (pc' := 17) rfl rfl rfl (fun c14 => ?_) (fun c14 => ?_)
    · rw [show s_row A a = _ from (if_neg d1).trans (if_pos (Or.inl c14))] at h
      refine x_aload_n (pc' := 27) rfl rfl rfl ?_
      refine x_bipush (pc' := 29) rfl rfl bipush_m6 ?_
      refine x_cV1i (d := 1) (pc' := 32) rfl rfl sX6_110 gX6_refuse (hM.1) ⟨Nat.le_of_ble_eq_true rfl, Nat.le_of_ble_eq_true rfl⟩ (Nat.le_of_ble_eq_true rfl) ⟨Nat.le_of_ble_eq_true rfl, Nat.le_of_ble_eq_true rfl⟩ ?_
      refine r_refuse (k := 5) (by decide) (by decide) hM hA (fun f1 M1 hM1 hA1 hF1 => ⟨_, rfl, ?_⟩)
      exact x_ireturn rfl rfl rfl (Nat.le_of_ble_eq_true rfl) (Nat.le_of_ble_eq_true rfl) (h _ _ hM1 hA1 hF1)
    · refine x_aload_n (pc' := 18) rfl rfl rfl ?_
      refine x_get (pc' := 21) rfl rfl rfl (hM.1) rfl ?_
      refine x_eqi b7 ?_
      refine x_bipush (pc' := 23) rfl rfl bipush_12 ?_
      by_cases d3 : a_rc A = 12
      · rw [show s_row A a = _ from (if_neg d1).trans (if_pos (Or.inr d3))] at h
        refine x_icmp_ne (tgt := 33) (pc' := 26) rfl rfl rfl (fun q => absurd (show nI (a_rc A) = 12 by rw [d3]; rfl) q) (fun _ => ?_)
        refine x_aload_n (pc' := 27) rfl rfl rfl ?_
        refine x_bipush (pc' := 29) rfl rfl bipush_m6 ?_
        refine x_cV1i (d := 1) (pc' := 32) rfl rfl sX6_110 gX6_refuse (hM.1) ⟨Nat.le_of_ble_eq_true rfl, Nat.le_of_ble_eq_true rfl⟩ (Nat.le_of_ble_eq_true rfl) ⟨Nat.le_of_ble_eq_true rfl, Nat.le_of_ble_eq_true rfl⟩ ?_
        refine r_refuse (k := 5) (by decide) (by decide) hM hA (fun f1 M1 hM1 hA1 hF1 => ⟨_, rfl, ?_⟩)
        exact x_ireturn rfl rfl rfl (Nat.le_of_ble_eq_true rfl) (Nat.le_of_ble_eq_true rfl) (h _ _ hM1 hA1 hF1)
      · rw [show s_row A a = _ from (if_neg d1).trans (if_neg (fun q => q.elim c14 d3))] at h
        refine x_icmp_ne (tgt := 33) (pc' := 26) rfl rfl rfl (fun _ => ?_) (fun q => absurd ((nI_eq (a := a_rc A) (b := 12) (by omega) (by decide)).mp q) d3)
        refine x_aload_n (pc' := 34) rfl rfl rfl ?_
        refine x_get (pc' := 37) rfl rfl rfl (hM.1) rfl ?_
        obtain ⟨ka, hka, rfl⟩ := nI_of d1
        refine x_aload_n (pc' := 38) rfl rfl rfl ?_
        refine x_get (pc' := 41) rfl rfl rfl (hM.1) rfl ?_
        refine x_eqi b7 ?_
        refine x_iload_n (pc' := 42) rfl rfl rfl ?_
        refine x_iastore (pc' := 43) rfl rfl (hM.2.1 5 (by decide)) (vp_in_nI (n := a_rc A) (N := 12) (by omega) (by decide)) (fun f1 e1 => ?_)
        have hM1 := hM.arr 5 (by decide) e1
        have hF1 := r_fr0 e1 (by decide)
        rw [nI_clamp (by omega), b8, q_up_I] at hM1
        refine x_aload_n (pc' := 44) rfl rfl rfl ?_
        refine x_dup (pc' := 45) rfl rfl rfl ?_
        refine x_get (pc' := 48) rfl rfl rfl (hM1.1) rfl ?_
        refine x_eqi b7 ?_
        refine x_iconst (pc' := 49) rfl rfl iconst_1 ?_
        refine x_iadd (pc' := 50) rfl rfl ?_
        refine x_eqi (nI_1 _) ?_
        refine x_put (pc' := 53) rfl rfl rfl (hM1.1) (Nat.le_of_ble_eq_true rfl) rfl rfl rfl rfl (fun f2 e2 => ?_)
        have hM2 := hM1.num 13 e2 (x_mFs13 _ _)
        have hF2 := hF1.up e2 (by decide)
        refine x_aload_n (pc' := 54) rfl rfl rfl ?_
        refine x_get (pc' := 57) rfl rfl rfl (hM2.1) rfl ?_
        exact x_ireturn rfl rfl rfl (Nat.le_of_ble_eq_true rfl) (Nat.le_of_ble_eq_true rfl) (h _ _ hM2 ⟨b1, b2, b3, b4.eq (fun i hi => pk_un (by omega)) rfl rfl, b5, b6, rfl, by show (fun i => nI (q_up (a_rf A) (a_rc A) ka i)) = fun i => nI (q_up (a_rf A) (a_rc A) (nI ka).toNatClampNeg i); rw [nI_clamp hka], b9⟩ hF2)
  · rw [show s_row A a = _ from if_pos (Int32.not_le.mp c1)] at h
    refine x_aload_n (pc' := 5) rfl rfl rfl ?_
    refine x_bipush (pc' := 7) rfl rfl bipush_m4 ?_
    refine x_cV1i (d := 1) (pc' := 10) rfl rfl sX6_110 gX6_refuse (hM.1) ⟨Nat.le_of_ble_eq_true rfl, Nat.le_of_ble_eq_true rfl⟩ (Nat.le_of_ble_eq_true rfl) ⟨Nat.le_of_ble_eq_true rfl, Nat.le_of_ble_eq_true rfl⟩ ?_
    refine r_refuse (k := 3) (by decide) (by decide) hM hA (fun f1 M1 hM1 hA1 hF1 => ⟨_, rfl, ?_⟩)
    exact x_ireturn rfl rfl rfl (Nat.le_of_ble_eq_true rfl) (Nat.le_of_ble_eq_true rfl) (h _ _ hM1 hA1 hF1)
theorem r_put (hM : x_Mdl z f M) (hA : r_is M A) (ho : a_ok A) (h : r_ends z f post (s_put A a b)) : Y E 9 mX6_put [.ref 59, .int a, .int b] z f 0 0 post := by
  refine Y.intro gX6_put (lv := [(0, .ref 59), (1, .int a), (2, .int b)]) rfl (Nat.le_of_ble_eq_true rfl) ?_
  obtain ⟨b1, b2, b3, b4, b5, b6, b7, b8, b9⟩ := id hA
  have hn9 := ho.1.1
  refine x_aload_n (pc' := 1) rfl rfl rfl ?_
  refine x_iload_n (pc' := 2) rfl rfl rfl ?_
  refine x_cV1i (d := 2) (pc' := 5) rfl rfl sX6_103 gX6_isBowl (hM.1) ⟨Nat.le_of_ble_eq_true rfl, Nat.le_of_ble_eq_true rfl⟩ (Nat.le_of_ble_eq_true rfl) ⟨Nat.le_of_ble_eq_true rfl, Nat.le_of_ble_eq_true rfl⟩ ?_
  refine r_bowl hM hA ho (fun d1 => ⟨_, rfl, ?_⟩) (fun d1 => ⟨_, rfl, ?_⟩)
  · obtain ⟨k, hk, hk2, rfl, hcl⟩ := q_in_k d1
    refine x_if_ne (tgt := 14) (pc' := 8) rfl rfl rfl (fun _ => ?_) (fun c5 => absurd c5 ((by decide)))
    refine x_iload_n (pc' := 15) rfl rfl rfl ?_
    refine x_if_ge (tgt := 25) (pc' := 18) rfl rfl rfl (fun c15 => ?_) (fun c15 => ?_)
    · have d2 : ¬ b < 0 := Int32.not_lt.mpr c15
      refine x_iload_n (pc' := 26) rfl rfl rfl ?_
      refine x_bipush (pc' := 28) rfl rfl bipush_20 ?_
      refine x_icmp_le (tgt := 38) (pc' := 31) rfl rfl rfl (fun c28 => ?_) (fun c28 => ?_)
      · rw [show s_put A (nI k) b = _ from (if_pos d1).trans ((if_neg d2).trans (if_neg (Int32.not_lt.mpr c28)))] at h
        refine x_aload_n (pc' := 39) rfl rfl rfl ?_
        refine x_get (pc' := 42) rfl rfl rfl (hM.1) rfl ?_
        refine x_iload_n (pc' := 43) rfl rfl rfl ?_
        refine x_iaload (pc' := 44) rfl rfl (hM.2.1 1 (by decide)) (vp_in_nI (n := k) (N := 9) (by omega) (by decide)) ?_
        refine x_eqi (show M.2.1 1 (nI k).toNatClampNeg = nI (g_β (a_g A) (nI k).toNatClampNeg) from by rw [b1.2.1]) ?_
        refine x_istore_n (pc' := 45) (lv' := [(3, _), (0, _), (1, _), (2, _)]) rfl rfl (Nat.le_of_ble_eq_true rfl) rfl ?_
        refine x_aload_n (pc' := 46) rfl rfl rfl ?_
        refine x_get (pc' := 49) rfl rfl rfl (hM.1) rfl ?_
        obtain ⟨kb, hkb, rfl⟩ := nI_of d2
        refine x_iload_n (pc' := 50) rfl rfl rfl ?_
        refine x_iload_n (pc' := 51) rfl rfl rfl ?_
        refine x_iastore (pc' := 52) rfl rfl (hM.2.1 1 (by decide)) (vp_in_nI (n := k) (N := 9) (by omega) (by decide)) (fun f1 e1 => ?_)
        have hM1 := hM.arr 1 (by decide) e1
        have hF1 := r_fr0 e1 (by decide)
        refine x_iload_n (pc' := 53) rfl rfl rfl ?_
        exact x_ireturn rfl rfl rfl (Nat.le_of_ble_eq_true rfl) (Nat.le_of_ble_eq_true rfl) (h _ _ hM1 ⟨⟨b1.1, by show upd (M.2.1 1) (nI k).toNatClampNeg (nI kb) = fun i => nI (q_up (g_β (a_g A)) (nI k).toNatClampNeg (nI kb).toNatClampNeg i); rw [b1.2.1, q_up_I, nI_clamp hkb], b1.2.2⟩, b2, b3, b4.eq (fun _ _ => rfl) rfl rfl, b5, b6, b7, b8, b9⟩ hF1)
      · rw [show s_put A (nI k) b = _ from (if_pos d1).trans ((if_neg d2).trans (if_pos (Int32.not_le.mp c28)))] at h
        refine x_aload_n (pc' := 32) rfl rfl rfl ?_
        refine x_bipush (pc' := 34) rfl rfl bipush_m6 ?_
        refine x_cV1i (d := 1) (pc' := 37) rfl rfl sX6_110 gX6_refuse (hM.1) ⟨Nat.le_of_ble_eq_true rfl, Nat.le_of_ble_eq_true rfl⟩ (Nat.le_of_ble_eq_true rfl) ⟨Nat.le_of_ble_eq_true rfl, Nat.le_of_ble_eq_true rfl⟩ ?_
        refine r_refuse (k := 5) (by decide) (by decide) hM hA (fun f1 M1 hM1 hA1 hF1 => ⟨_, rfl, ?_⟩)
        exact x_ireturn rfl rfl rfl (Nat.le_of_ble_eq_true rfl) (Nat.le_of_ble_eq_true rfl) (h _ _ hM1 hA1 hF1)
    · rw [show s_put A (nI k) b = _ from (if_pos d1).trans (if_pos (Int32.not_le.mp c15))] at h
      refine x_aload_n (pc' := 19) rfl rfl rfl ?_
      refine x_bipush (pc' := 21) rfl rfl bipush_m4 ?_
      refine x_cV1i (d := 1) (pc' := 24) rfl rfl sX6_110 gX6_refuse (hM.1) ⟨Nat.le_of_ble_eq_true rfl, Nat.le_of_ble_eq_true rfl⟩ (Nat.le_of_ble_eq_true rfl) ⟨Nat.le_of_ble_eq_true rfl, Nat.le_of_ble_eq_true rfl⟩ ?_
      refine r_refuse (k := 3) (by decide) (by decide) hM hA (fun f1 M1 hM1 hA1 hF1 => ⟨_, rfl, ?_⟩)
      exact x_ireturn rfl rfl rfl (Nat.le_of_ble_eq_true rfl) (Nat.le_of_ble_eq_true rfl) (h _ _ hM1 hA1 hF1)
  · rw [show s_put A a b = _ from if_neg d1] at h
    refine x_if_ne (tgt := 14) (pc' := 8) rfl rfl rfl (fun c5 => absurd (rfl) c5) (fun _ => ?_)
    refine x_aload_n (pc' := 9) rfl rfl rfl ?_
    refine x_iconst (pc' := 10) rfl rfl iconst_m1 ?_
    refine x_cV1i (d := 1) (pc' := 13) rfl rfl sX6_110 gX6_refuse (hM.1) ⟨Nat.le_of_ble_eq_true rfl, Nat.le_of_ble_eq_true rfl⟩ (Nat.le_of_ble_eq_true rfl) ⟨Nat.le_of_ble_eq_true rfl, Nat.le_of_ble_eq_true rfl⟩ ?_
    refine r_refuse (k := 0) (by decide) (by decide) hM hA (fun f1 M1 hM1 hA1 hF1 => ⟨_, rfl, ?_⟩)
    exact x_ireturn rfl rfl rfl (Nat.le_of_ble_eq_true rfl) (Nat.le_of_ble_eq_true rfl) (h _ _ hM1 hA1 hF1)
theorem r_set (hM : x_Mdl z f M) (hA : r_is M A) (h : r_ends z f post (s_set A a b)) : Y E 9 mX6_set [.ref 59, .int a, .int b] z f 0 0 post := by
  refine Y.intro gX6_set (lv := [(0, .ref 59), (1, .int a), (2, .int b)]) rfl (Nat.le_of_ble_eq_true rfl) ?_
  obtain ⟨b1, b2, b3, b4, b5, b6, b7, b8, b9⟩ := id hA
  obtain ⟨t1, t2, t3, t4, t5, t6, t7⟩ := id b1
  by_cases d0 : a < 0 ∨ 2 < a
  · rw [show s_set A a b = _ from if_pos d0] at h
    refine x_iload_n (pc' := 1) rfl rfl rfl ?_
    refine x_i2l (pc' := 2) rfl rfl ?_
    refine x_lconst (pc' := 3) rfl rfl lconst_0 ?_
    refine x_ldc2 (pc' := 6) rfl rfl rfl ?_
    refine x_cS3i (d := 1) (pc' := 9) rfl rfl sX6_63 gX6_in ⟨Nat.le_of_ble_eq_true rfl, Nat.le_of_ble_eq_true rfl⟩ (Nat.le_of_ble_eq_true rfl) ⟨Nat.le_of_ble_eq_true rfl, Nat.le_of_ble_eq_true rfl⟩ ?_
    refine r_in (lo := 0) (hi := 2) (by decide) (by decide) (fun q => absurd d0 q) (fun _ => ⟨_, rfl, ?_⟩)
    refine x_if_ne (tgt := 19) (pc' := 12) rfl rfl rfl (fun c9 => absurd (rfl) c9) (fun _ => ?_)
    refine x_aload_n (pc' := 13) rfl rfl rfl ?_
    refine x_bipush (pc' := 15) rfl rfl bipush_m2 ?_
    refine x_cV1i (d := 1) (pc' := 18) rfl rfl sX6_110 gX6_refuse (hM.1) ⟨Nat.le_of_ble_eq_true rfl, Nat.le_of_ble_eq_true rfl⟩ (Nat.le_of_ble_eq_true rfl) ⟨Nat.le_of_ble_eq_true rfl, Nat.le_of_ble_eq_true rfl⟩ ?_
    refine r_refuse (k := 1) (by decide) (by decide) hM hA (fun f1 M1 hM1 hA1 hF1 => ⟨_, rfl, ?_⟩)
    exact x_ireturn rfl rfl rfl (Nat.le_of_ble_eq_true rfl) (Nat.le_of_ble_eq_true rfl) (h _ _ hM1 hA1 hF1)
  rcases i3_of d0 with rfl | rfl | rfl
  · rw [s_set0] at h
    refine x_iload_n (pc' := 1) rfl rfl rfl ?_
    refine x_i2l (pc' := 2) rfl rfl ?_
    refine x_lconst (pc' := 3) rfl rfl lconst_0 ?_
    refine x_ldc2 (pc' := 6) rfl rfl rfl ?_
    refine x_cS3i (d := 1) (pc' := 9) rfl rfl sX6_63 gX6_in ⟨Nat.le_of_ble_eq_true rfl, Nat.le_of_ble_eq_true rfl⟩ (Nat.le_of_ble_eq_true rfl) ⟨Nat.le_of_ble_eq_true rfl, Nat.le_of_ble_eq_true rfl⟩ ?_
    refine r_in (lo := 0) (hi := 2) (by decide) (by decide) (fun _ => ⟨_, rfl, ?_⟩) (fun q => absurd q d0)
    refine x_if_ne (tgt := 19) (pc' := 12) rfl rfl rfl (fun _ => ?_) (fun c9 => absurd c9 ((by decide)))
    refine x_iload_n (pc' := 20) rfl rfl rfl ?_
    refine x_iload_n (pc' := 21) rfl rfl rfl ?_
    refine x_if_ne (tgt := 28) (pc' := 24) rfl rfl rfl (fun c21 => absurd (rfl) c21) (fun _ => ?_)
    refine x_iconst (pc' := 25) rfl rfl iconst_1 ?_
    refine x_goto (tgt := 29) rfl rfl ?_
    refine x_icmp_ge (tgt := 39) (pc' := 32) rfl rfl rfl (fun c29 => ?_) (fun c29 => ?_)
    · have d2 : ¬ b < 1 := Int32.not_lt.mpr c29
      rw [if_neg d2] at h
      refine x_iload_n (pc' := 40) rfl rfl rfl ?_
      refine x_iload_n (pc' := 41) rfl rfl rfl ?_
      refine x_if_ne (tgt := 49) (pc' := 44) rfl rfl rfl (fun c41 => absurd (rfl) c41) (fun _ => ?_)
      refine x_bipush (pc' := 46) rfl rfl bipush_9 ?_
      refine x_goto (tgt := 50) rfl rfl ?_
      refine x_icmp_le (tgt := 60) (pc' := 53) rfl rfl rfl (fun c50 => ?_) (fun c50 => ?_)
      · rw [if_neg (Int32.not_lt.mpr c50)] at h
        refine x_iload_n (pc' := 61) rfl rfl rfl ?_
        refine x_if_ne (tgt := 71) (pc' := 64) rfl rfl rfl (fun c61 => absurd (rfl) c61) (fun _ => ?_)
        refine x_aload_n (pc' := 65) rfl rfl rfl ?_
        refine x_get (pc' := 68) rfl rfl rfl (hM.1) rfl ?_
        refine x_eqi t5 ?_
        obtain ⟨kb, hkb, rfl⟩ := nI_of (fun q => d2 (Int32.lt_trans q (by decide)))
        refine x_goto (tgt := 87) rfl rfl ?_
        refine x_istore_n (pc' := 88) (lv' := [(3, _), (0, _), (1, _), (2, _)]) rfl rfl (Nat.le_of_ble_eq_true rfl) rfl ?_
        refine x_iload_n (pc' := 89) rfl rfl rfl ?_
        refine x_if_ne (tgt := 100) (pc' := 92) rfl rfl rfl (fun c89 => absurd (rfl) c89) (fun _ => ?_)
        refine x_aload_n (pc' := 93) rfl rfl rfl ?_
        refine x_iload_n (pc' := 94) rfl rfl rfl ?_
        refine x_put (pc' := 97) rfl rfl rfl (hM.1) (Nat.le_of_ble_eq_true rfl) rfl rfl rfl rfl (fun f1 e1 => ?_)
        have hM1 := hM.num 4 e1 (x_mFs4 _ _)
        have hF1 := r_fr0 e1 (by decide)
        refine x_goto (tgt := 118) rfl rfl ?_
        refine x_iload_n (pc' := 119) rfl rfl rfl ?_
        exact x_ireturn rfl rfl rfl (Nat.le_of_ble_eq_true rfl) (Nat.le_of_ble_eq_true rfl) (h _ _ hM1 ⟨⟨t1, t2, t3, t4, by show nI kb = nI (nI kb).toNatClampNeg; rw [nI_clamp hkb], t6, t7⟩, b2, b3, b4.eq (fun i hi => pk_un (by omega)) rfl rfl, b5, b6, b7, b8, b9⟩ hF1)
      · rw [if_pos (Int32.not_le.mp c50)] at h
        refine x_aload_n (pc' := 54) rfl rfl rfl ?_
        refine x_bipush (pc' := 56) rfl rfl bipush_m6 ?_
        refine x_cV1i (d := 1) (pc' := 59) rfl rfl sX6_110 gX6_refuse (hM.1) ⟨Nat.le_of_ble_eq_true rfl, Nat.le_of_ble_eq_true rfl⟩ (Nat.le_of_ble_eq_true rfl) ⟨Nat.le_of_ble_eq_true rfl, Nat.le_of_ble_eq_true rfl⟩ ?_
        refine r_refuse (k := 5) (by decide) (by decide) hM hA (fun f1 M1 hM1 hA1 hF1 => ⟨_, rfl, ?_⟩)
        exact x_ireturn rfl rfl rfl (Nat.le_of_ble_eq_true rfl) (Nat.le_of_ble_eq_true rfl) (h _ _ hM1 hA1 hF1)
    · rw [if_pos (Int32.not_le.mp c29)] at h
      refine x_aload_n (pc' := 33) rfl rfl rfl ?_
      refine x_bipush (pc' := 35) rfl rfl bipush_m4 ?_
      refine x_cV1i (d := 1) (pc' := 38) rfl rfl sX6_110 gX6_refuse (hM.1) ⟨Nat.le_of_ble_eq_true rfl, Nat.le_of_ble_eq_true rfl⟩ (Nat.le_of_ble_eq_true rfl) ⟨Nat.le_of_ble_eq_true rfl, Nat.le_of_ble_eq_true rfl⟩ ?_
      refine r_refuse (k := 3) (by decide) (by decide) hM hA (fun f1 M1 hM1 hA1 hF1 => ⟨_, rfl, ?_⟩)
      exact x_ireturn rfl rfl rfl (Nat.le_of_ble_eq_true rfl) (Nat.le_of_ble_eq_true rfl) (h _ _ hM1 hA1 hF1)
  · rw [s_set1] at h
    refine x_iload_n (pc' := 1) rfl rfl rfl ?_
    refine x_i2l (pc' := 2) rfl rfl ?_
    refine x_lconst (pc' := 3) rfl rfl lconst_0 ?_
    refine x_ldc2 (pc' := 6) rfl rfl rfl ?_
    refine x_cS3i (d := 1) (pc' := 9) rfl rfl sX6_63 gX6_in ⟨Nat.le_of_ble_eq_true rfl, Nat.le_of_ble_eq_true rfl⟩ (Nat.le_of_ble_eq_true rfl) ⟨Nat.le_of_ble_eq_true rfl, Nat.le_of_ble_eq_true rfl⟩ ?_
    refine r_in (lo := 0) (hi := 2) (by decide) (by decide) (fun _ => ⟨_, rfl, ?_⟩) (fun q => absurd q d0)
    refine x_if_ne (tgt := 19) (pc' := 12) rfl rfl rfl (fun _ => ?_) (fun c9 => absurd c9 ((by decide)))
    refine x_iload_n (pc' := 20) rfl rfl rfl ?_
    refine x_iload_n (pc' := 21) rfl rfl rfl ?_
    refine x_if_ne (tgt := 28) (pc' := 24) rfl rfl rfl (fun _ => ?_) (fun c21 => absurd c21 ((by decide)))
    refine x_iconst (pc' := 29) rfl rfl iconst_0 ?_
    refine x_icmp_ge (tgt := 39) (pc' := 32) rfl rfl rfl (fun c29 => ?_) (fun c29 => ?_)
    · have d2 : ¬ b < 0 := Int32.not_lt.mpr c29
      rw [if_neg d2] at h
      refine x_iload_n (pc' := 40) rfl rfl rfl ?_
      refine x_iload_n (pc' := 41) rfl rfl rfl ?_
      refine x_if_ne (tgt := 49) (pc' := 44) rfl rfl rfl (fun _ => ?_) (fun c41 => absurd c41 ((by decide)))
      refine x_iconst (pc' := 50) rfl rfl iconst_1 ?_
      refine x_icmp_le (tgt := 60) (pc' := 53) rfl rfl rfl (fun c50 => ?_) (fun c50 => ?_)
      · rw [if_neg (Int32.not_lt.mpr c50)] at h
        refine x_iload_n (pc' := 61) rfl rfl rfl ?_
        refine x_if_ne (tgt := 71) (pc' := 64) rfl rfl rfl (fun _ => ?_) (fun c61 => absurd c61 ((by decide)))
        refine x_iload_n (pc' := 72) rfl rfl rfl ?_
        refine x_iconst (pc' := 73) rfl rfl iconst_1 ?_
        refine x_icmp_ne (tgt := 83) (pc' := 76) rfl rfl rfl (fun c73 => absurd (rfl) c73) (fun _ => ?_)
        refine x_aload_n (pc' := 77) rfl rfl rfl ?_
        refine x_get (pc' := 80) rfl rfl rfl (hM.1) rfl ?_
        refine x_eqi t6 ?_
        obtain ⟨kb, hkb, rfl⟩ := nI_of d2
        refine x_goto (tgt := 87) rfl rfl ?_
        refine x_istore_n (pc' := 88) (lv' := [(3, _), (0, _), (1, _), (2, _)]) rfl rfl (Nat.le_of_ble_eq_true rfl) rfl ?_
        refine x_iload_n (pc' := 89) rfl rfl rfl ?_
        refine x_if_ne (tgt := 100) (pc' := 92) rfl rfl rfl (fun _ => ?_) (fun c89 => absurd c89 ((by decide)))
        refine x_iload_n (pc' := 101) rfl rfl rfl ?_
        refine x_iconst (pc' := 102) rfl rfl iconst_1 ?_
        refine x_icmp_ne (tgt := 113) (pc' := 105) rfl rfl rfl (fun c102 => absurd (rfl) c102) (fun _ => ?_)
        refine x_aload_n (pc' := 106) rfl rfl rfl ?_
        refine x_iload_n (pc' := 107) rfl rfl rfl ?_
        refine x_put (pc' := 110) rfl rfl rfl (hM.1) (Nat.le_of_ble_eq_true rfl) rfl rfl rfl rfl (fun f1 e1 => ?_)
        have hM1 := hM.num 5 e1 (x_mFs5 _ _)
        have hF1 := r_fr0 e1 (by decide)
        refine x_goto (tgt := 118) rfl rfl ?_
        refine x_iload_n (pc' := 119) rfl rfl rfl ?_
        exact x_ireturn rfl rfl rfl (Nat.le_of_ble_eq_true rfl) (Nat.le_of_ble_eq_true rfl) (h _ _ hM1 ⟨⟨t1, t2, t3, t4, t5, by show nI kb = nI (nI kb).toNatClampNeg; rw [nI_clamp hkb], t7⟩, b2, b3, b4.eq (fun i hi => pk_un (by omega)) rfl rfl, b5, b6, b7, b8, b9⟩ hF1)
      · rw [if_pos (Int32.not_le.mp c50)] at h
        refine x_aload_n (pc' := 54) rfl rfl rfl ?_
        refine x_bipush (pc' := 56) rfl rfl bipush_m6 ?_
        refine x_cV1i (d := 1) (pc' := 59) rfl rfl sX6_110 gX6_refuse (hM.1) ⟨Nat.le_of_ble_eq_true rfl, Nat.le_of_ble_eq_true rfl⟩ (Nat.le_of_ble_eq_true rfl) ⟨Nat.le_of_ble_eq_true rfl, Nat.le_of_ble_eq_true rfl⟩ ?_
        refine r_refuse (k := 5) (by decide) (by decide) hM hA (fun f1 M1 hM1 hA1 hF1 => ⟨_, rfl, ?_⟩)
        exact x_ireturn rfl rfl rfl (Nat.le_of_ble_eq_true rfl) (Nat.le_of_ble_eq_true rfl) (h _ _ hM1 hA1 hF1)
    · rw [if_pos (Int32.not_le.mp c29)] at h
      refine x_aload_n (pc' := 33) rfl rfl rfl ?_
      refine x_bipush (pc' := 35) rfl rfl bipush_m4 ?_
      refine x_cV1i (d := 1) (pc' := 38) rfl rfl sX6_110 gX6_refuse (hM.1) ⟨Nat.le_of_ble_eq_true rfl, Nat.le_of_ble_eq_true rfl⟩ (Nat.le_of_ble_eq_true rfl) ⟨Nat.le_of_ble_eq_true rfl, Nat.le_of_ble_eq_true rfl⟩ ?_
      refine r_refuse (k := 3) (by decide) (by decide) hM hA (fun f1 M1 hM1 hA1 hF1 => ⟨_, rfl, ?_⟩)
      exact x_ireturn rfl rfl rfl (Nat.le_of_ble_eq_true rfl) (Nat.le_of_ble_eq_true rfl) (h _ _ hM1 hA1 hF1)
  · rw [s_set2] at h
    refine x_iload_n (pc' := 1) rfl rfl rfl ?_
    refine x_i2l (pc' := 2) rfl rfl ?_
    refine x_lconst (pc' := 3) rfl rfl lconst_0 ?_
    refine x_ldc2 (pc' := 6) rfl rfl rfl ?_
    refine x_cS3i (d := 1) (pc' := 9) rfl rfl sX6_63 gX6_in ⟨Nat.le_of_ble_eq_true rfl, Nat.le_of_ble_eq_true rfl⟩ (Nat.le_of_ble_eq_true rfl) ⟨Nat.le_of_ble_eq_true rfl, Nat.le_of_ble_eq_true rfl⟩ ?_
    refine r_in (lo := 0) (hi := 2) (by decide) (by decide) (fun _ => ⟨_, rfl, ?_⟩) (fun q => absurd q d0)
    refine x_if_ne (tgt := 19) (pc' := 12) rfl rfl rfl (fun _ => ?_) (fun c9 => absurd c9 ((by decide)))
    refine x_iload_n (pc' := 20) rfl rfl rfl ?_
    refine x_iload_n (pc' := 21) rfl rfl rfl ?_
    refine x_if_ne (tgt := 28) (pc' := 24) rfl rfl rfl (fun _ => ?_) (fun c21 => absurd c21 ((by decide)))
    refine x_iconst (pc' := 29) rfl rfl iconst_0 ?_
    refine x_icmp_ge (tgt := 39) (pc' := 32) rfl rfl rfl (fun c29 => ?_) (fun c29 => ?_)
    · have d2 : ¬ b < 0 := Int32.not_lt.mpr c29
      rw [if_neg d2] at h
      refine x_iload_n (pc' := 40) rfl rfl rfl ?_
      refine x_iload_n (pc' := 41) rfl rfl rfl ?_
      refine x_if_ne (tgt := 49) (pc' := 44) rfl rfl rfl (fun _ => ?_) (fun c41 => absurd c41 ((by decide)))
      refine x_iconst (pc' := 50) rfl rfl iconst_1 ?_
      refine x_icmp_le (tgt := 60) (pc' := 53) rfl rfl rfl (fun c50 => ?_) (fun c50 => ?_)
      · rw [if_neg (Int32.not_lt.mpr c50)] at h
        refine x_iload_n (pc' := 61) rfl rfl rfl ?_
        refine x_if_ne (tgt := 71) (pc' := 64) rfl rfl rfl (fun _ => ?_) (fun c61 => absurd c61 ((by decide)))
        refine x_iload_n (pc' := 72) rfl rfl rfl ?_
        refine x_iconst (pc' := 73) rfl rfl iconst_1 ?_
        refine x_icmp_ne (tgt := 83) (pc' := 76) rfl rfl rfl (fun _ => ?_) (fun c73 => absurd c73 ((by decide)))
        refine x_aload_n (pc' := 84) rfl rfl rfl ?_
        refine x_get (pc' := 87) rfl rfl rfl (hM.1) rfl ?_
        refine x_eqi t7 ?_
        obtain ⟨kb, hkb, rfl⟩ := nI_of d2
        refine x_istore_n (pc' := 88) (lv' := [(3, _), (0, _), (1, _), (2, _)]) rfl rfl (Nat.le_of_ble_eq_true rfl) rfl ?_
        refine x_iload_n (pc' := 89) rfl rfl rfl ?_
        refine x_if_ne (tgt := 100) (pc' := 92) rfl rfl rfl (fun _ => ?_) (fun c89 => absurd c89 ((by decide)))
        refine x_iload_n (pc' := 101) rfl rfl rfl ?_
        refine x_iconst (pc' := 102) rfl rfl iconst_1 ?_
        refine x_icmp_ne (tgt := 113) (pc' := 105) rfl rfl rfl (fun _ => ?_) (fun c102 => absurd c102 ((by decide)))
        refine x_aload_n (pc' := 114) rfl rfl rfl ?_
        refine x_iload_n (pc' := 115) rfl rfl rfl ?_
        refine x_put (pc' := 118) rfl rfl rfl (hM.1) (Nat.le_of_ble_eq_true rfl) rfl rfl rfl rfl (fun f1 e1 => ?_)
        have hM1 := hM.num 7 e1 (x_mFs7 _ _)
        have hF1 := r_fr0 e1 (by decide)
        refine x_iload_n (pc' := 119) rfl rfl rfl ?_
        exact x_ireturn rfl rfl rfl (Nat.le_of_ble_eq_true rfl) (Nat.le_of_ble_eq_true rfl) (h _ _ hM1 ⟨⟨t1, t2, t3, t4, t5, t6, by show nI kb = nI (nI kb).toNatClampNeg; rw [nI_clamp hkb]⟩, b2, b3, b4.eq (fun i hi => pk_un (by omega)) rfl rfl, b5, b6, b7, b8, b9⟩ hF1)
      · rw [if_pos (Int32.not_le.mp c50)] at h
        refine x_aload_n (pc' := 54) rfl rfl rfl ?_
        refine x_bipush (pc' := 56) rfl rfl bipush_m6 ?_
        refine x_cV1i (d := 1) (pc' := 59) rfl rfl sX6_110 gX6_refuse (hM.1) ⟨Nat.le_of_ble_eq_true rfl, Nat.le_of_ble_eq_true rfl⟩ (Nat.le_of_ble_eq_true rfl) ⟨Nat.le_of_ble_eq_true rfl, Nat.le_of_ble_eq_true rfl⟩ ?_
        refine r_refuse (k := 5) (by decide) (by decide) hM hA (fun f1 M1 hM1 hA1 hF1 => ⟨_, rfl, ?_⟩)
        exact x_ireturn rfl rfl rfl (Nat.le_of_ble_eq_true rfl) (Nat.le_of_ble_eq_true rfl) (h _ _ hM1 hA1 hF1)
    · rw [if_pos (Int32.not_le.mp c29)] at h
      refine x_aload_n (pc' := 33) rfl rfl rfl ?_
      refine x_bipush (pc' := 35) rfl rfl bipush_m4 ?_
      refine x_cV1i (d := 1) (pc' := 38) rfl rfl sX6_110 gX6_refuse (hM.1) ⟨Nat.le_of_ble_eq_true rfl, Nat.le_of_ble_eq_true rfl⟩ (Nat.le_of_ble_eq_true rfl) ⟨Nat.le_of_ble_eq_true rfl, Nat.le_of_ble_eq_true rfl⟩ ?_
      refine r_refuse (k := 3) (by decide) (by decide) hM hA (fun f1 M1 hM1 hA1 hF1 => ⟨_, rfl, ?_⟩)
      exact x_ireturn rfl rfl rfl (Nat.le_of_ble_eq_true rfl) (Nat.le_of_ble_eq_true rfl) (h _ _ hM1 hA1 hF1)
theorem r_bowlQ (hM : x_Mdl z f M) (hA : r_is M A) (ho : a_ok A) (h : r_ends z f post (s_bowl A a b)) : Y E 9 mX6_bowl [.ref 59, .int a, .int b] z f 0 0 post := by
  refine Y.intro gX6_bowl (lv := [(0, .ref 59), (1, .int a), (2, .int b)]) rfl (Nat.le_of_ble_eq_true rfl) ?_
  obtain ⟨t1, t2, t3, t4, t5, t6, t7⟩ := id hA.1
  obtain ⟨o1, o2, o3, o4, o5, o6, o7, o8, o9⟩ := id ho.1
  by_cases d1 : q_in (g_n (a_g A)) a
  · obtain ⟨k, hk, hk2, rfl, hcl⟩ := q_in_k d1
    have hv9 : vp_in (nI k) 9 := vp_in_nI (by omega) (by decide)
    have hκ5 := o5 k
    have eκ : M.2.1 0 (nI k).toNatClampNeg = nI (g_κ (a_g A) k) := by rw [hcl, t1]
    rw [show s_bowl A (nI k) b = _ from if_pos d1, hcl] at h
    by_cases e9 : b < 0 ∨ 3 < b
    · have hb0 : ¬ b = 0 := fun q => by rw [q] at e9; exact absurd e9 (by decide)
      have hb1 : ¬ b = 1 := fun q => by rw [q] at e9; exact absurd e9 (by decide)
      have hb2 : ¬ b = 2 := fun q => by rw [q] at e9; exact absurd e9 (by decide)
      have hb3 : ¬ b = 3 := fun q => by rw [q] at e9; exact absurd e9 (by decide)
      rw [if_neg hb0, if_neg hb1, if_neg hb2, if_neg hb3] at h
      refine x_aload_n (pc' := 1) rfl rfl rfl ?_
      refine x_iload_n (pc' := 2) rfl rfl rfl ?_
      refine x_cV1i (d := 2) (pc' := 5) rfl rfl sX6_103 gX6_isBowl (hM.1) ⟨Nat.le_of_ble_eq_true rfl, Nat.le_of_ble_eq_true rfl⟩ (Nat.le_of_ble_eq_true rfl) ⟨Nat.le_of_ble_eq_true rfl, Nat.le_of_ble_eq_true rfl⟩ ?_
      refine r_bowl hM hA ho (fun _ => ⟨_, rfl, ?_⟩) (fun q => absurd d1 q)
      refine x_if_ne (tgt := 14) (pc' := 8) rfl rfl rfl (fun _ => ?_) (fun c5 => absurd c5 ((by decide)))
      refine x_iload_n (pc' := 15) rfl rfl rfl ?_
      refine x_i2l (pc' := 16) rfl rfl ?_
      refine x_lconst (pc' := 17) rfl rfl lconst_0 ?_
      refine x_ldc2 (pc' := 20) rfl rfl rfl ?_
      refine x_cS3i (d := 1) (pc' := 23) rfl rfl sX6_63 gX6_in ⟨Nat.le_of_ble_eq_true rfl, Nat.le_of_ble_eq_true rfl⟩ (Nat.le_of_ble_eq_true rfl) ⟨Nat.le_of_ble_eq_true rfl, Nat.le_of_ble_eq_true rfl⟩ ?_
      refine r_in (lo := 0) (hi := 3) (by decide) (by decide) (fun q => absurd e9 q) (fun _ => ⟨_, rfl, ?_⟩)
      refine x_if_ne (tgt := 33) (pc' := 26) rfl rfl rfl (fun c23 => absurd (rfl) c23) (fun _ => ?_)
      refine x_aload_n (pc' := 27) rfl rfl rfl ?_
      refine x_bipush (pc' := 29) rfl rfl bipush_m2 ?_
      refine x_cV1i (d := 1) (pc' := 32) rfl rfl sX6_110 gX6_refuse (hM.1) ⟨Nat.le_of_ble_eq_true rfl, Nat.le_of_ble_eq_true rfl⟩ (Nat.le_of_ble_eq_true rfl) ⟨Nat.le_of_ble_eq_true rfl, Nat.le_of_ble_eq_true rfl⟩ ?_
      refine r_refuse (k := 1) (by decide) (by decide) hM hA (fun f1 M1 hM1 hA1 hF1 => ⟨_, rfl, ?_⟩)
      exact x_ireturn rfl rfl rfl (Nat.le_of_ble_eq_true rfl) (Nat.le_of_ble_eq_true rfl) (h _ _ hM1 hA1 hF1)
    obtain ⟨kb, hkb, rfl⟩ := nI_of2 (n := 3) (M := 3) rfl (fun q => e9 (Or.inl q)) (Int32.not_lt.mp (fun q => e9 (Or.inr q)))
    have hkb4 : kb = 0 ∨ kb = 1 ∨ kb = 2 ∨ kb = 3 := by omega
    have hq : q_from (g_κ (a_g A) k) (g_f (a_g A)) ≤ 100 := by
      unfold q_from
      repeat' split
      all_goals omega
    refine x_aload_n (pc' := 1) rfl rfl rfl ?_
    refine x_iload_n (pc' := 2) rfl rfl rfl ?_
    refine x_cV1i (d := 2) (pc' := 5) rfl rfl sX6_103 gX6_isBowl (hM.1) ⟨Nat.le_of_ble_eq_true rfl, Nat.le_of_ble_eq_true rfl⟩ (Nat.le_of_ble_eq_true rfl) ⟨Nat.le_of_ble_eq_true rfl, Nat.le_of_ble_eq_true rfl⟩ ?_
    refine r_bowl hM hA ho (fun _ => ⟨_, rfl, ?_⟩) (fun q => absurd d1 q)
    refine x_if_ne (tgt := 14) (pc' := 8) rfl rfl rfl (fun _ => ?_) (fun c5 => absurd c5 ((by decide)))
    refine x_iload_n (pc' := 15) rfl rfl rfl ?_
    refine x_i2l (pc' := 16) rfl rfl ?_
    refine x_lconst (pc' := 17) rfl rfl lconst_0 ?_
    refine x_ldc2 (pc' := 20) rfl rfl rfl ?_
    refine x_cS3i (d := 1) (pc' := 23) rfl rfl sX6_63 gX6_in ⟨Nat.le_of_ble_eq_true rfl, Nat.le_of_ble_eq_true rfl⟩ (Nat.le_of_ble_eq_true rfl) ⟨Nat.le_of_ble_eq_true rfl, Nat.le_of_ble_eq_true rfl⟩ ?_
    refine r_in (lo := 0) (hi := 3) (by decide) (by decide) (fun _ => ⟨_, rfl, ?_⟩) (fun q => absurd q e9)
    refine x_if_ne (tgt := 33) (pc' := 26) rfl rfl rfl (fun _ => ?_) (fun c23 => absurd c23 ((by decide)))
    refine x_aload_n (pc' := 34) rfl rfl rfl ?_
    refine x_aload_n (pc' := 35) rfl rfl rfl ?_
    refine x_get (pc' := 38) rfl rfl rfl (hM.1) rfl ?_
    refine x_iload_n (pc' := 39) rfl rfl rfl ?_
    refine x_iaload (pc' := 40) rfl rfl (hM.2.1 0 (by decide)) (hv9) ?_
    refine x_eqi eκ ?_
    refine x_cV1i (d := 1) (pc' := 43) rfl rfl sX6_93 gX6_soundsFrom (hM.1) ⟨Nat.le_of_ble_eq_true rfl, Nat.le_of_ble_eq_true rfl⟩ (Nat.le_of_ble_eq_true rfl) ⟨Nat.le_of_ble_eq_true rfl, Nat.le_of_ble_eq_true rfl⟩ ?_
    refine m_sounds1 hM t5 (by omega) hκ5 ⟨_, rfl, ?_⟩
    refine x_istore_n (pc' := 44) (lv' := [(3, _), (0, _), (1, _), (2, _)]) rfl rfl (Nat.le_of_ble_eq_true rfl) rfl ?_
    rcases hkb4 with rfl | rfl | rfl | rfl
    · rw [if_pos (by decide)] at h
      refine x_iload_n (pc' := 45) rfl rfl rfl ?_
      refine x_if_ne (tgt := 57) (pc' := 48) rfl rfl rfl (fun c45 => absurd (rfl) c45) (fun _ => ?_)
      refine x_aload_n (pc' := 49) rfl rfl rfl ?_
      refine x_get (pc' := 52) rfl rfl rfl (hM.1) rfl ?_
      refine x_iload_n (pc' := 53) rfl rfl rfl ?_
      refine x_iaload (pc' := 54) rfl rfl (hM.2.1 0 (by decide)) (hv9) ?_
      refine x_eqi eκ ?_
      refine x_goto (tgt := 105) rfl rfl ?_
      exact x_ireturn rfl rfl rfl (Nat.le_of_ble_eq_true rfl) (Nat.le_of_ble_eq_true rfl) (h _ _ hM hA x_fr.rf)
    · rw [if_neg (by decide), if_pos (by decide)] at h
      refine x_iload_n (pc' := 45) rfl rfl rfl ?_
      refine x_if_ne (tgt := 57) (pc' := 48) rfl rfl rfl (fun _ => ?_) (fun c45 => absurd c45 ((by decide)))
      refine x_iload_n (pc' := 58) rfl rfl rfl ?_
      refine x_iconst (pc' := 59) rfl rfl iconst_1 ?_
      refine x_icmp_ne (tgt := 71) (pc' := 62) rfl rfl rfl (fun c59 => absurd (rfl) c59) (fun _ => ?_)
      refine x_aload_n (pc' := 63) rfl rfl rfl ?_
      refine x_get (pc' := 66) rfl rfl rfl (hM.1) rfl ?_
      refine x_iload_n (pc' := 67) rfl rfl rfl ?_
      refine x_iaload (pc' := 68) rfl rfl (hM.2.1 1 (by decide)) (hv9) ?_
      refine x_eqi (show M.2.1 1 (nI k).toNatClampNeg = nI (g_β (a_g A) k) from by rw [hcl, t2]) ?_
      refine x_goto (tgt := 105) rfl rfl ?_
      exact x_ireturn rfl rfl rfl (Nat.le_of_ble_eq_true rfl) (Nat.le_of_ble_eq_true rfl) (h _ _ hM hA x_fr.rf)
    · rw [if_neg (by decide), if_neg (by decide), if_pos (by decide)] at h
      refine x_iload_n (pc' := 45) rfl rfl rfl ?_
      refine x_if_ne (tgt := 57) (pc' := 48) rfl rfl rfl (fun _ => ?_) (fun c45 => absurd c45 ((by decide)))
      refine x_iload_n (pc' := 58) rfl rfl rfl ?_
      refine x_iconst (pc' := 59) rfl rfl iconst_1 ?_
      refine x_icmp_ne (tgt := 71) (pc' := 62) rfl rfl rfl (fun _ => ?_) (fun c59 => absurd c59 ((by decide)))
      refine x_iload_n (pc' := 72) rfl rfl rfl ?_
      refine x_iconst (pc' := 73) rfl rfl iconst_2 ?_
      refine x_icmp_ne (tgt := 92) (pc' := 76) rfl rfl rfl (fun c73 => absurd (rfl) c73) (fun _ => ?_)
      refine x_iload_n (pc' := 77) rfl rfl rfl ?_
      refine x_sipush (pc' := 80) rfl rfl sipush_1000 ?_
      by_cases d2 : g_κ (a_g A) k = 2
      · rw [if_pos d2] at h
        rw [if_pos d2]
        refine x_icmp_ne (tgt := 88) (pc' := 83) rfl rfl rfl (fun q => absurd rfl q) (fun _ => ?_)
        refine x_bipush (pc' := 85) rfl rfl bipush_m9 ?_
        refine x_goto (tgt := 105) rfl rfl ?_
        exact x_ireturn rfl rfl rfl (Nat.le_of_ble_eq_true rfl) (Nat.le_of_ble_eq_true rfl) (h _ _ hM hA x_fr.rf)
      · rw [if_neg d2] at h
        rw [if_neg d2]
        refine x_icmp_ne (tgt := 88) (pc' := 83) rfl rfl rfl (fun _ => ?_) (fun q => absurd ((nI_eq (b := 1000) (by omega) (by decide)).mp q) (by omega))
        refine x_iload_n (pc' := 89) rfl rfl rfl ?_
        refine x_goto (tgt := 105) rfl rfl ?_
        exact x_ireturn rfl rfl rfl (Nat.le_of_ble_eq_true rfl) (Nat.le_of_ble_eq_true rfl) (h _ _ hM hA x_fr.rf)
    · rw [if_neg (by decide), if_neg (by decide), if_neg (by decide), if_pos (by decide)] at h
      refine x_iload_n (pc' := 45) rfl rfl rfl ?_
      refine x_if_ne (tgt := 57) (pc' := 48) rfl rfl rfl (fun _ => ?_) (fun c45 => absurd c45 ((by decide)))
      refine x_iload_n (pc' := 58) rfl rfl rfl ?_
      refine x_iconst (pc' := 59) rfl rfl iconst_1 ?_
      refine x_icmp_ne (tgt := 71) (pc' := 62) rfl rfl rfl (fun _ => ?_) (fun c59 => absurd c59 ((by decide)))
      refine x_iload_n (pc' := 72) rfl rfl rfl ?_
      refine x_iconst (pc' := 73) rfl rfl iconst_2 ?_
      refine x_icmp_ne (tgt := 92) (pc' := 76) rfl rfl rfl (fun _ => ?_) (fun c73 => absurd c73 ((by decide)))
      refine x_aload_n (pc' := 93) rfl rfl rfl ?_
      refine x_iload_n (pc' := 94) rfl rfl rfl ?_
      refine x_cV1i (d := 1) (pc' := 97) rfl rfl sX6_74 gX6_takes (hM.1) ⟨Nat.le_of_ble_eq_true rfl, Nat.le_of_ble_eq_true rfl⟩ (Nat.le_of_ble_eq_true rfl) ⟨Nat.le_of_ble_eq_true rfl, Nat.le_of_ble_eq_true rfl⟩ ?_
      refine m_takes (n := g_n (a_g A)) hM o1 t5 (by omega) t1 t2 o5 (fun i => Nat.le_trans (o6 i) (by decide)) hk (fun d4 => ⟨_, rfl, ?_⟩) (fun d4 => ⟨_, rfl, ?_⟩)
      · rw [if_pos d4] at h
        refine x_if_eq (tgt := 104) (pc' := 100) rfl rfl rfl (fun c97 => absurd c97 ((by decide))) (fun _ => ?_)
        refine x_iconst (pc' := 101) rfl rfl iconst_1 ?_
        refine x_goto (tgt := 105) rfl rfl ?_
        exact x_ireturn rfl rfl rfl (Nat.le_of_ble_eq_true rfl) (Nat.le_of_ble_eq_true rfl) (h _ _ hM hA x_fr.rf)
      · rw [if_neg d4] at h
        refine x_if_eq (tgt := 104) (pc' := 100) rfl rfl rfl (fun _ => ?_) (fun c97 => absurd (rfl) c97)
        refine x_iconst (pc' := 105) rfl rfl iconst_0 ?_
        exact x_ireturn rfl rfl rfl (Nat.le_of_ble_eq_true rfl) (Nat.le_of_ble_eq_true rfl) (h _ _ hM hA x_fr.rf)
  · rw [show s_bowl A a b = _ from if_neg d1] at h
    refine x_aload_n (pc' := 1) rfl rfl rfl ?_
    refine x_iload_n (pc' := 2) rfl rfl rfl ?_
    refine x_cV1i (d := 2) (pc' := 5) rfl rfl sX6_103 gX6_isBowl (hM.1) ⟨Nat.le_of_ble_eq_true rfl, Nat.le_of_ble_eq_true rfl⟩ (Nat.le_of_ble_eq_true rfl) ⟨Nat.le_of_ble_eq_true rfl, Nat.le_of_ble_eq_true rfl⟩ ?_
    refine r_bowl hM hA ho (fun q => absurd q d1) (fun _ => ⟨_, rfl, ?_⟩)
    refine x_if_ne (tgt := 14) (pc' := 8) rfl rfl rfl (fun c5 => absurd (rfl) c5) (fun _ => ?_)
    refine x_aload_n (pc' := 9) rfl rfl rfl ?_
    refine x_iconst (pc' := 10) rfl rfl iconst_m1 ?_
    refine x_cV1i (d := 1) (pc' := 13) rfl rfl sX6_110 gX6_refuse (hM.1) ⟨Nat.le_of_ble_eq_true rfl, Nat.le_of_ble_eq_true rfl⟩ (Nat.le_of_ble_eq_true rfl) ⟨Nat.le_of_ble_eq_true rfl, Nat.le_of_ble_eq_true rfl⟩ ?_
    refine r_refuse (k := 0) (by decide) (by decide) hM hA (fun f1 M1 hM1 hA1 hF1 => ⟨_, rfl, ?_⟩)
    exact x_ireturn rfl rfl rfl (Nat.le_of_ble_eq_true rfl) (Nat.le_of_ble_eq_true rfl) (h _ _ hM1 hA1 hF1)
theorem r_move (hM : x_Mdl z f M) (hA : r_is M A) (ho : a_ok A) (h : r_ends z f post (s_move A a)) : Y E 9 mX6_move [.ref 59, .int a] z f 0 0 post := by
  refine Y.intro gX6_move (lv := [(0, .ref 59), (1, .int a)]) rfl (Nat.le_of_ble_eq_true rfl) ?_
  obtain ⟨b1, b2, b3, b4, b5, b6, b7, b8, b9⟩ := id hA
  have hmv := ho.2.1
  by_cases d1 : q_in (g_n (a_g A)) a
  · obtain ⟨k, hk, hk2, rfl, hcl⟩ := q_in_k d1
    rw [show s_move A (nI k) = _ from if_pos d1, hcl] at h
    refine x_aload_n (pc' := 1) rfl rfl rfl ?_
    refine x_iload_n (pc' := 2) rfl rfl rfl ?_
    refine x_cV1i (d := 2) (pc' := 5) rfl rfl sX6_103 gX6_isBowl (hM.1) ⟨Nat.le_of_ble_eq_true rfl, Nat.le_of_ble_eq_true rfl⟩ (Nat.le_of_ble_eq_true rfl) ⟨Nat.le_of_ble_eq_true rfl, Nat.le_of_ble_eq_true rfl⟩ ?_
    refine r_bowl hM hA ho (fun _ => ⟨_, rfl, ?_⟩) (fun q => absurd d1 q)
    refine x_if_ne (tgt := 14) (pc' := 8) rfl rfl rfl (fun _ => ?_) (fun c5 => absurd c5 ((by decide)))
    refine x_aload_n (pc' := 15) rfl rfl rfl ?_
    refine x_iload_n (pc' := 16) rfl rfl rfl ?_
    refine x_cV1i (d := 3) (pc' := 19) rfl rfl sX6_135 gX6_canMove (hM.1) ⟨Nat.le_of_ble_eq_true rfl, Nat.le_of_ble_eq_true rfl⟩ (Nat.le_of_ble_eq_true rfl) ⟨Nat.le_of_ble_eq_true rfl, Nat.le_of_ble_eq_true rfl⟩ ?_
    refine m_can1 hM b1 ho.1 (by decide) hk2 (fun d2 => ⟨_, rfl, ?_⟩) (fun d2 => ⟨_, rfl, ?_⟩)
    · rw [if_pos ⟨d2.1, d2.2.2⟩] at h
      refine x_if_ne (tgt := 29) (pc' := 22) rfl rfl rfl (fun _ => ?_) (fun c19 => absurd c19 ((by decide)))
      refine x_aload_n (pc' := 30) rfl rfl rfl ?_
      refine x_get (pc' := 33) rfl rfl rfl (hM.1) rfl ?_
      refine x_eqi b2 ?_
      refine x_sipush (pc' := 36) rfl rfl sipush_999 ?_
      by_cases d3 : a_mv A = 999
      · rw [if_pos d3] at h
        refine x_icmp_ne (tgt := 46) (pc' := 39) rfl rfl rfl (fun q => absurd (show nI (a_mv A) = 999 by rw [d3]; rfl) q) (fun _ => ?_)
        refine x_aload_n (pc' := 40) rfl rfl rfl ?_
        refine x_bipush (pc' := 42) rfl rfl bipush_m6 ?_
        refine x_cV1i (d := 1) (pc' := 45) rfl rfl sX6_110 gX6_refuse (hM.1) ⟨Nat.le_of_ble_eq_true rfl, Nat.le_of_ble_eq_true rfl⟩ (Nat.le_of_ble_eq_true rfl) ⟨Nat.le_of_ble_eq_true rfl, Nat.le_of_ble_eq_true rfl⟩ ?_
        refine r_refuse (k := 5) (by decide) (by decide) hM hA (fun f1 M1 hM1 hA1 hF1 => ⟨_, rfl, ?_⟩)
        exact x_ireturn rfl rfl rfl (Nat.le_of_ble_eq_true rfl) (Nat.le_of_ble_eq_true rfl) (h _ _ hM1 hA1 hF1)
      · rw [if_neg d3] at h
        refine x_icmp_ne (tgt := 46) (pc' := 39) rfl rfl rfl (fun _ => ?_) (fun q => absurd ((nI_eq (a := a_mv A) (b := 999) (by omega) (by decide)).mp q) d3)
        refine x_aload_n (pc' := 47) rfl rfl rfl ?_
        refine x_iload_n (pc' := 48) rfl rfl rfl ?_
        refine x_cV1v (d := 4) (pc' := 51) rfl rfl sX6_141 gX6_moves (hM.1) ⟨Nat.le_of_ble_eq_true rfl, Nat.le_of_ble_eq_true rfl⟩ (Nat.le_of_ble_eq_true rfl) ⟨Nat.le_of_ble_eq_true rfl, Nat.le_of_ble_eq_true rfl⟩ ?_
        refine m_mv hM b1 ho.1 (by decide) d2 b3 (fun f1 M1 hM1 g1 k1 e14 e15 e16 e17 hF1 => ⟨rfl, ?_⟩)
        refine x_aload_n (pc' := 52) rfl rfl rfl ?_
        refine x_dup (pc' := 53) rfl rfl rfl ?_
        refine x_get (pc' := 56) rfl rfl rfl (hM1.1) rfl ?_
        refine x_eqi ((k1.2.2 8 (by decide) (by decide) (by decide) (by decide) (by decide)).trans b2) ?_
        refine x_iconst (pc' := 57) rfl rfl iconst_1 ?_
        refine x_iadd (pc' := 58) rfl rfl ?_
        refine x_eqi (nI_1 _) ?_
        refine x_put (pc' := 61) rfl rfl rfl (hM1.1) (Nat.le_of_ble_eq_true rfl) rfl rfl rfl rfl (fun f1 e1 => ?_)
        have hM2 := hM1.num 8 e1 (x_mFs8 _ _)
        have hF2 := hF1.up e1 (by decide)
        refine x_aload_n (pc' := 62) rfl rfl rfl ?_
        refine x_get (pc' := 65) rfl rfl rfl (hM2.1) rfl ?_
        refine x_eqi e17 ?_
        obtain ⟨c1, c2, c3, c4, c5, c6, c7, c8, c9⟩ := hA.sc (r_sc.rf) b1
        refine x_ireturn rfl rfl rfl (Nat.le_refl _) (Nat.le_refl _) (h _ _ hM2 ⟨g1, rfl, (k1.sc.1 18 (by omega)).trans b3, ?_, (k1.sc.1 11 (by omega)).trans b5, (k1.sc.2 4 (by omega)).trans b6, (k1.sc.1 13 (by omega)).trans b7, (k1.sc.2 5 (by omega)).trans b8, (k1.sc.2 3 (by omega)).trans b9⟩ hF2)
        exact b4.eq (fun i hi => (pk_un (by omega)).trans (k1.sc.1 i (by omega))) (k1.sc.2 9 (by omega)) (k1.sc.2 10 (by omega))
    · rw [if_neg (fun q => d2 ⟨q.1, hk, q.2⟩)] at h
      refine x_if_ne (tgt := 29) (pc' := 22) rfl rfl rfl (fun c19 => absurd (rfl) c19) (fun _ => ?_)
      refine x_aload_n (pc' := 23) rfl rfl rfl ?_
      refine x_bipush (pc' := 25) rfl rfl bipush_m3 ?_
      refine x_cV1i (d := 1) (pc' := 28) rfl rfl sX6_110 gX6_refuse (hM.1) ⟨Nat.le_of_ble_eq_true rfl, Nat.le_of_ble_eq_true rfl⟩ (Nat.le_of_ble_eq_true rfl) ⟨Nat.le_of_ble_eq_true rfl, Nat.le_of_ble_eq_true rfl⟩ ?_
      refine r_refuse (k := 2) (by decide) (by decide) hM hA (fun f1 M1 hM1 hA1 hF1 => ⟨_, rfl, ?_⟩)
      exact x_ireturn rfl rfl rfl (Nat.le_of_ble_eq_true rfl) (Nat.le_of_ble_eq_true rfl) (h _ _ hM1 hA1 hF1)
  · rw [show s_move A a = _ from if_neg d1] at h
    refine x_aload_n (pc' := 1) rfl rfl rfl ?_
    refine x_iload_n (pc' := 2) rfl rfl rfl ?_
    refine x_cV1i (d := 2) (pc' := 5) rfl rfl sX6_103 gX6_isBowl (hM.1) ⟨Nat.le_of_ble_eq_true rfl, Nat.le_of_ble_eq_true rfl⟩ (Nat.le_of_ble_eq_true rfl) ⟨Nat.le_of_ble_eq_true rfl, Nat.le_of_ble_eq_true rfl⟩ ?_
    refine r_bowl hM hA ho (fun q => absurd q d1) (fun _ => ⟨_, rfl, ?_⟩)
    refine x_if_ne (tgt := 14) (pc' := 8) rfl rfl rfl (fun c5 => absurd (rfl) c5) (fun _ => ?_)
    refine x_aload_n (pc' := 9) rfl rfl rfl ?_
    refine x_iconst (pc' := 10) rfl rfl iconst_m1 ?_
    refine x_cV1i (d := 1) (pc' := 13) rfl rfl sX6_110 gX6_refuse (hM.1) ⟨Nat.le_of_ble_eq_true rfl, Nat.le_of_ble_eq_true rfl⟩ (Nat.le_of_ble_eq_true rfl) ⟨Nat.le_of_ble_eq_true rfl, Nat.le_of_ble_eq_true rfl⟩ ?_
    refine r_refuse (k := 0) (by decide) (by decide) hM hA (fun f1 M1 hM1 hA1 hF1 => ⟨_, rfl, ?_⟩)
    exact x_ireturn rfl rfl rfl (Nat.le_of_ble_eq_true rfl) (Nat.le_of_ble_eq_true rfl) (h _ _ hM1 hA1 hF1)
end RA
