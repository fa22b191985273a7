/-! The class's game. -/
theorem q_fa_end {t : Nat → Nat} {L k s : Nat} (h : ¬ s < L) : q_fa t L k s = none := by
  cases k with
  | zero => rfl
  | succ k => exact if_neg h
theorem q_rn_end {t : Nat → Nat} {L k s : Nat} {G : q_G × Nat} (h : ¬ s < L) : q_rn t L k s G = .inr G := by
  cases k with
  | zero => rfl
  | succ k => exact if_neg h
theorem q_ct_end {t : Nat → Nat} {L k s : Nat} (h : ¬ s < L) : q_ct t L k s = 0 := by
  cases k with
  | zero => rfl
  | succ k => exact if_neg h
theorem q_sk_256 {t : Nat → Nat} {s : Nat} (h : t s = 256) : q_sk t s = some s := by
  unfold q_sk
  rw [h]
  exact if_pos rfl
theorem q_ff_some {L p : Nat} {ℓ : Nat → Nat} (h255 : ∀ i, ℓ i ≤ 255) (h : q_sk (q_t L ℓ) 0 = some p) : q_ff L ℓ = some p := by
  unfold q_ff
  by_cases d : L = 0
  · rw [if_pos d]
    rw [q_sk_256 ((q_t_256 h255).mpr (by omega))] at h
    exact h
  · rw [if_neg d]
    obtain ⟨k, rfl⟩ : ∃ k, L = k + 1 := ⟨L - 1, by omega⟩
    unfold q_fa
    rw [if_pos (by omega), h]
theorem q_ff_none {L : Nat} {ℓ : Nat → Nat} (h255 : ∀ i, ℓ i ≤ 255) (h : q_sk (q_t L ℓ) 0 = none) : 0 < L ∧ q_ff L ℓ = q_fa (q_t L ℓ) L (L - 1) (q_ed (q_t L ℓ) 0 + 1) := by
  by_cases d : L = 0
  · rw [q_sk_256 ((q_t_256 h255).mpr (by omega))] at h
    cases h
  · refine ⟨by omega, ?_⟩
    unfold q_ff
    rw [if_neg d]
    obtain ⟨k, rfl⟩ : ∃ k, L = k + 1 := ⟨L - 1, by omega⟩
    rw [q_fa, if_pos (by omega), h, Nat.add_sub_cancel]
theorem q_fa_go {L k s : Nat} {ℓ : Nat → Nat} (hs : s < L) (h : q_fa (q_t L ℓ) L (k + 1) s = none) : q_sk (q_t L ℓ) s = none ∧ q_fa (q_t L ℓ) L k (q_ed (q_t L ℓ) s + 1) = none := by
  unfold q_fa at h
  rw [if_pos hs] at h
  split at h
  · cases h
  · rename_i hh
    exact ⟨hh, h⟩
theorem q_oI_ne {p : Nat} (h : p < 2 ^ 31) : ¬ nI p = -9 := fun q => by
  have h2 := nI_pos h
  rw [q] at h2
  exact h2 (by decide)
section GD
variable {E : x_E} {z : Nat} {f : x_H} {S : x_S} {M : x_N} {A : q_A} {post : Option Value → x_H → Prop} {L : Nat} {ℓ : Nat → Nat} {T : x_T} {g : q_G} {m : Nat}
theorem l_stL (hS : x_Sys z f S) (hL : q_L S L ℓ) (R : Option Nat) (h : post (some (.int (q_oI R))) f) : ∀ (k i s : Nat), 1 ≤ i → i ≤ s → s ≤ L → L ≤ s + k → q_fa (q_t L ℓ) L k s = R → X E (x_rm 5 0 0) mX2_stuckAt (x_QM E z 0 0 post) 4 [(2, .int (nI i)), (1, .int (nI s)), (0, .ref 17)] [] z f 0 0 := by
  have l2 := hL.2.1
  intro k
  induction k with
  | zero =>
    intro i s h1 h2 h3 h4 hR
    have hR2 : none = R := hR
    subst hR2
    refine x_iload_n (pc' := 5) rfl rfl rfl ?_
    refine x_if_eq (tgt := 22) (pc' := 8) rfl rfl rfl (fun c5 => absurd c5 ((nI_ne0 (by omega) (by omega)))) (fun _ => ?_)
    refine x_iload_n (pc' := 9) rfl rfl rfl ?_
    refine x_bipush (pc' := 11) rfl rfl bipush_96 ?_
    refine x_icmp_ge (tgt := 48) (pc' := 14) rfl rfl rfl (fun c11 => ?_) (fun c11 => ?_)
    · refine x_bipush (pc' := 50) rfl rfl bipush_m9 ?_
      exact x_ireturn rfl rfl rfl (Nat.le_of_ble_eq_true rfl) (Nat.le_of_ble_eq_true rfl) (h)
    · refine x_iload_n (pc' := 15) rfl rfl rfl ?_
      refine x_aload_n (pc' := 16) rfl rfl rfl ?_
      refine x_get (pc' := 19) rfl rfl rfl (hS.lt) rfl ?_
      refine x_eqi hL.1 ?_
      refine x_icmp_ge (tgt := 48) (pc' := 22) rfl rfl rfl (fun _ => ?_) (fun c19 => absurd ((nI_le (by omega) (by omega))) c19)
      refine x_bipush (pc' := 50) rfl rfl bipush_m9 ?_
      exact x_ireturn rfl rfl rfl (Nat.le_of_ble_eq_true rfl) (Nat.le_of_ble_eq_true rfl) (h)
  | succ k ih =>
    intro i s h1 h2 h3 h4 hR
    by_cases hs : s < L
    · unfold q_fa at hR
      rw [if_pos hs] at hR
      refine x_iload_n (pc' := 5) rfl rfl rfl ?_
      refine x_if_eq (tgt := 22) (pc' := 8) rfl rfl rfl (fun c5 => absurd c5 ((nI_ne0 (by omega) (by omega)))) (fun _ => ?_)
      refine x_iload_n (pc' := 9) rfl rfl rfl ?_
      refine x_bipush (pc' := 11) rfl rfl bipush_96 ?_
      refine x_icmp_ge (tgt := 48) (pc' := 14) rfl rfl rfl (fun c11 => absurd c11 ((nI_ge (a := i) (b := 96) (by omega) (by decide)))) (fun _ => ?_)
      refine x_iload_n (pc' := 15) rfl rfl rfl ?_
      refine x_aload_n (pc' := 16) rfl rfl rfl ?_
      refine x_get (pc' := 19) rfl rfl rfl (hS.lt) rfl ?_
      refine x_eqi hL.1 ?_
      refine x_icmp_ge (tgt := 48) (pc' := 22) rfl rfl rfl (fun c19 => absurd c19 ((nI_ge hs (by omega)))) (fun _ => ?_)
      refine x_aload_n (pc' := 23) rfl rfl rfl ?_
      refine x_iload_n (pc' := 24) rfl rfl rfl ?_
      refine x_cV1i (d := 4) (pc' := 27) rfl rfl sX2_31 gX2_stuckIn (hS.lt) ⟨Nat.le_of_ble_eq_true rfl, Nat.le_of_ble_eq_true rfl⟩ (Nat.le_of_ble_eq_true rfl) ⟨Nat.le_of_ble_eq_true rfl, Nat.le_of_ble_eq_true rfl⟩ ?_
      refine l_stuckIn hS hL (by omega) ⟨_, rfl, ?_⟩
      refine x_istore_n (pc' := 28) (lv' := [(3, _), (2, _), (1, _), (0, _)]) rfl rfl (Nat.le_of_ble_eq_true rfl) rfl ?_
      refine x_iload_n (pc' := 29) rfl rfl rfl ?_
      refine x_bipush (pc' := 31) rfl rfl bipush_m9 ?_
      cases hsk : q_sk (q_t L ℓ) s with
      | none =>
        rw [hsk] at hR
        refine x_icmp_eq (tgt := 36) (pc' := 34) rfl rfl rfl (fun _ => ?_) (fun q => absurd rfl q)
        refine x_aload_n (pc' := 37) rfl rfl rfl ?_
        refine x_iload_n (pc' := 38) rfl rfl rfl ?_
        refine x_cV1i (d := 2) (pc' := 41) rfl rfl sX2_27 gX2_behindStatement (hS.lt) ⟨Nat.le_of_ble_eq_true rfl, Nat.le_of_ble_eq_true rfl⟩ (Nat.le_of_ble_eq_true rfl) ⟨Nat.le_of_ble_eq_true rfl, Nat.le_of_ble_eq_true rfl⟩ ?_
        refine l_beh hS hL hsk ⟨_, rfl, ?_⟩
        have hel := q_ed_lt hL.2.2.2 hsk
        have heg := q_ed_gt (t := q_t L ℓ) (s := s)
        refine x_istore_n (pc' := 42) (lv' := [(1, _), (3, _), (2, _), (0, _)]) rfl rfl (Nat.le_of_ble_eq_true rfl) rfl ?_
        refine x_iinc (pc' := 45) (lv' := [(2, _), (1, _), (3, _), (0, _)]) rfl rfl (Nat.le_of_ble_eq_true rfl) rfl (nI_1 i) rfl ?_
        refine x_goto (tgt := 4) rfl rfl ?_
        refine x_lvp [0, 1, 3] rfl ?_
        exact ih (i + 1) _ (by omega) (by omega) (by omega) (by omega) hR
      | some p =>
        rw [hsk] at hR
        have hp := q_sk_le hsk
        have hR2 : some p = R := hR
        subst hR2
        refine x_icmp_eq (tgt := 36) (pc' := 34) rfl rfl rfl (fun q => absurd q (q_oI_ne (by omega))) (fun _ => ?_)
        refine x_iload_n (pc' := 35) rfl rfl rfl ?_
        exact x_ireturn rfl rfl rfl (Nat.le_of_ble_eq_true rfl) (Nat.le_of_ble_eq_true rfl) (h)
    · rw [q_fa_end hs] at hR
      subst hR
      refine x_iload_n (pc' := 5) rfl rfl rfl ?_
      refine x_if_eq (tgt := 22) (pc' := 8) rfl rfl rfl (fun c5 => absurd c5 ((nI_ne0 (by omega) (by omega)))) (fun _ => ?_)
      refine x_iload_n (pc' := 9) rfl rfl rfl ?_
      refine x_bipush (pc' := 11) rfl rfl bipush_96 ?_
      refine x_icmp_ge (tgt := 48) (pc' := 14) rfl rfl rfl (fun c11 => ?_) (fun c11 => ?_)
      · refine x_bipush (pc' := 50) rfl rfl bipush_m9 ?_
        exact x_ireturn rfl rfl rfl (Nat.le_of_ble_eq_true rfl) (Nat.le_of_ble_eq_true rfl) (h)
      · refine x_iload_n (pc' := 15) rfl rfl rfl ?_
        refine x_aload_n (pc' := 16) rfl rfl rfl ?_
        refine x_get (pc' := 19) rfl rfl rfl (hS.lt) rfl ?_
        refine x_eqi hL.1 ?_
        refine x_icmp_ge (tgt := 48) (pc' := 22) rfl rfl rfl (fun _ => ?_) (fun c19 => absurd ((nI_le (by omega) (by omega))) c19)
        refine x_bipush (pc' := 50) rfl rfl bipush_m9 ?_
        exact x_ireturn rfl rfl rfl (Nat.le_of_ble_eq_true rfl) (Nat.le_of_ble_eq_true rfl) (h)
theorem l_stuckAt (hS : x_Sys z f S) (hL : q_L S L ℓ) (h : post (some (.int (q_oI (q_ff L ℓ)))) f) : Y E 5 mX2_stuckAt [.ref 17] z f 0 0 post := by
  refine Y.intro gX2_stuckAt (lv := [(0, .ref 17)]) rfl (Nat.le_of_ble_eq_true rfl) ?_
  refine x_iconst (pc' := 1) rfl rfl iconst_0 ?_
  refine x_istore_n (pc' := 2) (lv' := [(1, _), (0, _)]) rfl rfl (Nat.le_of_ble_eq_true rfl) rfl ?_
  refine x_iconst (pc' := 3) rfl rfl iconst_0 ?_
  refine x_istore_n (pc' := 4) (lv' := [(2, _), (1, _), (0, _)]) rfl rfl (Nat.le_of_ble_eq_true rfl) rfl ?_
  refine x_iload_n (pc' := 5) rfl rfl rfl ?_
  refine x_if_eq (tgt := 22) (pc' := 8) rfl rfl rfl (fun _ => ?_) (fun c5 => absurd (rfl) c5)
  refine x_aload_n (pc' := 23) rfl rfl rfl ?_
  refine x_iload_n (pc' := 24) rfl rfl rfl ?_
  refine x_cV1i (d := 4) (pc' := 27) rfl rfl sX2_31 gX2_stuckIn (hS.lt) ⟨Nat.le_of_ble_eq_true rfl, Nat.le_of_ble_eq_true rfl⟩ (Nat.le_of_ble_eq_true rfl) ⟨Nat.le_of_ble_eq_true rfl, Nat.le_of_ble_eq_true rfl⟩ ?_
  refine l_stuckIn (s := 0) hS hL (by decide) ⟨_, rfl, ?_⟩
  refine x_istore_n (pc' := 28) (lv' := [(3, _), (2, _), (1, _), (0, _)]) rfl rfl (Nat.le_of_ble_eq_true rfl) rfl ?_
  refine x_iload_n (pc' := 29) rfl rfl rfl ?_
  refine x_bipush (pc' := 31) rfl rfl bipush_m9 ?_
  cases hsk : q_sk (q_t L ℓ) 0 with
  | none =>
    refine x_icmp_eq (tgt := 36) (pc' := 34) rfl rfl rfl (fun _ => ?_) (fun q => absurd rfl q)
    refine x_aload_n (pc' := 37) rfl rfl rfl ?_
    refine x_iload_n (pc' := 38) rfl rfl rfl ?_
    refine x_cV1i (d := 2) (pc' := 41) rfl rfl sX2_27 gX2_behindStatement (hS.lt) ⟨Nat.le_of_ble_eq_true rfl, Nat.le_of_ble_eq_true rfl⟩ (Nat.le_of_ble_eq_true rfl) ⟨Nat.le_of_ble_eq_true rfl, Nat.le_of_ble_eq_true rfl⟩ ?_
    refine l_beh (s := 0) hS hL hsk ⟨_, rfl, ?_⟩
    have hel := q_ed_lt hL.2.2.2 hsk
    have heg := q_ed_gt (t := q_t L ℓ) (s := 0)
    obtain ⟨u1, u2⟩ := q_ff_none hL.2.2.2 hsk
    refine x_istore_n (pc' := 42) (lv' := [(1, _), (3, _), (2, _), (0, _)]) rfl rfl (Nat.le_of_ble_eq_true rfl) rfl ?_
    refine x_iinc (pc' := 45) (lv' := [(2, _), (1, _), (3, _), (0, _)]) rfl rfl (Nat.le_of_ble_eq_true rfl) rfl (nI_1 0) rfl ?_
    refine x_goto (tgt := 4) rfl rfl ?_
    refine x_lvp [0, 1, 3] rfl ?_
    exact l_stL hS hL _ h (L - 1) (0 + 1) _ (by omega) (by omega) (by omega) (by omega) u2.symm
  | some p =>
    rw [q_ff_some hL.2.2.2 hsk] at h
    have hp := q_sk_le hsk
    refine x_icmp_eq (tgt := 36) (pc' := 34) rfl rfl rfl (fun q => absurd q (q_oI_ne (by omega))) (fun _ => ?_)
    refine x_iload_n (pc' := 35) rfl rfl rfl ?_
    exact x_ireturn rfl rfl rfl (Nat.le_of_ble_eq_true rfl) (Nat.le_of_ble_eq_true rfl) (h)
theorem l_plL {S0 : x_S} {v2 : Int32} (hL : q_L S0 L ℓ) (f0 : x_H) (N : Nat) (R : Nat ⊕ (q_G × Nat)) (k1 : ∀ G, R = .inr G → ∀ (f' : x_H) (T' : x_T), c_tb z f' S0 T' G → x_fr (fun q => 59 ≤ q) f0 f' → post (some (.int (nI N))) f') (k0 : ∀ p, R = .inl p → ∀ (f' : x_H) (T' : x_T), c_tx z f' S0 T' → x_fr (fun q => 59 ≤ q) f0 f' → post (some (.int (-2000 - nI p))) f') : ∀ (k c s : Nat) (G : q_G × Nat) (f : x_H) (T : x_T), c ≤ s → s ≤ L → L ≤ s + k → q_fa (q_t L ℓ) L k s = none → q_rn (q_t L ℓ) L k s G = R → c + q_ct (q_t L ℓ) L k s = N → c_tb z f S0 T G → x_fr (fun q => 59 ≤ q) f0 f → X E (x_rm 7 0 0) mX2_playOn (x_QM E z 0 0 post) 22 [(4, .int (nI c)), (3, .int (nI s)), (2, .int v2), (0, .ref 17), (1, .ref 9)] [] z f 0 0 := by
  have l2 := hL.2.1
  intro k
  induction k with
  | zero =>
    intro c s G f T h1 h2 h3 h4 hR hN hC hF
    have hR2 : .inr G = R := hR
    have hN2 : c + 0 = N := hN
    rw [Nat.add_zero] at hN2
    subst hN2
    have hS : x_Sys z f (S0.1, x_ut S0.2.1 2 T, S0.2.2.1, S0.2.2.2) := hC.1
    refine x_iload_n (pc' := 23) rfl rfl rfl ?_
    refine x_aload_n (pc' := 24) rfl rfl rfl ?_
    refine x_get (pc' := 27) rfl rfl rfl (hS.lt) rfl ?_
    refine x_eqi hL.1 ?_
    refine x_icmp_ge (tgt := 64) (pc' := 30) rfl rfl rfl (fun _ => ?_) (fun c27 => absurd ((nI_le (by omega) (by omega))) c27)
    refine x_iload (pc' := 66) rfl rfl rfl ?_
    exact x_ireturn rfl rfl rfl (Nat.le_of_ble_eq_true rfl) (Nat.le_of_ble_eq_true rfl) (k1 G hR2.symm _ _ hC hF)
  | succ k ih =>
    intro c s G f T h1 h2 h3 h4 hR hN hC hF
    have hS : x_Sys z f (S0.1, x_ut S0.2.1 2 T, S0.2.2.1, S0.2.2.2) := hC.1
    by_cases hs : s < L
    · obtain ⟨hsk, h5⟩ := q_fa_go hs h4
      unfold q_rn at hR
      rw [if_pos hs] at hR
      unfold q_ct at hN
      rw [if_pos hs] at hN
      have hel := q_ed_lt hL.2.2.2 hsk
      have heg := q_ed_gt (t := q_t L ℓ) (s := s)
      refine x_iload_n (pc' := 23) rfl rfl rfl ?_
      refine x_aload_n (pc' := 24) rfl rfl rfl ?_
      refine x_get (pc' := 27) rfl rfl rfl (hS.lt) rfl ?_
      refine x_eqi hL.1 ?_
      refine x_icmp_ge (tgt := 64) (pc' := 30) rfl rfl rfl (fun c27 => absurd c27 ((nI_ge hs (by omega)))) (fun _ => ?_)
      refine x_iload (pc' := 32) rfl rfl rfl ?_
      refine x_bipush (pc' := 34) rfl rfl bipush_96 ?_
      refine x_icmp_ge (tgt := 64) (pc' := 37) rfl rfl rfl (fun c34 => absurd c34 ((nI_ge (a := c) (b := 96) (by omega) (by decide)))) (fun _ => ?_)
      refine x_aload_n (pc' := 38) rfl rfl rfl ?_
      refine x_iload_n (pc' := 39) rfl rfl rfl ?_
      refine x_aload_n (pc' := 40) rfl rfl rfl ?_
      refine x_cV2i (d := 6) (pc' := 43) rfl rfl sX2_23 gX2_apply (hS.lt) ⟨Nat.le_of_ble_eq_true rfl, Nat.le_of_ble_eq_true rfl⟩ (Nat.le_of_ble_eq_true rfl) ⟨Nat.le_of_ble_eq_true rfl, Nat.le_of_ble_eq_true rfl⟩ ?_
      refine l_apply hC hL hs hsk (fun G' e9 f9 T9 hC9 hF9 => ⟨_, rfl, ?_⟩) (fun e9 f9 T9 hX9 hF9 => ⟨_, rfl, ?_⟩)
      · rw [e9] at hR
        have hS9 : x_Sys z f9 (S0.1, x_ut S0.2.1 2 T9, S0.2.2.1, S0.2.2.2) := hC9.1
        refine x_if_ne (tgt := 52) (pc' := 46) rfl rfl rfl (fun _ => ?_) (fun c43 => absurd c43 ((by decide)))
        refine x_aload_n (pc' := 53) rfl rfl rfl ?_
        refine x_iload_n (pc' := 54) rfl rfl rfl ?_
        refine x_cV1i (d := 2) (pc' := 57) rfl rfl sX2_27 gX2_behindStatement (hS9.lt) ⟨Nat.le_of_ble_eq_true rfl, Nat.le_of_ble_eq_true rfl⟩ (Nat.le_of_ble_eq_true rfl) ⟨Nat.le_of_ble_eq_true rfl, Nat.le_of_ble_eq_true rfl⟩ ?_
        refine l_beh hS9 hL hsk ⟨_, rfl, ?_⟩
        refine x_istore_n (pc' := 58) (lv' := [(3, _), (4, _), (2, _), (0, _), (1, _)]) rfl rfl (Nat.le_of_ble_eq_true rfl) rfl ?_
        refine x_iinc (pc' := 61) (lv' := [(4, _), (3, _), (2, _), (0, _), (1, _)]) rfl rfl (Nat.le_of_ble_eq_true rfl) rfl (nI_1 c) rfl ?_
        refine x_goto (tgt := 22) rfl rfl ?_
        exact ih (c + 1) _ G' f9 T9 (by omega) (by omega) (by omega) h5 hR (by omega) hC9 (hF.trans hF9)
      · rw [e9] at hR
        refine x_if_ne (tgt := 52) (pc' := 46) rfl rfl rfl (fun c43 => absurd (rfl) c43) (fun _ => ?_)
        refine x_sipush (pc' := 49) rfl rfl sipush_m2000 ?_
        refine x_iload_n (pc' := 50) rfl rfl rfl ?_
        refine x_isub (pc' := 51) rfl rfl ?_
        exact x_ireturn rfl rfl rfl (Nat.le_of_ble_eq_true rfl) (Nat.le_of_ble_eq_true rfl) (k0 s hR.symm _ _ hX9 (hF.trans hF9))
    · rw [q_rn_end hs] at hR
      rw [q_ct_end hs, Nat.add_zero] at hN
      subst hN
      refine x_iload_n (pc' := 23) rfl rfl rfl ?_
      refine x_aload_n (pc' := 24) rfl rfl rfl ?_
      refine x_get (pc' := 27) rfl rfl rfl (hS.lt) rfl ?_
      refine x_eqi hL.1 ?_
      refine x_icmp_ge (tgt := 64) (pc' := 30) rfl rfl rfl (fun _ => ?_) (fun c27 => absurd ((nI_le (by omega) (by omega))) c27)
      refine x_iload (pc' := 66) rfl rfl rfl ?_
      exact x_ireturn rfl rfl rfl (Nat.le_of_ble_eq_true rfl) (Nat.le_of_ble_eq_true rfl) (k1 G hR.symm _ _ hC hF)
theorem l_playOn {S0 : x_S} {G : q_G × Nat} (hC : c_tb z f S0 T G) (hL : q_L S0 L ℓ) (h1 : ∀ p, q_ff L ℓ = some p → post (some (.int (-1000 - nI p))) f) (k1 : ∀ G', q_ff L ℓ = none → q_rn (q_t L ℓ) L L 0 G = .inr G' → ∀ (f' : x_H) (T' : x_T), c_tb z f' S0 T' G' → x_fr (fun q => 59 ≤ q) f f' → post (some (.int (nI (q_ct (q_t L ℓ) L L 0)))) f') (k0 : ∀ p, q_ff L ℓ = none → q_rn (q_t L ℓ) L L 0 G = .inl p → ∀ (f' : x_H) (T' : x_T), c_tx z f' S0 T' → x_fr (fun q => 59 ≤ q) f f' → post (some (.int (-2000 - nI p))) f') : Y E 7 mX2_playOn [.ref 17, .ref 9] z f 0 0 post := by
  refine Y.intro gX2_playOn (lv := [(0, .ref 17), (1, .ref 9)]) rfl (Nat.le_of_ble_eq_true rfl) ?_
  have hS : x_Sys z f (S0.1, x_ut S0.2.1 2 T, S0.2.2.1, S0.2.2.2) := hC.1
  have hL' : q_L (S0.1, x_ut S0.2.1 2 T, S0.2.2.1, S0.2.2.2) L ℓ := hL
  have l2 := hL.2.1
  refine x_aload_n (pc' := 1) rfl rfl rfl ?_
  refine x_cV0i (d := 5) (pc' := 4) rfl rfl sX2_19 gX2_stuckAt (hS.lt) ⟨Nat.le_of_ble_eq_true rfl, Nat.le_of_ble_eq_true rfl⟩ (Nat.le_of_ble_eq_true rfl) ⟨Nat.le_of_ble_eq_true rfl, Nat.le_of_ble_eq_true rfl⟩ ?_
  refine l_stuckAt hS hL' ⟨_, rfl, ?_⟩
  refine x_istore_n (pc' := 5) (lv' := [(2, _), (0, _), (1, _)]) rfl rfl (Nat.le_of_ble_eq_true rfl) rfl ?_
  refine x_iload_n (pc' := 6) rfl rfl rfl ?_
  refine x_bipush (pc' := 8) rfl rfl bipush_m9 ?_
  cases hff : q_ff L ℓ with
  | none =>
    refine x_icmp_eq (tgt := 17) (pc' := 11) rfl rfl rfl (fun _ => ?_) (fun q => absurd rfl q)
    refine x_iconst (pc' := 18) rfl rfl iconst_0 ?_
    refine x_istore_n (pc' := 19) (lv' := [(3, _), (2, _), (0, _), (1, _)]) rfl rfl (Nat.le_of_ble_eq_true rfl) rfl ?_
    refine x_iconst (pc' := 20) rfl rfl iconst_0 ?_
    refine x_istore (pc' := 22) (lv' := [(4, _), (3, _), (2, _), (0, _), (1, _)]) rfl rfl (Nat.le_of_ble_eq_true rfl) rfl ?_
    have hL0 : ¬ L = 0 := fun q => by unfold q_ff at hff; rw [if_pos q] at hff; cases hff
    have hfa : q_fa (q_t L ℓ) L L 0 = none := by
      unfold q_ff at hff
      rw [if_neg hL0] at hff
      exact hff
    exact l_plL hL f _ _ (fun G' e => k1 G' hff e) (fun p e => k0 p hff e) L 0 0 G f T (Nat.le_refl _) (Nat.zero_le _) (by omega) hfa rfl (Nat.zero_add _) hC x_fr.rf
  | some p =>
    have hp := q_ff_le hL.2.2.2 hff
    refine x_icmp_eq (tgt := 17) (pc' := 11) rfl rfl rfl (fun q => absurd q (q_oI_ne (by omega))) (fun _ => ?_)
    refine x_sipush (pc' := 14) rfl rfl sipush_m1000 ?_
    refine x_iload_n (pc' := 15) rfl rfl rfl ?_
    refine x_isub (pc' := 16) rfl rfl ?_
    exact x_ireturn rfl rfl rfl (Nat.le_of_ble_eq_true rfl) (Nat.le_of_ble_eq_true rfl) (h1 p hff)
theorem c_game (hS : x_Sys z f S) (hA : c_is S A) (ho : a_ok A) (h : c_ends z f post (s_game A)) : Y E 9 mX5_game [.ref 0] z f 0 0 post := by
  refine Y.intro gX5_game (lv := [(0, .ref 0)]) rfl (Nat.le_of_ble_eq_true rfl) ?_
  obtain ⟨b1, b2, b3, b4, b5, b6, b7, b8⟩ := id hA
  have hT := hS.2.1 0 (by decide)
  have hL : q_L S (a_lc A) (a_lf A) := ⟨b4, ho.2.2.2.1, b5, ho.2.2.2.2.1⟩
  have hlc := ho.2.2.2.1
  unfold s_game at h
  refine x_aload_n (pc' := 1) rfl rfl rfl ?_
  refine x_get (pc' := 4) rfl rfl rfl (hS.1) rfl ?_
  refine x_aload_n (pc' := 5) rfl rfl rfl ?_
  refine x_get (pc' := 8) rfl rfl rfl (hS.1) rfl ?_
  refine x_cV1v (d := 1) (pc' := 11) rfl rfl sX5_79 gX3_copyFrom ((hS.2.1 2 (by decide)).1) ⟨Nat.le_of_ble_eq_true rfl, Nat.le_of_ble_eq_true rfl⟩ (Nat.le_of_ble_eq_true rfl) ⟨Nat.le_of_ble_eq_true rfl, Nat.le_of_ble_eq_true rfl⟩ ?_
  refine w_copyFrom (hS.2.1 2 (by decide)) hT (by decide) (fun f1 hT1 hF1 => ⟨rfl, ?_⟩)
  have hS1 := hS.tab 2 (by decide) hT1 hF1
  have hC1 : c_tb z f1 S (x_cp (S.2.1 2) (S.2.1 0)) A.1 := ⟨hS1, x_cp_is b1, b2, ho.1, ho.2.1⟩
  have hF1' : x_fr (fun q => 59 ≤ q) f f1 := c_fr0 (j := 2) (by decide) hF1
  refine x_aload_n (pc' := 12) rfl rfl rfl ?_
  refine x_get (pc' := 15) rfl rfl rfl (hS1.1) rfl ?_
  refine x_aload_n (pc' := 16) rfl rfl rfl ?_
  refine x_get (pc' := 19) rfl rfl rfl (hS1.1) rfl ?_
  refine x_cV1i (d := 7) (pc' := 22) rfl rfl sX5_83 gX2_playOn (hS1.lt) ⟨Nat.le_of_ble_eq_true rfl, Nat.le_of_ble_eq_true rfl⟩ (Nat.le_of_ble_eq_true rfl) ⟨Nat.le_of_ble_eq_true rfl, Nat.le_of_ble_eq_true rfl⟩ ?_
  refine l_playOn hC1 hL (fun p hff => ⟨_, rfl, ?_⟩) (fun G' hff hrn f2 T2 hC2 hF2 => ⟨_, rfl, ?_⟩) (fun p hff hrn f2 T2 hX2 hF2 => ⟨_, rfl, ?_⟩)
  · rw [hff] at h
    have hp := q_ff_le hL.2.2.2 hff
    have hng := q_neg1 p (by omega)
    refine x_istore_n (pc' := 23) (lv' := [(1, _), (0, _)]) rfl rfl (Nat.le_of_ble_eq_true rfl) rfl ?_
    refine x_aload_n (pc' := 24) rfl rfl rfl ?_
    refine x_get (pc' := 27) rfl rfl rfl (hS1.1) rfl ?_
    refine x_cV0v (d := 1) (pc' := 30) rfl rfl sX5_87 gX2_clear (hS1.lt) ⟨Nat.le_of_ble_eq_true rfl, Nat.le_of_ble_eq_true rfl⟩ (Nat.le_of_ble_eq_true rfl) ⟨Nat.le_of_ble_eq_true rfl, Nat.le_of_ble_eq_true rfl⟩ ?_
    refine w_clear hS1 (fun f3 hS3 hF3 => ⟨rfl, ?_⟩)
    refine x_iload_n (pc' := 31) rfl rfl rfl ?_
    refine x_if_lt (tgt := 45) (pc' := 34) rfl rfl rfl (fun _ => ?_) (fun c31 => absurd (hng) c31)
    refine x_iload_n (pc' := 46) rfl rfl rfl ?_
    exact x_ireturn rfl rfl rfl (Nat.le_of_ble_eq_true rfl) (Nat.le_of_ble_eq_true rfl) (h _ _ hS3 ⟨b1, b2, b3, rfl, b5, b6, b7, b8⟩ (hF1'.trans hF3))
  · rw [hff, hrn] at h
    have hct := q_ct_le (t := q_t (a_lc A) (a_lf A)) (L := a_lc A) (a_lc A) 0
    have hS2 : x_Sys z f2 (S.1, x_ut S.2.1 2 T2, S.2.2.1, S.2.2.2) := hC2.1
    refine x_istore_n (pc' := 23) (lv' := [(1, _), (0, _)]) rfl rfl (Nat.le_of_ble_eq_true rfl) rfl ?_
    refine x_aload_n (pc' := 24) rfl rfl rfl ?_
    refine x_get (pc' := 27) rfl rfl rfl (hS2.1) rfl ?_
    refine x_cV0v (d := 1) (pc' := 30) rfl rfl sX5_87 gX2_clear (hS2.lt) ⟨Nat.le_of_ble_eq_true rfl, Nat.le_of_ble_eq_true rfl⟩ (Nat.le_of_ble_eq_true rfl) ⟨Nat.le_of_ble_eq_true rfl, Nat.le_of_ble_eq_true rfl⟩ ?_
    refine w_clear hS2 (fun f3 hS3 hF3 => ⟨rfl, ?_⟩)
    have hT3 : x_t z f3 9 T2 := hS3.2.1 2 (by decide)
    have hT03 : x_t z f3 1 (S.2.1 0) := hS3.2.1 0 (by decide)
    refine x_iload_n (pc' := 31) rfl rfl rfl ?_
    refine x_if_lt (tgt := 45) (pc' := 34) rfl rfl rfl (fun c31 => absurd c31 (nI_pos (by omega))) (fun _ => ?_)
    refine x_aload_n (pc' := 35) rfl rfl rfl ?_
    refine x_get (pc' := 38) rfl rfl rfl (hS3.1) rfl ?_
    refine x_aload_n (pc' := 39) rfl rfl rfl ?_
    refine x_get (pc' := 42) rfl rfl rfl (hS3.1) rfl ?_
    refine x_cV1v (d := 1) (pc' := 45) rfl rfl sX5_79 gX3_copyFrom (hT03.1) ⟨Nat.le_of_ble_eq_true rfl, Nat.le_of_ble_eq_true rfl⟩ (Nat.le_of_ble_eq_true rfl) ⟨Nat.le_of_ble_eq_true rfl, Nat.le_of_ble_eq_true rfl⟩ ?_
    refine w_copyFrom hT03 hT3 (by decide) (fun f4 hT4 hF4 => ⟨rfl, ?_⟩)
    have hS4 := hS3.tab 0 (by decide) hT4 hF4
    refine x_iload_n (pc' := 46) rfl rfl rfl ?_
    exact x_ireturn rfl rfl rfl (Nat.le_of_ble_eq_true rfl) (Nat.le_of_ble_eq_true rfl) (h _ _ hS4 ⟨x_cp_is hC2.2.1, hC2.2.2.1, b3, rfl, b5, b6, b7, b8⟩ (((hF1'.trans hF2).trans hF3).trans (c_fr0 (j := 0) (by decide) hF4)))
  · rw [hff, hrn] at h
    have hp := q_rn_le (t := q_t (a_lc A) (a_lf A)) _ _ _ _ hrn
    have hng := q_neg2 p (by omega)
    have hS2 : x_Sys z f2 (S.1, x_ut S.2.1 2 T2, S.2.2.1, S.2.2.2) := hX2
    refine x_istore_n (pc' := 23) (lv' := [(1, _), (0, _)]) rfl rfl (Nat.le_of_ble_eq_true rfl) rfl ?_
    refine x_aload_n (pc' := 24) rfl rfl rfl ?_
    refine x_get (pc' := 27) rfl rfl rfl (hS2.1) rfl ?_
    refine x_cV0v (d := 1) (pc' := 30) rfl rfl sX5_87 gX2_clear (hS2.lt) ⟨Nat.le_of_ble_eq_true rfl, Nat.le_of_ble_eq_true rfl⟩ (Nat.le_of_ble_eq_true rfl) ⟨Nat.le_of_ble_eq_true rfl, Nat.le_of_ble_eq_true rfl⟩ ?_
    refine w_clear hS2 (fun f3 hS3 hF3 => ⟨rfl, ?_⟩)
    refine x_iload_n (pc' := 31) rfl rfl rfl ?_
    refine x_if_lt (tgt := 45) (pc' := 34) rfl rfl rfl (fun _ => ?_) (fun c31 => absurd (hng) c31)
    refine x_iload_n (pc' := 46) rfl rfl rfl ?_
    exact x_ireturn rfl rfl rfl (Nat.le_of_ble_eq_true rfl) (Nat.le_of_ble_eq_true rfl) (h _ _ hS3 ⟨b1, b2, b3, rfl, b5, b6, b7, b8⟩ ((hF1'.trans hF2).trans hF3))
end GD
