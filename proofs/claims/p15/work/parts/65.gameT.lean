/-! The reference's game. -/
section GT
variable {E : x_E} {z : Nat} {f : x_H} {M M0 : x_N} {A : q_A} {post : Option Value → x_H → Prop} {L : Nat} {ℓ : Nat → Nat} {g : q_G} {G : q_G × Nat} {m : Nat}
theorem r_gmF {p : Nat} {c s : Int32} (hM : x_Mdl z f M) (h20 : M.1 20 = nI p) (hp : p < 2 ^ 31) (h : ∀ f' : x_H, x_Mdl z f' (upd M.1 11 0, M.2.1, M.2.2) → x_fr (fun q => q < 59) f f' → post (some (.int (-1000 - nI p))) f') : X E (x_rm 9 0 0) mX6_game (x_QM E z 0 0 post) 9 [(2, .int c), (1, .int s), (0, .ref 59)] [] z f 0 0 := by
  refine x_aload_n (pc' := 10) rfl rfl rfl ?_
  refine x_get (pc' := 13) rfl rfl rfl (hM.1) rfl ?_
  refine x_eqi h20 ?_
  refine x_if_ge (tgt := 40) (pc' := 16) rfl rfl rfl (fun _ => ?_) (fun c13 => absurd ((nI_pos' hp)) c13)
  refine x_aload_n (pc' := 41) rfl rfl rfl ?_
  refine x_get (pc' := 44) rfl rfl rfl (hM.1) rfl ?_
  refine x_eqi h20 ?_
  refine x_if_lt (tgt := 61) (pc' := 47) rfl rfl rfl (fun c44 => absurd c44 ((nI_pos hp))) (fun _ => ?_)
  refine x_aload_n (pc' := 48) rfl rfl rfl ?_
  refine x_iconst (pc' := 49) rfl rfl iconst_0 ?_
  refine x_put (pc' := 52) rfl rfl rfl (hM.1) (Nat.le_of_ble_eq_true rfl) rfl rfl rfl rfl (fun f1 e1 => ?_)
  have hM1 := hM.num 11 e1 (x_mFs11 _ _)
  have hF1 := r_fr0 e1 (by decide)
  refine x_sipush (pc' := 55) rfl rfl sipush_m1000 ?_
  refine x_aload_n (pc' := 56) rfl rfl rfl ?_
  refine x_get (pc' := 59) rfl rfl rfl (hM1.1) rfl ?_
  refine x_eqi (show upd M.1 11 0 20 = nI p from (pk_un (by decide)).trans h20) ?_
  refine x_isub (pc' := 60) rfl rfl ?_
  exact x_ireturn rfl rfl rfl (Nat.le_of_ble_eq_true rfl) (Nat.le_of_ble_eq_true rfl) (h _ hM1 hF1)
theorem r_gm1 {N : Nat} (hM : x_Mdl z f M) (hL : q_M M L ℓ) (h20 : M.1 20 = -1) (R : Option Nat) (hR5 : ∀ p, R = some p → p < 2 ^ 31) (kf : ∀ p, R = some p → ∀ f' : x_H, x_Mdl z f' (upd (upd M.1 20 (nI p)) 11 0, M.2.1, M.2.2) → x_fr (fun q => q < 59) f f' → post (some (.int (-1000 - nI p))) f') (kn : R = none → X E (x_rm 9 0 0) mX6_game (x_QM E z 0 0 post) 61 [(2, .int (nI N)), (1, .int (nI L)), (0, .ref 59)] [] z f 0 0) : ∀ (k c s : Nat), 1 ≤ c → c ≤ s → s ≤ L → L ≤ s + k → q_fa (q_t L ℓ) L k s = R → (R = none → c + q_ct (q_t L ℓ) L k s = N) → X E (x_rm 9 0 0) mX6_game (x_QM E z 0 0 post) 9 [(2, .int (nI c)), (1, .int (nI s)), (0, .ref 59)] [] z f 0 0 := by
  have l2 := hL.2.1
  have fin : ∀ (c s : Nat), 1 ≤ c → c ≤ s → s = L → R = none → c = N → X E (x_rm 9 0 0) mX6_game (x_QM E z 0 0 post) 9 [(2, .int (nI c)), (1, .int (nI s)), (0, .ref 59)] [] z f 0 0 := by
    intro c s h1 h2 h3 h4 h5
    subst h3
    subst h5
    refine x_aload_n (pc' := 10) rfl rfl rfl ?_
    refine x_get (pc' := 13) rfl rfl rfl (hM.1) rfl ?_
    refine x_eqi h20 ?_
    refine x_if_ge (tgt := 40) (pc' := 16) rfl rfl rfl (fun c13 => absurd c13 ((by decide))) (fun _ => ?_)
    refine x_iload_n (pc' := 17) rfl rfl rfl ?_
    refine x_aload_n (pc' := 18) rfl rfl rfl ?_
    refine x_get (pc' := 21) rfl rfl rfl (hM.1) rfl ?_
    refine x_eqi hL.1 ?_
    refine x_icmp_lt (tgt := 28) (pc' := 24) rfl rfl rfl (fun c21 => absurd c21 (Int32.lt_irrefl)) (fun _ => ?_)
    refine x_iload_n (pc' := 25) rfl rfl rfl ?_
    refine x_if_ne (tgt := 40) (pc' := 28) rfl rfl rfl (fun _ => ?_) (fun c25 => absurd c25 ((nI_ne0 (by omega) (by omega))))
    refine x_aload_n (pc' := 41) rfl rfl rfl ?_
    refine x_get (pc' := 44) rfl rfl rfl (hM.1) rfl ?_
    refine x_eqi h20 ?_
    refine x_if_lt (tgt := 61) (pc' := 47) rfl rfl rfl (fun _ => ?_) (fun c44 => absurd ((by decide)) c44)
    exact kn h4
  intro k
  induction k with
  | zero =>
    intro c s h1 h2 h3 h4 hR hN
    have hR2 : R = none := hR.symm
    have hN2 : c + 0 = N := hN hR2
    exact fin c s h1 h2 (by omega) hR2 (by omega)
  | succ k ih =>
    intro c s h1 h2 h3 h4 hR hN
    by_cases hs : s < L
    · unfold q_fa at hR
      rw [if_pos hs] at hR
      unfold q_ct at hN
      rw [if_pos hs] at hN
      refine x_aload_n (pc' := 10) rfl rfl rfl ?_
      refine x_get (pc' := 13) rfl rfl rfl (hM.1) rfl ?_
      refine x_eqi h20 ?_
      refine x_if_ge (tgt := 40) (pc' := 16) rfl rfl rfl (fun c13 => absurd c13 ((by decide))) (fun _ => ?_)
      refine x_iload_n (pc' := 17) rfl rfl rfl ?_
      refine x_aload_n (pc' := 18) rfl rfl rfl ?_
      refine x_get (pc' := 21) rfl rfl rfl (hM.1) rfl ?_
      refine x_eqi hL.1 ?_
      refine x_icmp_lt (tgt := 28) (pc' := 24) rfl rfl rfl (fun _ => ?_) (fun c21 => absurd ((nI_lt hs (by omega))) c21)
      refine x_aload_n (pc' := 29) rfl rfl rfl ?_
      refine x_iload_n (pc' := 30) rfl rfl rfl ?_
      refine x_cV1i (d := 4) (pc' := 33) rfl rfl sX6_151 gX6_passes (hM.1) ⟨Nat.le_of_ble_eq_true rfl, Nat.le_of_ble_eq_true rfl⟩ (Nat.le_of_ble_eq_true rfl) ⟨Nat.le_of_ble_eq_true rfl, Nat.le_of_ble_eq_true rfl⟩ ?_
      refine m_passes hM hL (by omega) (fun p hsk f1 r hM1 hF1 => ⟨_, rfl, ?_⟩) (fun hsk => ⟨_, rfl, ?_⟩)
      · rw [hsk] at hR
        have hR2 : R = some p := hR.symm
        refine x_istore_n (pc' := 34) (lv' := [(1, _), (2, _), (0, _)]) rfl rfl (Nat.le_of_ble_eq_true rfl) rfl ?_
        refine x_iinc (pc' := 37) (lv' := [(2, _), (1, _), (0, _)]) rfl rfl (Nat.le_of_ble_eq_true rfl) rfl (nI_1 c) rfl ?_
        refine x_goto (tgt := 9) rfl rfl ?_
        exact r_gmF hM1 rfl (hR5 p hR2) (fun f2 hM2 hF2 => kf p hR2 f2 hM2 (hF1.trans hF2))
      · rw [hsk] at hR
        have hel := q_ed_lt hL.2.2.2 hsk
        have heg := q_ed_gt (t := q_t L ℓ) (s := s)
        refine x_istore_n (pc' := 34) (lv' := [(1, _), (2, _), (0, _)]) rfl rfl (Nat.le_of_ble_eq_true rfl) rfl ?_
        refine x_iinc (pc' := 37) (lv' := [(2, _), (1, _), (0, _)]) rfl rfl (Nat.le_of_ble_eq_true rfl) rfl (nI_1 c) rfl ?_
        refine x_goto (tgt := 9) rfl rfl ?_
        exact ih (c + 1) _ (by omega) (by omega) (by omega) (by omega) hR (fun q => by have := hN q; omega)
    · rw [q_fa_end hs] at hR
      have hR2 : R = none := hR.symm
      have hN2 := hN hR2
      rw [q_ct_end hs] at hN2
      exact fin c s h1 h2 (by omega) hR2 (by omega)
theorem r_gmK {a b : Int32} (f0 : x_H) (M0 : x_N) (K : ∀ f' : x_H, x_Mdl z f' (M0.1, x_ua M0.2.1 7 (x_cpk 9 (M0.2.1 0) (M0.2.1 7)), M0.2.2) → x_fr (fun q => q < 59) f0 f' → X E (x_rm 9 0 0) mX6_game (x_QM E z 0 0 post) 93 [(3, .int (nI 9)), (2, .int a), (1, .int b), (0, .ref 59)] [] z f' 0 0) : ∀ (k i : Nat) (f : x_H), i + k = 9 → x_Mdl z f (M0.1, x_ua M0.2.1 7 (x_cpk i (M0.2.1 0) (M0.2.1 7)), M0.2.2) → x_fr (fun q => q < 59) f0 f → X E (x_rm 9 0 0) mX6_game (x_QM E z 0 0 post) 69 [(3, .int (nI i)), (2, .int a), (1, .int b), (0, .ref 59)] [] z f 0 0 := by
  intro k
  induction k with
  | zero =>
    intro i f hi hM hF
    have hi2 : i = 9 := by omega
    subst hi2
    refine x_iload_n (pc' := 70) rfl rfl rfl ?_
    refine x_bipush (pc' := 72) rfl rfl bipush_9 ?_
    refine x_icmp_ge (tgt := 93) (pc' := 75) rfl rfl rfl (fun _ => ?_) (fun c72 => absurd ((by decide : (9 : Int32) ≤ nI 9)) c72)
    exact K _ hM hF
  | succ k ih =>
    intro i f hi hM hF
    have hcl : (nI i).toNatClampNeg = i := nI_clamp (by omega)
    refine x_iload_n (pc' := 70) rfl rfl rfl ?_
    refine x_bipush (pc' := 72) rfl rfl bipush_9 ?_
    refine x_icmp_ge (tgt := 93) (pc' := 75) rfl rfl rfl (fun c72 => absurd c72 ((nI_ge (a := i) (b := 9) (by omega) (by decide)))) (fun _ => ?_)
    refine x_aload_n (pc' := 76) rfl rfl rfl ?_
    refine x_get (pc' := 79) rfl rfl rfl (hM.1) rfl ?_
    refine x_iload_n (pc' := 80) rfl rfl rfl ?_
    refine x_aload_n (pc' := 81) rfl rfl rfl ?_
    refine x_get (pc' := 84) rfl rfl rfl (hM.1) rfl ?_
    refine x_iload_n (pc' := 85) rfl rfl rfl ?_
    refine x_iaload (pc' := 86) rfl rfl (hM.2.1 0 (by decide)) (vp_in_nI (n := i) (N := 9) (by omega) (by decide)) ?_
    refine x_eqi (show M0.2.1 0 (nI i).toNatClampNeg = M0.2.1 0 i from by rw [hcl]) ?_
    refine x_iastore (pc' := 87) rfl rfl (hM.2.1 7 (by decide)) (vp_in_nI (n := i) (N := 9) (by omega) (by decide)) (fun f1 e1 => ?_)
    have hM1 := hM.arr 7 (by decide) e1
    have hF1 := hF.up e1 (by decide)
    refine x_iinc (pc' := 90) (lv' := [(3, _), (2, _), (1, _), (0, _)]) rfl rfl (Nat.le_of_ble_eq_true rfl) rfl (nI_1 i) rfl ?_
    refine x_goto (tgt := 69) rfl rfl ?_
    refine ih (i + 1) _ (by omega) ?_ hF1
    have e9 : x_ua (x_ua M0.2.1 7 (x_cpk i (M0.2.1 0) (M0.2.1 7))) 7 (upd (x_cpk i (M0.2.1 0) (M0.2.1 7)) (nI i).toNatClampNeg (M0.2.1 0 i)) = x_ua M0.2.1 7 (x_cpk (i + 1) (M0.2.1 0) (M0.2.1 7)) := by rw [x_ua_ua, hcl, x_cpk_s]
    rw [← e9]
    exact hM1
theorem r_gmR {a1 a2 a3 a4 a5 a6 a7 : Int32} (f0 : x_H) (M0 : x_N) (K : ∀ f' : x_H, x_Mdl z f' (M0.1, x_ua M0.2.1 0 (x_cpk 9 (M0.2.1 7) (M0.2.1 0)), M0.2.2) → x_fr (fun q => q < 59) f0 f' → X E (x_rm 9 0 0) mX6_game (x_QM E z 0 0 post) 206 [(8, .int (nI 9)), (1, .int a1), (7, .int a7), (6, .int a6), (5, .int a5), (4, .int a4), (3, .int a3), (2, .int a2), (0, .ref 59)] [] z f' 0 0) : ∀ (k i : Nat) (f : x_H), i + k = 9 → x_Mdl z f (M0.1, x_ua M0.2.1 0 (x_cpk i (M0.2.1 7) (M0.2.1 0)), M0.2.2) → x_fr (fun q => q < 59) f0 f → X E (x_rm 9 0 0) mX6_game (x_QM E z 0 0 post) 179 [(8, .int (nI i)), (1, .int a1), (7, .int a7), (6, .int a6), (5, .int a5), (4, .int a4), (3, .int a3), (2, .int a2), (0, .ref 59)] [] z f 0 0 := by
  intro k
  induction k with
  | zero =>
    intro i f hi hM hF
    have hi2 : i = 9 := by omega
    subst hi2
    refine x_iload (pc' := 181) rfl rfl rfl ?_
    refine x_bipush (pc' := 183) rfl rfl bipush_9 ?_
    refine x_icmp_ge (tgt := 206) (pc' := 186) rfl rfl rfl (fun _ => ?_) (fun c183 => absurd ((by decide : (9 : Int32) ≤ nI 9)) c183)
    exact K _ hM hF
  | succ k ih =>
    intro i f hi hM hF
    have hcl : (nI i).toNatClampNeg = i := nI_clamp (by omega)
    refine x_iload (pc' := 181) rfl rfl rfl ?_
    refine x_bipush (pc' := 183) rfl rfl bipush_9 ?_
    refine x_icmp_ge (tgt := 206) (pc' := 186) rfl rfl rfl (fun c183 => absurd c183 ((nI_ge (a := i) (b := 9) (by omega) (by decide)))) (fun _ => ?_)
    refine x_aload_n (pc' := 187) rfl rfl rfl ?_
    refine x_get (pc' := 190) rfl rfl rfl (hM.1) rfl ?_
    refine x_iload (pc' := 192) rfl rfl rfl ?_
    refine x_aload_n (pc' := 193) rfl rfl rfl ?_
    refine x_get (pc' := 196) rfl rfl rfl (hM.1) rfl ?_
    refine x_iload (pc' := 198) rfl rfl rfl ?_
    refine x_iaload (pc' := 199) rfl rfl (hM.2.1 7 (by decide)) (vp_in_nI (n := i) (N := 9) (by omega) (by decide)) ?_
    refine x_eqi (show M0.2.1 7 (nI i).toNatClampNeg = M0.2.1 7 i from by rw [hcl]) ?_
    refine x_iastore (pc' := 200) rfl rfl (hM.2.1 0 (by decide)) (vp_in_nI (n := i) (N := 9) (by omega) (by decide)) (fun f1 e1 => ?_)
    have hM1 := hM.arr 0 (by decide) e1
    have hF1 := hF.up e1 (by decide)
    refine x_iinc (pc' := 203) (lv' := [(8, _), (1, _), (7, _), (6, _), (5, _), (4, _), (3, _), (2, _), (0, _)]) rfl rfl (Nat.le_of_ble_eq_true rfl) rfl (nI_1 i) rfl ?_
    refine x_goto (tgt := 179) rfl rfl ?_
    refine ih (i + 1) _ (by omega) ?_ hF1
    have e9 : x_ua (x_ua M0.2.1 0 (x_cpk i (M0.2.1 7) (M0.2.1 0))) 0 (upd (x_cpk i (M0.2.1 7) (M0.2.1 0)) (nI i).toNatClampNeg (M0.2.1 7 i)) = x_ua M0.2.1 0 (x_cpk (i + 1) (M0.2.1 7) (M0.2.1 0)) := by rw [x_ua_ua, hcl, x_cpk_s]
    rw [← e9]
    exact hM1
theorem r_gm3 {a2 a3 a4 a5 a6 : Int32} (hL : q_M M0 L ℓ) (f0 : x_H) (R : Nat ⊕ (q_G × Nat))
    (k1 : ∀ G', R = .inr G' → ∀ (f' : x_H) (M' : x_N) (w : Int32), m_tb z f' M0 M' G' → x_fr (fun q => q < 59) f0 f' → X E (x_rm 9 0 0) mX6_game (x_QM E z 0 0 post) 158 [(1, .int w), (7, .int 0), (6, .int a6), (5, .int a5), (4, .int a4), (3, .int a3), (2, .int a2), (0, .ref 59)] [] z f' 0 0)
    (k0 : ∀ p, R = .inl p → ∀ (f' : x_H) (M' : x_N) (G' : q_G × Nat) (w : Int32), m_tb z f' M0 M' G' → x_fr (fun q => q < 59) f0 f' → X E (x_rm 9 0 0) mX6_game (x_QM E z 0 0 post) 158 [(1, .int w), (7, .int (-2000 - nI p)), (6, .int a6), (5, .int a5), (4, .int a4), (3, .int a3), (2, .int a2), (0, .ref 59)] [] z f' 0 0) :
    ∀ (k s : Nat) (G : q_G × Nat) (f : x_H) (M : x_N), s ≤ L → L ≤ s + k → q_fa (q_t L ℓ) L k s = none → q_rn (q_t L ℓ) L k s G = R → m_tb z f M0 M G → x_fr (fun q => q < 59) f0 f → X E (x_rm 9 0 0) mX6_game (x_QM E z 0 0 post) 121 [(1, .int (nI s)), (7, .int 0), (6, .int a6), (5, .int a5), (4, .int a4), (3, .int a3), (2, .int a2), (0, .ref 59)] [] z f 0 0 := by
  have l2 := hL.2.1
  intro k
  induction k with
  | zero =>
    intro s G f M h3 h4 h5 hR hC hF
    have hR2 : R = .inr G := hR.symm
    have hM := hC.1
    have hL' : q_M M L ℓ := hL.ks hC.2.2.2.2.2.1
    refine x_iload (pc' := 123) rfl rfl rfl ?_
    refine x_if_ne (tgt := 158) (pc' := 126) rfl rfl rfl (fun c123 => absurd (rfl) c123) (fun _ => ?_)
    refine x_iload_n (pc' := 127) rfl rfl rfl ?_
    refine x_aload_n (pc' := 128) rfl rfl rfl ?_
    refine x_get (pc' := 131) rfl rfl rfl (hM.1) rfl ?_
    refine x_eqi hL'.1 ?_
    refine x_icmp_ge (tgt := 158) (pc' := 134) rfl rfl rfl (fun _ => ?_) (fun c131 => absurd ((nI_le (by omega) (by omega))) c131)
    exact k1 G hR2 _ _ _ hC hF
  | succ k ih =>
    intro s G f M h3 h4 h5 hR hC hF
    have hM := hC.1
    have hL' : q_M M L ℓ := hL.ks hC.2.2.2.2.2.1
    by_cases hs : s < L
    · obtain ⟨hsk, h6⟩ := q_fa_go hs h5
      unfold q_rn at hR
      rw [if_pos hs] at hR
      have hel := q_ed_lt hL.2.2.2 hsk
      have heg := q_ed_gt (t := q_t L ℓ) (s := s)
      have hng := q_neg2 s (by omega)
      refine x_iload (pc' := 123) rfl rfl rfl ?_
      refine x_if_ne (tgt := 158) (pc' := 126) rfl rfl rfl (fun c123 => absurd (rfl) c123) (fun _ => ?_)
      refine x_iload_n (pc' := 127) rfl rfl rfl ?_
      refine x_aload_n (pc' := 128) rfl rfl rfl ?_
      refine x_get (pc' := 131) rfl rfl rfl (hM.1) rfl ?_
      refine x_eqi hL'.1 ?_
      refine x_icmp_ge (tgt := 158) (pc' := 134) rfl rfl rfl (fun c131 => absurd c131 ((nI_ge hs (by omega)))) (fun _ => ?_)
      refine x_aload_n (pc' := 135) rfl rfl rfl ?_
      refine x_iload_n (pc' := 136) rfl rfl rfl ?_
      refine x_cV1i (d := 6) (pc' := 139) rfl rfl sX6_157 gX6_does (hM.1) ⟨Nat.le_of_ble_eq_true rfl, Nat.le_of_ble_eq_true rfl⟩ (Nat.le_of_ble_eq_true rfl) ⟨Nat.le_of_ble_eq_true rfl, Nat.le_of_ble_eq_true rfl⟩ ?_
      refine m_does hC hL hs hsk (fun G' e9 f9 M9 hC9 hF9 => ⟨_, rfl, ?_⟩) (fun e9 f9 M9 G9 hC9 hF9 => ⟨_, rfl, ?_⟩)
      · rw [e9] at hR
        have hM9 := hC9.1
        have hL9 : q_M M9 L ℓ := hL.ks hC9.2.2.2.2.2.1
        refine x_if_ne (tgt := 149) (pc' := 142) rfl rfl rfl (fun _ => ?_) (fun c139 => absurd c139 ((by decide)))
        refine x_aload_n (pc' := 150) rfl rfl rfl ?_
        refine x_iload_n (pc' := 151) rfl rfl rfl ?_
        refine x_cV1i (d := 4) (pc' := 154) rfl rfl sX6_151 gX6_passes (hM9.1) ⟨Nat.le_of_ble_eq_true rfl, Nat.le_of_ble_eq_true rfl⟩ (Nat.le_of_ble_eq_true rfl) ⟨Nat.le_of_ble_eq_true rfl, Nat.le_of_ble_eq_true rfl⟩ ?_
        refine m_passes hM9 hL9 (by omega) (fun p e => by rw [hsk] at e; cases e) (fun _ => ⟨_, rfl, ?_⟩)
        refine x_istore_n (pc' := 155) (lv' := [(1, _), (7, _), (6, _), (5, _), (4, _), (3, _), (2, _), (0, _)]) rfl rfl (Nat.le_of_ble_eq_true rfl) rfl ?_
        refine x_goto (tgt := 121) rfl rfl ?_
        exact ih _ G' f9 M9 (by omega) (by omega) h6 hR hC9 (hF.trans hF9)
      · rw [e9] at hR
        have hM9 := hC9.1
        have hL9 : q_M M9 L ℓ := hL.ks hC9.2.2.2.2.2.1
        have hR2 : R = .inl s := hR.symm
        refine x_if_ne (tgt := 149) (pc' := 142) rfl rfl rfl (fun c139 => absurd (rfl) c139) (fun _ => ?_)
        refine x_sipush (pc' := 145) rfl rfl sipush_m2000 ?_
        refine x_iload_n (pc' := 146) rfl rfl rfl ?_
        refine x_isub (pc' := 147) rfl rfl ?_
        refine x_istore (pc' := 149) (lv' := [(7, _), (1, _), (6, _), (5, _), (4, _), (3, _), (2, _), (0, _)]) rfl rfl (Nat.le_of_ble_eq_true rfl) rfl ?_
        refine x_aload_n (pc' := 150) rfl rfl rfl ?_
        refine x_iload_n (pc' := 151) rfl rfl rfl ?_
        refine x_cV1i (d := 4) (pc' := 154) rfl rfl sX6_151 gX6_passes (hM9.1) ⟨Nat.le_of_ble_eq_true rfl, Nat.le_of_ble_eq_true rfl⟩ (Nat.le_of_ble_eq_true rfl) ⟨Nat.le_of_ble_eq_true rfl, Nat.le_of_ble_eq_true rfl⟩ ?_
        refine m_passes hM9 hL9 (by omega) (fun p e => by rw [hsk] at e; cases e) (fun _ => ⟨_, rfl, ?_⟩)
        refine x_istore_n (pc' := 155) (lv' := [(1, _), (7, _), (6, _), (5, _), (4, _), (3, _), (2, _), (0, _)]) rfl rfl (Nat.le_of_ble_eq_true rfl) rfl ?_
        refine x_goto (tgt := 121) rfl rfl ?_
        refine x_iload (pc' := 123) rfl rfl rfl ?_
        refine x_if_ne (tgt := 158) (pc' := 126) rfl rfl rfl (fun _ => ?_) (fun c123 => absurd c123 ((fun q => by rw [q] at hng; exact absurd hng (by decide))))
        exact k0 s hR2 _ _ _ _ hC9 (hF.trans hF9)
    · rw [q_rn_end hs] at hR
      have hR2 : R = .inr G := hR.symm
      refine x_iload (pc' := 123) rfl rfl rfl ?_
      refine x_if_ne (tgt := 158) (pc' := 126) rfl rfl rfl (fun c123 => absurd (rfl) c123) (fun _ => ?_)
      refine x_iload_n (pc' := 127) rfl rfl rfl ?_
      refine x_aload_n (pc' := 128) rfl rfl rfl ?_
      refine x_get (pc' := 131) rfl rfl rfl (hM.1) rfl ?_
      refine x_eqi hL'.1 ?_
      refine x_icmp_ge (tgt := 158) (pc' := 134) rfl rfl rfl (fun _ => ?_) (fun c131 => absurd ((nI_le (by omega) (by omega))) c131)
      exact k1 G hR2 _ _ _ hC hF
theorem r_game (hM : x_Mdl z f M) (hA : r_is M A) (ho : a_ok A) (h : r_ends z f post (s_game A)) : Y E 9 mX6_game [.ref 59] z f 0 0 post := by
  refine Y.intro gX6_game (lv := [(0, .ref 59)]) rfl (Nat.le_of_ble_eq_true rfl) ?_
  obtain ⟨b1, b2, b3, b4, b5, b6, b7, b8, b9⟩ := id hA
  obtain ⟨t1, t2, t3, t4, t5, t6, t7⟩ := id b1
  have hlc := ho.2.2.2.1
  have h255 := ho.2.2.2.2.1
  refine x_aload_n (pc' := 1) rfl rfl rfl ?_
  refine x_iconst (pc' := 2) rfl rfl iconst_m1 ?_
  refine x_put (pc' := 5) rfl rfl rfl (hM.1) (Nat.le_of_ble_eq_true rfl) rfl rfl rfl rfl (fun f1 e1 => ?_)
  have hM1 := hM.num 20 e1 (x_mFs20 _ _)
  have hF1 := r_fr0 e1 (by decide)
  refine x_iconst (pc' := 6) rfl rfl iconst_0 ?_
  refine x_istore_n (pc' := 7) (lv' := [(1, _), (0, _)]) rfl rfl (Nat.le_of_ble_eq_true rfl) rfl ?_
  refine x_iconst (pc' := 8) rfl rfl iconst_0 ?_
  refine x_istore_n (pc' := 9) (lv' := [(2, _), (1, _), (0, _)]) rfl rfl (Nat.le_of_ble_eq_true rfl) rfl ?_
  have hL1 : q_M (upd M.1 20 (-1), M.2.1, M.2.2) (a_lc A) (a_lf A) := ⟨b5, hlc, b6, h255⟩
  have h201 : upd M.1 20 (-1) 20 = -1 := pk_us
  have kf : ∀ p, q_ff (a_lc A) (a_lf A) = some p → ∀ f' : x_H, x_Mdl z f' (upd (upd (upd M.1 20 (-1)) 20 (nI p)) 11 0, M.2.1, M.2.2) → x_fr (fun q => q < 59) f1 f' → post (some (.int (-1000 - nI p))) f' := by
    intro p hff f2 hM2 hF2
    unfold s_game at h
    rw [hff] at h
    exact h _ _ hM2 ⟨⟨t1, t2, t3, t4, t5, t6, t7⟩, b2, b3, b4.eq (fun i hi => (pk_un (by omega)).trans ((pk_un (by omega)).trans (pk_un (by omega)))) rfl rfl, rfl, b6, b7, b8, b9⟩ (hF1.trans hF2)
  have kn : q_ff (a_lc A) (a_lf A) = none → X E (x_rm 9 0 0) mX6_game (x_QM E z 0 0 post) 61 [(2, .int (nI (q_ct (q_t (a_lc A) (a_lf A)) (a_lc A) (a_lc A) 0))), (1, .int (nI (a_lc A))), (0, .ref 59)] [] z f1 0 0 := by
    intro hff
    unfold s_game at h
    rw [hff] at h
    have hL0 : ¬ a_lc A = 0 := fun q => by unfold q_ff at hff; rw [if_pos q] at hff; cases hff
    have hfa : q_fa (q_t (a_lc A) (a_lf A)) (a_lc A) (a_lc A) 0 = none := by
      unfold q_ff at hff
      rw [if_neg hL0] at hff
      exact hff
    refine x_aload_n (pc' := 62) rfl rfl rfl ?_
    refine x_bipush (pc' := 64) rfl rfl bipush_7 ?_
    refine x_cV1v (d := 1) (pc' := 67) rfl rfl sX6_154 gX6_keeps (hM1.1) ⟨Nat.le_of_ble_eq_true rfl, Nat.le_of_ble_eq_true rfl⟩ (Nat.le_of_ble_eq_true rfl) ⟨Nat.le_of_ble_eq_true rfl, Nat.le_of_ble_eq_true rfl⟩ ?_
    refine m_keeps (l := 7) (g := a_g A) (by decide) hM1 ⟨t1, t2, t3, t4, t5, t6, t7⟩ (fun f2 M2 hM2 g2 k2 fr2 hF2 => ⟨rfl, ?_⟩)
    refine x_iconst (pc' := 68) rfl rfl iconst_0 ?_
    refine x_istore_n (pc' := 69) (lv' := [(3, _), (2, _), (1, _), (0, _)]) rfl rfl (Nat.le_of_ble_eq_true rfl) rfl ?_
    refine r_gmK f2 M2 (fun f3 hM3 hF3 => ?_) 9 0 f2 (by omega) (by rw [x_cpk_0, x_ua_id]; exact hM2) x_fr.rf
    have e3 : M2.1 3 = nI (g_n (a_g A)) := by rw [k2.1]; exact t4
    have e4 : M2.1 4 = nI (g_f (a_g A)) := by rw [k2.1]; exact t5
    have e5 : M2.1 5 = nI (g_l (a_g A)) := by rw [k2.1]; exact t6
    have e8 : M2.1 8 = nI (a_mv A) := by rw [k2.1]; exact b2
    have e18 : M2.1 18 = 0 := by rw [k2.1]; exact b3
    have e11 : M2.1 11 = nI (a_lc A) := by rw [k2.1]; exact b5
    have e13 : M2.1 13 = nI (a_rc A) := by rw [k2.1]; exact b7
    have e28 : ∀ i, 28 ≤ i → M2.1 i = M.1 i := fun i hi => by rw [k2.1]; exact pk_un (by omega)
    have hF23 : x_fr (fun q => q < 59) f f3 := (hF1.trans hF2).trans hF3
    have g3 : m_is (M2.1, x_ua M2.2.1 7 (x_cpk 9 (M2.2.1 0) (M2.2.1 7)), M2.2.2) (a_g A) := g2
    have fr3 : m_fr (M2.1, x_ua M2.2.1 7 (x_cpk 9 (M2.2.1 0) (M2.2.1 7)), M2.2.2) 7 (a_g A) := fr2
    have hks : ∀ M4 : x_N, m_ks (M2.1, x_ua M2.2.1 7 (x_cpk 9 (M2.2.1 0) (M2.2.1 7)), M2.2.2) M4 → (∀ j, j ≠ 0 → j ≠ 1 → j ≠ 2 → j ≠ 6 → j ≠ 7 → M4.2.1 j = M.2.1 j) := fun M4 h4 j j0 j1 j2 j6 j7 => (h4.1 j j0 j1 j2).trans ((if_neg j7).trans (k2.2.1 j j6))
    have hC3 : m_tb z f3 (M2.1, x_ua M2.2.1 7 (x_cpk 9 (M2.2.1 0) (M2.2.1 7)), M2.2.2) (M2.1, x_ua M2.2.1 7 (x_cpk 9 (M2.2.1 0) (M2.2.1 7)), M2.2.2) A.1 := ⟨hM3, g3, e8, ho.1, ho.2.1, m_ks.rf, e18⟩
    have hL3 : q_M (M2.1, x_ua M2.2.1 7 (x_cpk 9 (M2.2.1 0) (M2.2.1 7)), M2.2.2) (a_lc A) (a_lf A) := ⟨e11, hlc, (k2.2.1 4 (by decide)).trans b6, h255⟩
    refine x_aload_n (pc' := 94) rfl rfl rfl ?_
    refine x_get (pc' := 97) rfl rfl rfl (hM3.1) rfl ?_
    refine x_eqi e3 ?_
    refine x_istore_n (pc' := 98) (lv' := [(3, _), (2, _), (1, _), (0, _)]) rfl rfl (Nat.le_of_ble_eq_true rfl) rfl ?_
    refine x_aload_n (pc' := 99) rfl rfl rfl ?_
    refine x_get (pc' := 102) rfl rfl rfl (hM3.1) rfl ?_
    refine x_eqi e4 ?_
    refine x_istore (pc' := 104) (lv' := [(4, _), (3, _), (2, _), (1, _), (0, _)]) rfl rfl (Nat.le_of_ble_eq_true rfl) rfl ?_
    refine x_aload_n (pc' := 105) rfl rfl rfl ?_
    refine x_get (pc' := 108) rfl rfl rfl (hM3.1) rfl ?_
    refine x_eqi e5 ?_
    refine x_istore (pc' := 110) (lv' := [(5, _), (4, _), (3, _), (2, _), (1, _), (0, _)]) rfl rfl (Nat.le_of_ble_eq_true rfl) rfl ?_
    refine x_aload_n (pc' := 111) rfl rfl rfl ?_
    refine x_get (pc' := 114) rfl rfl rfl (hM3.1) rfl ?_
    refine x_eqi e8 ?_
    refine x_istore (pc' := 116) (lv' := [(6, _), (5, _), (4, _), (3, _), (2, _), (1, _), (0, _)]) rfl rfl (Nat.le_of_ble_eq_true rfl) rfl ?_
    refine x_iconst (pc' := 117) rfl rfl iconst_0 ?_
    refine x_istore (pc' := 119) (lv' := [(7, _), (6, _), (5, _), (4, _), (3, _), (2, _), (1, _), (0, _)]) rfl rfl (Nat.le_of_ble_eq_true rfl) rfl ?_
    refine x_iconst (pc' := 120) rfl rfl iconst_0 ?_
    refine x_istore_n (pc' := 121) (lv' := [(1, _), (7, _), (6, _), (5, _), (4, _), (3, _), (2, _), (0, _)]) rfl rfl (Nat.le_of_ble_eq_true rfl) rfl ?_
    refine r_gm3 hL3 f3 (q_rn (q_t (a_lc A) (a_lf A)) (a_lc A) (a_lc A) 0 A.1) (fun G' hrn f4 M4 w hC4 hF4 => ?_) (fun p hrn f4 M4 G' w hC4 hF4 => ?_) (a_lc A) 0 A.1 f3 _ (Nat.zero_le _) (by omega) hfa rfl hC3 x_fr.rf
    · rw [hrn] at h
      obtain ⟨hM4, g4, e84, ok4, mv4, ks4, -⟩ := hC4
      obtain ⟨v1, v2, v3, v4, v5, v6, v7⟩ := g4
      have ks4' := hks M4 ks4
      refine x_aload_n (pc' := 159) rfl rfl rfl ?_
      refine x_iconst (pc' := 160) rfl rfl iconst_0 ?_
      refine x_put (pc' := 163) rfl rfl rfl (hM4.1) (Nat.le_of_ble_eq_true rfl) rfl rfl rfl rfl (fun f2 e2 => ?_)
      have hM5 := hM4.num 11 e2 (x_mFs11 _ _)
      have hF5 := (hF23.trans hF4).trans (r_fr0 e2 (by decide))
      refine x_iload (pc' := 165) rfl rfl rfl ?_
      refine x_if_ne (tgt := 170) (pc' := 168) rfl rfl rfl (fun c165 => absurd (rfl) c165) (fun _ => ?_)
      refine x_iload_n (pc' := 169) rfl rfl rfl ?_
      exact x_ireturn rfl rfl rfl (Nat.le_of_ble_eq_true rfl) (Nat.le_of_ble_eq_true rfl) (h _ _ hM5 ⟨⟨v1, v2, v3, v4, v5, v6, v7⟩, e84, (ks4.2 18 (by omega)).trans e18, b4.eq (fun i hi => (pk_un (by omega)).trans ((ks4.2 i (by omega)).trans (e28 i hi))) (ks4' 9 (by decide) (by decide) (by decide) (by decide) (by decide)) (ks4' 10 (by decide) (by decide) (by decide) (by decide) (by decide)), rfl, (ks4' 4 (by decide) (by decide) (by decide) (by decide) (by decide)).trans b6, (ks4.2 13 (by omega)).trans e13, (ks4' 5 (by decide) (by decide) (by decide) (by decide) (by decide)).trans b8, (ks4' 3 (by decide) (by decide) (by decide) (by decide) (by decide)).trans b9⟩ hF5)
    · rw [hrn] at h
      obtain ⟨hM4, g4, e84, ok4, mv4, ks4, -⟩ := hC4
      obtain ⟨v1, v2, v3, v4, v5, v6, v7⟩ := id g4
      have ks4' := hks M4 ks4
      have hp := q_rn_le (t := q_t (a_lc A) (a_lf A)) _ _ _ _ hrn
      have hng := q_neg2 p (by omega)
      refine x_aload_n (pc' := 159) rfl rfl rfl ?_
      refine x_iconst (pc' := 160) rfl rfl iconst_0 ?_
      refine x_put (pc' := 163) rfl rfl rfl (hM4.1) (Nat.le_of_ble_eq_true rfl) rfl rfl rfl rfl (fun f3 e3 => ?_)
      have hM5 := hM4.num 11 e3 (x_mFs11 _ _)
      have hF5 := (hF23.trans hF4).trans (r_fr0 e3 (by decide))
      refine x_iload (pc' := 165) rfl rfl rfl ?_
      refine x_if_ne (tgt := 170) (pc' := 168) rfl rfl rfl (fun _ => ?_) (fun c165 => absurd c165 ((fun q => by rw [q] at hng; exact absurd hng (by decide))))
      refine x_aload_n (pc' := 171) rfl rfl rfl ?_
      refine x_bipush (pc' := 173) rfl rfl bipush_7 ?_
      refine x_cV1v (d := 1) (pc' := 176) rfl rfl sX6_160 gX6_lays (hM5.1) ⟨Nat.le_of_ble_eq_true rfl, Nat.le_of_ble_eq_true rfl⟩ (Nat.le_of_ble_eq_true rfl) ⟨Nat.le_of_ble_eq_true rfl, Nat.le_of_ble_eq_true rfl⟩ ?_
      refine m_lays (l := 7) (g := a_g A) (g' := G'.1) (by decide) hM5 ⟨v1, v2, v3, v4, v5, v6, v7⟩ (fr3.eq (ks4.1 6 (by decide) (by decide) (by decide))) ho.1 ok4 (fun f6 M6 hM6 g6 y1 y2 y3 hF6 => ⟨rfl, ?_⟩)
      have hn6 : ∀ i, i = 13 ∨ 18 ≤ i → M6.1 i = M2.1 i := fun i hi => (y1 i (by omega)).trans ((pk_un (by omega)).trans (ks4.2 i (by omega)))
      have hr6 : ∀ j, j ≠ 0 → j ≠ 1 → j ≠ 2 → j ≠ 6 → j ≠ 7 → M6.2.1 j = M.2.1 j := fun j j0 j1 j2 j6 j7 => (y2 j j1 j2).trans (ks4' j j0 j1 j2 j6 j7)
      have h116 : M6.1 11 = 0 := (y1 11 (by decide)).trans rfl
      refine x_iconst (pc' := 177) rfl rfl iconst_0 ?_
      refine x_istore (pc' := 179) (lv' := [(8, _), (1, _), (7, _), (6, _), (5, _), (4, _), (3, _), (2, _), (0, _)]) rfl rfl (Nat.le_of_ble_eq_true rfl) rfl ?_
      refine r_gmR f6 M6 (fun f7 hM7 hF7 => ?_) 9 0 f6 (by omega) (by rw [x_cpk_0, x_ua_id]; exact hM6) x_fr.rf
      have hF67 := (hF5.trans hF6).trans hF7
      refine x_aload_n (pc' := 207) rfl rfl rfl ?_
      refine x_iload_n (pc' := 208) rfl rfl rfl ?_
      refine x_put (pc' := 211) rfl rfl rfl (hM7.1) (Nat.le_of_ble_eq_true rfl) rfl rfl rfl rfl (fun f4 e4 => ?_)
      have hM8 := hM7.num 3 e4 (x_mFs3 _ _)
      have hF8 := hF67.trans (r_fr0 e4 (by decide))
      refine x_aload_n (pc' := 212) rfl rfl rfl ?_
      refine x_iload (pc' := 214) rfl rfl rfl ?_
      refine x_put (pc' := 217) rfl rfl rfl (hM8.1) (Nat.le_of_ble_eq_true rfl) rfl rfl rfl rfl (fun f5 e5 => ?_)
      have hM9 := hM8.num 4 e5 (x_mFs4 _ _)
      have hF9 := hF8.trans (r_fr0 e5 (by decide))
      refine x_aload_n (pc' := 218) rfl rfl rfl ?_
      refine x_iload (pc' := 220) rfl rfl rfl ?_
      refine x_put (pc' := 223) rfl rfl rfl (hM9.1) (Nat.le_of_ble_eq_true rfl) rfl rfl rfl rfl (fun f6 e6 => ?_)
      have hM10 := hM9.num 5 e6 (x_mFs5 _ _)
      have hF10 := hF9.trans (r_fr0 e6 (by decide))
      refine x_aload_n (pc' := 224) rfl rfl rfl ?_
      refine x_iload (pc' := 226) rfl rfl rfl ?_
      refine x_put (pc' := 229) rfl rfl rfl (hM10.1) (Nat.le_of_ble_eq_true rfl) rfl rfl rfl rfl (fun f7 e7 => ?_)
      have hM11 := hM10.num 8 e7 (x_mFs8 _ _)
      have hF11 := hF10.trans (r_fr0 e7 (by decide))
      refine x_iload (pc' := 231) rfl rfl rfl ?_
      obtain ⟨u1, u2, u3, u4, u5, u6, u7⟩ := g6
      have hk0 : x_cpk 9 (M6.2.1 7) (M6.2.1 0) = fun i => nI (g_κ (a_g A) i) := by
        funext j
        unfold x_cpk
        by_cases hj : j < 9
        · rw [if_pos hj, y2 7 (by decide) (by decide)]
          show M4.2.1 7 j = _
          rw [ks4.1 7 (by decide) (by decide) (by decide)]
          show (if j < 9 then M2.2.1 0 j else _) = _
          rw [if_pos hj, g2.1]
        · rw [if_neg hj, u1]
          show nI (g_κ G'.1 j) = nI (g_κ (a_g A) j)
          rw [(ok4.2.2.2.2.2.2.2.1 j (by omega)).1, (ho.1.2.2.2.2.2.2.2.1 j (by omega)).1]
      have hpn : ∀ i, i = 11 ∨ i = 13 ∨ 18 ≤ i → (upd (upd (upd (upd M6.1 3 (nI (g_n (a_g A)))) 4 (nI (g_f (a_g A)))) 5 (nI (g_l (a_g A)))) 8 (nI (a_mv A))) i = M6.1 i := fun i hi => (pk_un (by omega)).trans ((pk_un (by omega)).trans ((pk_un (by omega)).trans (pk_un (by omega))))
      exact x_ireturn rfl rfl rfl (Nat.le_of_ble_eq_true rfl) (Nat.le_of_ble_eq_true rfl) (h _ _ hM11 ⟨⟨hk0, u2, u3, rfl, rfl, rfl, u7⟩, rfl, (hpn 18 (by omega)).trans ((hn6 18 (by omega)).trans e18), b4.eq (fun i hi => (hpn i (by omega)).trans ((hn6 i (by omega)).trans (e28 i hi))) (hr6 9 (by decide) (by decide) (by decide) (by decide) (by decide)) (hr6 10 (by decide) (by decide) (by decide) (by decide) (by decide)), (hpn 11 (by omega)).trans h116, (hr6 4 (by decide) (by decide) (by decide) (by decide) (by decide)).trans b6, (hpn 13 (by omega)).trans ((hn6 13 (by omega)).trans e13), (hr6 5 (by decide) (by decide) (by decide) (by decide) (by decide)).trans b8, (hr6 3 (by decide) (by decide) (by decide) (by decide) (by decide)).trans b9⟩ hF11)
  refine x_aload_n (pc' := 10) rfl rfl rfl ?_
  refine x_get (pc' := 13) rfl rfl rfl (hM1.1) rfl ?_
  refine x_eqi h201 ?_
  refine x_if_ge (tgt := 40) (pc' := 16) rfl rfl rfl (fun c13 => absurd c13 ((by decide))) (fun _ => ?_)
  refine x_iload_n (pc' := 17) rfl rfl rfl ?_
  refine x_aload_n (pc' := 18) rfl rfl rfl ?_
  refine x_get (pc' := 21) rfl rfl rfl (hM1.1) rfl ?_
  refine x_eqi hL1.1 ?_
  refine x_icmp_lt (tgt := 28) (pc' := 24) rfl rfl rfl (fun c21 => ?_) (fun c21 => ?_)
  · refine x_aload_n (pc' := 29) rfl rfl rfl ?_
    refine x_iload_n (pc' := 30) rfl rfl rfl ?_
    refine x_cV1i (d := 4) (pc' := 33) rfl rfl sX6_151 gX6_passes (hM1.1) ⟨Nat.le_of_ble_eq_true rfl, Nat.le_of_ble_eq_true rfl⟩ (Nat.le_of_ble_eq_true rfl) ⟨Nat.le_of_ble_eq_true rfl, Nat.le_of_ble_eq_true rfl⟩ ?_
    refine m_passes (s := 0) hM1 hL1 (by decide) (fun p hsk f2 r hM2 hF2 => ⟨_, rfl, ?_⟩) (fun hsk => ⟨_, rfl, ?_⟩)
    · have hff := q_ff_some h255 hsk
      have hp := q_ff_le h255 hff
      refine x_istore_n (pc' := 34) (lv' := [(1, _), (2, _), (0, _)]) rfl rfl (Nat.le_of_ble_eq_true rfl) rfl ?_
      refine x_iinc (pc' := 37) (lv' := [(2, _), (1, _), (0, _)]) rfl rfl (Nat.le_of_ble_eq_true rfl) rfl (nI_1 0) rfl ?_
      refine x_goto (tgt := 9) rfl rfl ?_
      exact r_gmF hM2 rfl (by omega) (fun f3 hM3 hF3 => kf p hff f3 hM3 (hF2.trans hF3))
    · have hel := q_ed_lt h255 hsk
      have heg := q_ed_gt (t := q_t (a_lc A) (a_lf A)) (s := 0)
      obtain ⟨u1, u2⟩ := q_ff_none h255 hsk
      refine x_istore_n (pc' := 34) (lv' := [(1, _), (2, _), (0, _)]) rfl rfl (Nat.le_of_ble_eq_true rfl) rfl ?_
      refine x_iinc (pc' := 37) (lv' := [(2, _), (1, _), (0, _)]) rfl rfl (Nat.le_of_ble_eq_true rfl) rfl (nI_1 0) rfl ?_
      refine x_goto (tgt := 9) rfl rfl ?_
      refine r_gm1 hM1 hL1 h201 (q_ff (a_lc A) (a_lf A)) (fun p hff => by have := q_ff_le h255 hff; omega) kf kn (a_lc A - 1) (0 + 1) _ (by omega) (by omega) (by omega) (by omega) u2.symm (fun _ => ?_)
      obtain ⟨k, hk⟩ : ∃ k, a_lc A = k + 1 := ⟨a_lc A - 1, by omega⟩
      have e9 : q_ct (q_t (a_lc A) (a_lf A)) (a_lc A) (k + 1) 0 = q_ct (q_t (a_lc A) (a_lf A)) (a_lc A) k (q_ed (q_t (a_lc A) (a_lf A)) 0 + 1) + 1 := if_pos u1
      rw [show a_lc A - 1 = k by omega]
      rw [show q_ct (q_t (a_lc A) (a_lf A)) (a_lc A) (a_lc A) 0 = q_ct (q_t (a_lc A) (a_lf A)) (a_lc A) (k + 1) 0 from congrArg (fun n => q_ct (q_t (a_lc A) (a_lf A)) (a_lc A) n 0) hk, e9]
      omega
  · refine x_iload_n (pc' := 25) rfl rfl rfl ?_
    refine x_if_ne (tgt := 40) (pc' := 28) rfl rfl rfl (fun c25 => absurd (rfl) c25) (fun _ => ?_)
    refine x_aload_n (pc' := 29) rfl rfl rfl ?_
    refine x_iload_n (pc' := 30) rfl rfl rfl ?_
    refine x_cV1i (d := 4) (pc' := 33) rfl rfl sX6_151 gX6_passes (hM1.1) ⟨Nat.le_of_ble_eq_true rfl, Nat.le_of_ble_eq_true rfl⟩ (Nat.le_of_ble_eq_true rfl) ⟨Nat.le_of_ble_eq_true rfl, Nat.le_of_ble_eq_true rfl⟩ ?_
    refine m_passes (s := 0) hM1 hL1 (by decide) (fun p hsk f2 r hM2 hF2 => ⟨_, rfl, ?_⟩) (fun hsk => ⟨_, rfl, ?_⟩)
    · have hff := q_ff_some h255 hsk
      have hp := q_ff_le h255 hff
      refine x_istore_n (pc' := 34) (lv' := [(1, _), (2, _), (0, _)]) rfl rfl (Nat.le_of_ble_eq_true rfl) rfl ?_
      refine x_iinc (pc' := 37) (lv' := [(2, _), (1, _), (0, _)]) rfl rfl (Nat.le_of_ble_eq_true rfl) rfl (nI_1 0) rfl ?_
      refine x_goto (tgt := 9) rfl rfl ?_
      exact r_gmF hM2 rfl (by omega) (fun f3 hM3 hF3 => kf p hff f3 hM3 (hF2.trans hF3))
    · have hel := q_ed_lt h255 hsk
      have heg := q_ed_gt (t := q_t (a_lc A) (a_lf A)) (s := 0)
      obtain ⟨u1, u2⟩ := q_ff_none h255 hsk
      refine x_istore_n (pc' := 34) (lv' := [(1, _), (2, _), (0, _)]) rfl rfl (Nat.le_of_ble_eq_true rfl) rfl ?_
      refine x_iinc (pc' := 37) (lv' := [(2, _), (1, _), (0, _)]) rfl rfl (Nat.le_of_ble_eq_true rfl) rfl (nI_1 0) rfl ?_
      refine x_goto (tgt := 9) rfl rfl ?_
      refine r_gm1 hM1 hL1 h201 (q_ff (a_lc A) (a_lf A)) (fun p hff => by have := q_ff_le h255 hff; omega) kf kn (a_lc A - 1) (0 + 1) _ (by omega) (by omega) (by omega) (by omega) u2.symm (fun _ => ?_)
      obtain ⟨k, hk⟩ : ∃ k, a_lc A = k + 1 := ⟨a_lc A - 1, by omega⟩
      have e9 : q_ct (q_t (a_lc A) (a_lf A)) (a_lc A) (k + 1) 0 = q_ct (q_t (a_lc A) (a_lf A)) (a_lc A) k (q_ed (q_t (a_lc A) (a_lf A)) 0 + 1) + 1 := if_pos u1
      rw [show a_lc A - 1 = k by omega]
      rw [show q_ct (q_t (a_lc A) (a_lf A)) (a_lc A) (a_lc A) 0 = q_ct (q_t (a_lc A) (a_lf A)) (a_lc A) (k + 1) 0 from congrArg (fun n => q_ct (q_t (a_lc A) (a_lf A)) (a_lc A) n 0) hk, e9]
      omega
end GT
