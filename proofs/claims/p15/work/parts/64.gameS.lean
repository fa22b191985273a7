/-! The reference's statements. -/
def m_ks (M M' : x_N) : Prop := (∀ j, j ≠ 0 → j ≠ 1 → j ≠ 2 → M'.2.1 j = M.2.1 j) ∧ (∀ i, i = 11 ∨ i = 13 ∨ 18 ≤ i → M'.1 i = M.1 i)
theorem m_ks.rf {M : x_N} : m_ks M M := ⟨fun _ _ _ _ => rfl, fun _ _ => rfl⟩
theorem m_ks.trans {M M1 M2 : x_N} (h : m_ks M M1) (h2 : m_ks M1 M2) : m_ks M M2 := ⟨fun j a b c => (h2.1 j a b c).trans (h.1 j a b c), fun i a => (h2.2 i a).trans (h.2 i a)⟩
theorem m_kp.ks {M M' : x_N} (h : m_kp M M') : m_ks M M' := ⟨fun j _ b c => h.1 j b c, fun i a => h.2.2 i (by omega) (by omega) (by omega) (by omega) (by omega)⟩
/-- a game that the reference plays in the place of another -/
def m_tb (z : Nat) (f : x_H) (M0 M : x_N) (G : q_G × Nat) : Prop := x_Mdl z f M ∧ m_is M G.1 ∧ M.1 8 = nI G.2 ∧ g_ok 99 G.1 ∧ G.2 ≤ 999 ∧ m_ks M0 M ∧ M0.1 18 = 0
theorem q_M_at {M : x_N} {L : Nat} {ℓ : Nat → Nat} (hL : q_M M L ℓ) {i : Nat} (h : i < L) : M.2.1 4 (nI i).toNatClampNeg = nI (q_t L ℓ i) := by
  have := hL.2.1
  rw [nI_clamp (by omega), hL.2.2.1]
  unfold q_t
  rw [if_pos h]
theorem q_M.ks {M M' : x_N} {L : Nat} {ℓ : Nat → Nat} (hL : q_M M L ℓ) (h : m_ks M M') : q_M M' L ℓ := ⟨(h.2 11 (by omega)).trans hL.1, hL.2.1, (h.1 4 (by decide) (by decide) (by decide)).trans hL.2.2.1, hL.2.2.2⟩
section GS
variable {E : x_E} {z : Nat} {f : x_H} {M M0 : x_N} {A : q_A} {post : Option Value → x_H → Prop} {L : Nat} {ℓ : Nat → Nat} {g : q_G} {G : q_G × Nat} {m : Nat}
theorem m_digit {p : Nat} (hM : x_Mdl z f M) (hL : q_M M L ℓ) (hp : p < L) (h48 : 48 ≤ q_t L ℓ p) (h : post (some (.int (nI (q_t L ℓ p - 48)))) f) : Y E 1 mX6_digit [.ref 59, .int (nI p)] z f 0 0 post := by
  refine Y.intro gX6_digit (lv := [(0, .ref 59), (1, .int (nI p))]) rfl (Nat.le_of_ble_eq_true rfl) ?_
  have l2 := hL.2.1
  refine x_aload_n (pc' := 1) rfl rfl rfl ?_
  refine x_get (pc' := 4) rfl rfl rfl (hM.1) rfl ?_
  refine x_iload_n (pc' := 5) rfl rfl rfl ?_
  refine x_iaload (pc' := 6) rfl rfl (hM.2.1 4 (by decide)) (vp_in_nI (n := p) (N := 96) (by omega) (by decide)) ?_
  refine x_eqi (q_M_at hL hp) ?_
  refine x_bipush (pc' := 8) rfl rfl bipush_48 ?_
  refine x_isub (pc' := 9) rfl rfl ?_
  refine x_eqi (show nI (q_t L ℓ p) - 48 = nI (q_t L ℓ p - 48) from pk_sub (b := 48) h48) ?_
  exact x_ireturn rfl rfl rfl (Nat.le_of_ble_eq_true rfl) (Nat.le_of_ble_eq_true rfl) (h)
theorem m_isB {k : Nat} (hM : x_Mdl z f M) (hm : m_is M g) (hn9 : g_n g ≤ 9) (hk : k < 2 ^ 31) (h1 : k < g_n g → post (some (.int 1)) f) (h0 : ¬ k < g_n g → post (some (.int 0)) f) : Y E 2 mX6_isBowl [.ref 59, .int (nI k)] z f 0 0 post := by
  have hk2 : q_in (g_n g) (nI k) ↔ k < g_n g := by
    constructor
    · intro q
      have h2 := q.2
      rw [nI_clamp hk] at h2
      exact h2
    · intro q
      exact q_in_nI q hk
  refine w_isBowl hM (fun q => h1 (hk2.mp ?_)) (fun q => h0 (fun j => q ?_))
  · rw [hm.2.2.2.1] at q
    exact (q_in_bowl hn9).mp q
  · rw [hm.2.2.2.1]
    exact (q_in_bowl hn9).mpr (hk2.mpr j)
theorem m_exch {v w : Nat} (hM : x_Mdl z f M) (hv : v < 9) (hw : w < 9) (h : ∀ f' : x_H, x_Mdl z f' (M.1, x_ua M.2.1 1 (upd (upd (M.2.1 1) v (M.2.1 1 w)) w (M.2.1 1 v)), M.2.2) → x_fr (fun q => q < 59) f f' → post none f') : Y E 1 mX6_exchanges [.ref 59, .int (nI v), .int (nI w)] z f 0 0 post := by
  refine Y.intro gX6_exchanges (lv := [(0, .ref 59), (1, .int (nI v)), (2, .int (nI w))]) rfl (Nat.le_of_ble_eq_true rfl) ?_
  have ev : (nI v).toNatClampNeg = v := nI_clamp (by omega)
  have ew : (nI w).toNatClampNeg = w := nI_clamp (by omega)
  refine x_aload_n (pc' := 1) rfl rfl rfl ?_
  refine x_get (pc' := 4) rfl rfl rfl (hM.1) rfl ?_
  refine x_iload_n (pc' := 5) rfl rfl rfl ?_
  refine x_iaload (pc' := 6) rfl rfl (hM.2.1 1 (by decide)) (vp_in_nI (n := v) (N := 9) hv (by decide)) ?_
  refine x_istore_n (pc' := 7) (lv' := [(3, _), (0, _), (1, _), (2, _)]) rfl rfl (Nat.le_of_ble_eq_true rfl) rfl ?_
  refine x_aload_n (pc' := 8) rfl rfl rfl ?_
  refine x_get (pc' := 11) rfl rfl rfl (hM.1) rfl ?_
  refine x_iload_n (pc' := 12) rfl rfl rfl ?_
  refine x_aload_n (pc' := 13) rfl rfl rfl ?_
  refine x_get (pc' := 16) rfl rfl rfl (hM.1) rfl ?_
  refine x_iload_n (pc' := 17) rfl rfl rfl ?_
  refine x_iaload (pc' := 18) rfl rfl (hM.2.1 1 (by decide)) (vp_in_nI (n := w) (N := 9) hw (by decide)) ?_
  refine x_iastore (pc' := 19) rfl rfl (hM.2.1 1 (by decide)) (vp_in_nI (n := v) (N := 9) hv (by decide)) (fun f1 e1 => ?_)
  have hM1 := hM.arr 1 (by decide) e1
  have hF1 := r_fr0 e1 (by decide)
  refine x_aload_n (pc' := 20) rfl rfl rfl ?_
  refine x_get (pc' := 23) rfl rfl rfl (hM1.1) rfl ?_
  refine x_iload_n (pc' := 24) rfl rfl rfl ?_
  refine x_iload_n (pc' := 25) rfl rfl rfl ?_
  refine x_iastore (pc' := 26) rfl rfl (hM1.2.1 1 (by decide)) (vp_in_nI (n := w) (N := 9) hw (by decide)) (fun f2 e2 => ?_)
  have hM2 := hM1.arr 1 (by decide) e2
  have hF2 := hF1.trans (r_fr0 e2 (by decide))
  rw [x_ua_ua, ev, ew] at hM2
  exact x_return rfl rfl (Nat.le_of_ble_eq_true rfl) (Nat.le_of_ble_eq_true rfl) (h _ hM2 hF2)
theorem m_dosL {s e : Nat} (hL : q_M M0 L ℓ) (he : e < L) (h59 : q_t L ℓ e = 59) (hdg : ∀ j, s + 1 ≤ j → j < e → q_dg (q_t L ℓ j)) (f0 : x_H) (R : Option (q_G × Nat)) (k1 : ∀ G', R = some G' → ∀ (f' : x_H) (M' : x_N), m_tb z f' M0 M' G' → x_fr (fun q => q < 59) f0 f' → post (some (.int 1)) f') (k0 : R = none → ∀ (f' : x_H) (M' : x_N) (G' : q_G × Nat), m_tb z f' M0 M' G' → x_fr (fun q => q < 59) f0 f' → post (some (.int 0)) f') : ∀ (k i : Nat) (G : q_G × Nat) (f : x_H) (M : x_N), i + k = e → s + 1 ≤ i → q_ms2 (q_t L ℓ) k i G = R → m_tb z f M0 M G → x_fr (fun q => q < 59) f0 f → X E (x_rm 5 0 0) mX6_doesSowings (x_QM E z 0 0 post) 4 [(2, .int (nI i)), (0, .ref 59), (1, .int (nI s))] [] z f 0 0 := by
  have l2 := hL.2.1
  intro k
  induction k with
  | zero =>
    intro i G f M hi hsi hR hC hF
    have hi2 : i = e := by omega
    subst hi2
    have hR2 : some G = R := hR
    have hM := hC.1
    have hL' : q_M M L ℓ := hL.ks hC.2.2.2.2.2.1
    refine x_aload_n (pc' := 5) rfl rfl rfl ?_
    refine x_get (pc' := 8) rfl rfl rfl (hM.1) rfl ?_
    refine x_iload_n (pc' := 9) rfl rfl rfl ?_
    refine x_iaload (pc' := 10) rfl rfl (hM.2.1 4 (by decide)) (vp_in_nI (n := i) (N := 96) (by omega) (by decide)) ?_
    refine x_eqi ((q_M_at hL' he).trans (congrArg nI h59)) ?_
    refine x_bipush (pc' := 12) rfl rfl bipush_59 ?_
    refine x_icmp_eq (tgt := 64) (pc' := 15) rfl rfl rfl (fun _ => ?_) (fun c12 => absurd ((by decide : nI 59 = 59)) c12)
    refine x_iconst (pc' := 65) rfl rfl iconst_1 ?_
    exact x_ireturn rfl rfl rfl (Nat.le_of_ble_eq_true rfl) (Nat.le_of_ble_eq_true rfl) (k1 G hR2.symm _ _ hC hF)
  | succ k ih =>
    intro i G f M hi hsi hR hC hF
    have hd := hdg i hsi (by omega)
    have hda := hd.1
    have hdb := hd.2
    obtain ⟨hM, hm, h8, hok, hmv, hks, h18⟩ := id hC
    have hL' : q_M M L ℓ := hL.ks hks
    replace hR : (if g_can G.1 (q_t L ℓ i - 48) ∧ ¬ G.2 = 999 then q_ms2 (q_t L ℓ) k (i + 1) (g_mv G.1 (q_t L ℓ i - 48), G.2 + 1) else none) = R := hR
    refine x_aload_n (pc' := 5) rfl rfl rfl ?_
    refine x_get (pc' := 8) rfl rfl rfl (hM.1) rfl ?_
    refine x_iload_n (pc' := 9) rfl rfl rfl ?_
    refine x_iaload (pc' := 10) rfl rfl (hM.2.1 4 (by decide)) (vp_in_nI (n := i) (N := 96) (by omega) (by decide)) ?_
    refine x_eqi (q_M_at hL' (by omega)) ?_
    refine x_bipush (pc' := 12) rfl rfl bipush_59 ?_
    refine x_icmp_eq (tgt := 64) (pc' := 15) rfl rfl rfl (fun c12 => absurd c12 ((fun q => absurd ((nI_eq (a := q_t L ℓ i) (b := 59) (by omega) (by decide)).mp q) (by omega)))) (fun _ => ?_)
    refine x_aload_n (pc' := 16) rfl rfl rfl ?_
    refine x_aload_n (pc' := 17) rfl rfl rfl ?_
    refine x_iload_n (pc' := 18) rfl rfl rfl ?_
    refine x_cV1i (d := 1) (pc' := 21) rfl rfl sX6_132 gX6_digit (hM.1) ⟨Nat.le_of_ble_eq_true rfl, Nat.le_of_ble_eq_true rfl⟩ (Nat.le_of_ble_eq_true rfl) ⟨Nat.le_of_ble_eq_true rfl, Nat.le_of_ble_eq_true rfl⟩ ?_
    refine m_digit hM hL' (by omega) hda ⟨_, rfl, ?_⟩
    refine x_cV1i (d := 3) (pc' := 24) rfl rfl sX6_135 gX6_canMove (hM.1) ⟨Nat.le_of_ble_eq_true rfl, Nat.le_of_ble_eq_true rfl⟩ (Nat.le_of_ble_eq_true rfl) ⟨Nat.le_of_ble_eq_true rfl, Nat.le_of_ble_eq_true rfl⟩ ?_
    refine m_can1 hM hm hok (by decide) (by omega) (fun d2 => ⟨_, rfl, ?_⟩) (fun d2 => ⟨_, rfl, ?_⟩)
    · refine x_if_eq (tgt := 37) (pc' := 27) rfl rfl rfl (fun c24 => absurd c24 ((by decide))) (fun _ => ?_)
      refine x_aload_n (pc' := 28) rfl rfl rfl ?_
      refine x_get (pc' := 31) rfl rfl rfl (hM.1) rfl ?_
      refine x_eqi h8 ?_
      refine x_sipush (pc' := 34) rfl rfl sipush_999 ?_
      by_cases d3 : G.2 = 999
      · rw [if_neg (fun q => q.2 d3)] at hR
        refine x_icmp_ne (tgt := 39) (pc' := 37) rfl rfl rfl (fun q => absurd (by rw [d3]; decide) q) (fun _ => ?_)
        refine x_iconst (pc' := 38) rfl rfl iconst_0 ?_
        exact x_ireturn rfl rfl rfl (Nat.le_of_ble_eq_true rfl) (Nat.le_of_ble_eq_true rfl) (k0 hR.symm _ _ _ hC hF)
      · rw [if_pos ⟨d2, d3⟩] at hR
        refine x_icmp_ne (tgt := 39) (pc' := 37) rfl rfl rfl (fun _ => ?_) (fun q => absurd ((nI_eq (b := 999) (by omega) (by decide)).mp q) d3)
        refine x_aload_n (pc' := 40) rfl rfl rfl ?_
        refine x_aload_n (pc' := 41) rfl rfl rfl ?_
        refine x_iload_n (pc' := 42) rfl rfl rfl ?_
        refine x_cV1i (d := 1) (pc' := 45) rfl rfl sX6_132 gX6_digit (hM.1) ⟨Nat.le_of_ble_eq_true rfl, Nat.le_of_ble_eq_true rfl⟩ (Nat.le_of_ble_eq_true rfl) ⟨Nat.le_of_ble_eq_true rfl, Nat.le_of_ble_eq_true rfl⟩ ?_
        refine m_digit hM hL' (by omega) hda ⟨_, rfl, ?_⟩
        refine x_cV1v (d := 4) (pc' := 48) rfl rfl sX6_141 gX6_moves (hM.1) ⟨Nat.le_of_ble_eq_true rfl, Nat.le_of_ble_eq_true rfl⟩ (Nat.le_of_ble_eq_true rfl) ⟨Nat.le_of_ble_eq_true rfl, Nat.le_of_ble_eq_true rfl⟩ ?_
        refine m_mv hM hm hok (by decide) d2 ((hks.2 18 (by omega)).trans h18) (fun f1 M1 hM1 g1 kp1 e14 e15 e16 e17 hF1 => ⟨rfl, ?_⟩)
        have h81 : M1.1 8 = nI G.2 := (kp1.2.2 8 (by decide) (by decide) (by decide) (by decide) (by decide)).trans h8
        refine x_aload_n (pc' := 49) rfl rfl rfl ?_
        refine x_dup (pc' := 50) rfl rfl rfl ?_
        refine x_get (pc' := 53) rfl rfl rfl (hM1.1) rfl ?_
        refine x_eqi h81 ?_
        refine x_iconst (pc' := 54) rfl rfl iconst_1 ?_
        refine x_iadd (pc' := 55) rfl rfl ?_
        refine x_eqi (nI_1 _) ?_
        refine x_put (pc' := 58) rfl rfl rfl (hM1.1) (Nat.le_of_ble_eq_true rfl) rfl rfl rfl rfl (fun f1 e1 => ?_)
        have hM2 := hM1.num 8 e1 (x_mFs8 _ _)
        have hF2 := (hF.trans hF1).trans (r_fr0 e1 (by decide))
        refine x_iinc (pc' := 61) (lv' := [(2, _), (0, _), (1, _)]) rfl rfl (Nat.le_of_ble_eq_true rfl) rfl (nI_1 i) rfl ?_
        refine x_goto (tgt := 4) rfl rfl ?_
        exact ih (i + 1) _ _ (upd M1.1 8 (nI (G.2 + 1)), M1.2.1, M1.2.2) (by omega) (by omega) hR ⟨hM2, ⟨g1.1, g1.2.1, g1.2.2.1, g1.2.2.2.1, g1.2.2.2.2.1, g1.2.2.2.2.2.1, g1.2.2.2.2.2.2⟩, rfl, g_mv_ok hok (by decide) (by decide) d2.2.1, by show G.2 + 1 ≤ 999; omega, (hks.trans kp1.ks).trans ⟨fun _ _ _ _ => rfl, fun j hj => pk_un (by omega)⟩, h18⟩ hF2
    · rw [if_neg (fun q => d2 q.1)] at hR
      refine x_if_eq (tgt := 37) (pc' := 27) rfl rfl rfl (fun _ => ?_) (fun c24 => absurd (rfl) c24)
      refine x_iconst (pc' := 38) rfl rfl iconst_0 ?_
      exact x_ireturn rfl rfl rfl (Nat.le_of_ble_eq_true rfl) (Nat.le_of_ble_eq_true rfl) (k0 hR.symm _ _ _ hC hF)
theorem m_dos {s e : Nat} (hC : m_tb z f M0 M G) (hL : q_M M0 L ℓ) (he : e < L) (hse : s + 1 ≤ e) (h59 : q_t L ℓ e = 59) (hdg : ∀ j, s + 1 ≤ j → j < e → q_dg (q_t L ℓ j)) (k1 : ∀ G', q_ms2 (q_t L ℓ) (e - (s + 1)) (s + 1) G = some G' → ∀ (f' : x_H) (M' : x_N), m_tb z f' M0 M' G' → x_fr (fun q => q < 59) f f' → post (some (.int 1)) f') (k0 : q_ms2 (q_t L ℓ) (e - (s + 1)) (s + 1) G = none → ∀ (f' : x_H) (M' : x_N) (G' : q_G × Nat), m_tb z f' M0 M' G' → x_fr (fun q => q < 59) f f' → post (some (.int 0)) f') : Y E 5 mX6_doesSowings [.ref 59, .int (nI s)] z f 0 0 post := by
  refine Y.intro gX6_doesSowings (lv := [(0, .ref 59), (1, .int (nI s))]) rfl (Nat.le_of_ble_eq_true rfl) ?_
  refine x_iload_n (pc' := 1) rfl rfl rfl ?_
  refine x_iconst (pc' := 2) rfl rfl iconst_1 ?_
  refine x_iadd (pc' := 3) rfl rfl ?_
  refine x_eqi (nI_1 s) ?_
  refine x_istore_n (pc' := 4) (lv' := [(2, _), (0, _), (1, _)]) rfl rfl (Nat.le_of_ble_eq_true rfl) rfl ?_
  exact m_dosL hL he h59 hdg f _ k1 k0 (e - (s + 1)) (s + 1) G f M (by omega) (Nat.le_refl _) rfl hC x_fr.rf
theorem q_kd_48 {c : Nat} (h : ¬ q_kd c = 9) : 48 ≤ c := by
  unfold q_kd at h
  repeat' split at h
  all_goals omega
theorem m_does {s : Nat} (hC : m_tb z f M0 M G) (hL : q_M M0 L ℓ) (hs : s < L) (hsk : q_sk (q_t L ℓ) s = none) (h1 : ∀ G', q_do (q_t L ℓ) s G = some G' → ∀ (f' : x_H) (M' : x_N), m_tb z f' M0 M' G' → x_fr (fun q => q < 59) f f' → post (some (.int 1)) f') (h0 : q_do (q_t L ℓ) s G = none → ∀ (f' : x_H) (M' : x_N) (G' : q_G × Nat), m_tb z f' M0 M' G' → x_fr (fun q => q < 59) f f' → post (some (.int 0)) f') : Y E 6 mX6_does [.ref 59, .int (nI s)] z f 0 0 post := by
  refine Y.intro gX6_does (lv := [(0, .ref 59), (1, .int (nI s))]) rfl (Nat.le_of_ble_eq_true rfl) ?_
  obtain ⟨s1, s2, s3, s4⟩ := q_sk_no hsk
  obtain ⟨n1, n2, n3, n4⟩ := q_dn_is hsk
  have hdg := q_sk_dg hsk
  have l2 := hL.2.1
  obtain ⟨hM, hm, h8, hok, hmv, hks, h18⟩ := id hC
  have hn9 := hok.1
  have hL' : q_M M L ℓ := hL.ks hks
  have hel := q_ed_lt hL.2.2.2 hsk
  have hkk : ∀ G', q_do (q_t L ℓ) s G = some G' → g_ok 99 G'.1 ∧ G'.2 ≤ 999 := fun G' e => q_do_ok hsk hok hmv e
  obtain ⟨t1, t2, t3, t4, t5, t6, t7⟩ := id hm
  rcases q_md_in s1 with h98 | h99 | h102 | h108 | h116 | h115
  · have hdn := n1 h98
    have hp0 : q_p0 (q_t L ℓ) s = s + 2 := if_pos h98
    have hed : q_ed (q_t L ℓ) s = s + 4 := by unfold q_ed; rw [hp0, hdn]
    have hd2 := hdg (s + 2) (by omega) (by omega)
    have hd3 := hdg (s + 3) (by omega) (by omega)
    have hd2a := hd2.1
    have hd2b := hd2.2
    have hd3a := hd3.1
    have hd3b := hd3.2
    have hkd := s2 h98
    have hk48 := q_kd_48 hkd
    have hk5 := (q_kd_in hkd).2.2.2
    have hk255 := (q_kd_in hkd).2.2.1
    have hdo : q_do (q_t L ℓ) s G = if 20 < 10 * (q_t L ℓ (s + 2) - 48) + (q_t L ℓ (s + 3) - 48) ∨ g_n G.1 = 9 then none else some (g_add G.1 (q_kd (q_t L ℓ (s + 1))) (10 * (q_t L ℓ (s + 2) - 48) + (q_t L ℓ (s + 3) - 48)), G.2) := by
      unfold q_do
      rw [if_pos h98]
    rw [hdo] at h1 h0 hkk
    clear hdo
    refine x_aload_n (pc' := 1) rfl rfl rfl ?_
    refine x_get (pc' := 4) rfl rfl rfl (hM.1) rfl ?_
    refine x_iload_n (pc' := 5) rfl rfl rfl ?_
    refine x_iaload (pc' := 6) rfl rfl (hM.2.1 4 (by decide)) (vp_in_nI (n := s) (N := 96) (by omega) (by decide)) ?_
    refine x_eqi ((q_M_at hL' hs).trans (congrArg nI h98)) ?_
    refine x_istore_n (pc' := 7) (lv' := [(2, _), (0, _), (1, _)]) rfl rfl (Nat.le_of_ble_eq_true rfl) rfl ?_
    refine x_aload_n (pc' := 8) rfl rfl rfl ?_
    refine x_iload_n (pc' := 9) rfl rfl rfl ?_
    refine x_iconst (pc' := 10) rfl rfl iconst_1 ?_
    refine x_iadd (pc' := 11) rfl rfl ?_
    refine x_eqi (nI_1 s) ?_
    refine x_cV1i (d := 1) (pc' := 14) rfl rfl sX6_132 gX6_digit (hM.1) ⟨Nat.le_of_ble_eq_true rfl, Nat.le_of_ble_eq_true rfl⟩ (Nat.le_of_ble_eq_true rfl) ⟨Nat.le_of_ble_eq_true rfl, Nat.le_of_ble_eq_true rfl⟩ ?_
    refine m_digit hM hL' (by omega) hk48 ⟨_, rfl, ?_⟩
    refine x_istore_n (pc' := 15) (lv' := [(3, _), (2, _), (0, _), (1, _)]) rfl rfl (Nat.le_of_ble_eq_true rfl) rfl ?_
    refine x_iload_n (pc' := 16) rfl rfl rfl ?_
    refine x_bipush (pc' := 18) rfl rfl bipush_98 ?_
    refine x_icmp_ne (tgt := 102) (pc' := 21) rfl rfl rfl (fun c18 => absurd ((by decide : nI 98 = 98)) c18) (fun _ => ?_)
    refine x_bipush (pc' := 23) rfl rfl bipush_10 ?_
    refine x_aload_n (pc' := 24) rfl rfl rfl ?_
    refine x_iload_n (pc' := 25) rfl rfl rfl ?_
    refine x_iconst (pc' := 26) rfl rfl iconst_2 ?_
    refine x_iadd (pc' := 27) rfl rfl ?_
    refine x_eqi (show nI s + 2 = nI (s + 2) from nI_add s 2) ?_
    refine x_cV1i (d := 1) (pc' := 30) rfl rfl sX6_132 gX6_digit (hM.1) ⟨Nat.le_of_ble_eq_true rfl, Nat.le_of_ble_eq_true rfl⟩ (Nat.le_of_ble_eq_true rfl) ⟨Nat.le_of_ble_eq_true rfl, Nat.le_of_ble_eq_true rfl⟩ ?_
    refine m_digit hM hL' (by omega) hd2a ⟨_, rfl, ?_⟩
    refine x_imul (pc' := 31) rfl rfl ?_
    refine x_eqi (show 10 * nI (q_t L ℓ (s + 2) - 48) = nI (10 * (q_t L ℓ (s + 2) - 48)) from pk_mul 10 _) ?_
    refine x_aload_n (pc' := 32) rfl rfl rfl ?_
    refine x_iload_n (pc' := 33) rfl rfl rfl ?_
    refine x_iconst (pc' := 34) rfl rfl iconst_3 ?_
    refine x_iadd (pc' := 35) rfl rfl ?_
    refine x_eqi (show nI s + 3 = nI (s + 3) from nI_add s 3) ?_
    refine x_cV1i (d := 1) (pc' := 38) rfl rfl sX6_132 gX6_digit (hM.1) ⟨Nat.le_of_ble_eq_true rfl, Nat.le_of_ble_eq_true rfl⟩ (Nat.le_of_ble_eq_true rfl) ⟨Nat.le_of_ble_eq_true rfl, Nat.le_of_ble_eq_true rfl⟩ ?_
    refine m_digit hM hL' (by omega) hd3a ⟨_, rfl, ?_⟩
    refine x_iadd (pc' := 39) rfl rfl ?_
    refine x_eqi (nI_add _ _) ?_
    generalize hv : 10 * (q_t L ℓ (s + 2) - 48) + (q_t L ℓ (s + 3) - 48) = v at *
    refine x_istore (pc' := 41) (lv' := [(4, _), (3, _), (2, _), (0, _), (1, _)]) rfl rfl (Nat.le_of_ble_eq_true rfl) rfl ?_
    refine x_iload (pc' := 43) rfl rfl rfl ?_
    refine x_bipush (pc' := 45) rfl rfl bipush_20 ?_
    by_cases d1 : 20 < v
    · rw [if_pos (Or.inl d1)] at h0
      refine x_icmp_gt (tgt := 57) (pc' := 48) rfl rfl rfl (fun _ => ?_) (fun q => absurd (nI_lt (a := 20) d1 (by omega)) q)
      refine x_iconst (pc' := 58) rfl rfl iconst_0 ?_
      exact x_ireturn rfl rfl rfl (Nat.le_of_ble_eq_true rfl) (Nat.le_of_ble_eq_true rfl) (h0 rfl _ _ _ hC x_fr.rf)
    · refine x_icmp_gt (tgt := 57) (pc' := 48) rfl rfl rfl (fun q => absurd q (nI_nlt (a := 20) (by omega) (by decide))) (fun _ => ?_)
      refine x_aload_n (pc' := 49) rfl rfl rfl ?_
      refine x_get (pc' := 52) rfl rfl rfl (hM.1) rfl ?_
      refine x_eqi t4 ?_
      refine x_bipush (pc' := 54) rfl rfl bipush_9 ?_
      by_cases d2 : g_n G.1 = 9
      · rw [if_pos (Or.inr d2)] at h0
        refine x_icmp_ne (tgt := 59) (pc' := 57) rfl rfl rfl (fun q => absurd (by rw [d2]; decide) q) (fun _ => ?_)
        refine x_iconst (pc' := 58) rfl rfl iconst_0 ?_
        exact x_ireturn rfl rfl rfl (Nat.le_of_ble_eq_true rfl) (Nat.le_of_ble_eq_true rfl) (h0 rfl _ _ _ hC x_fr.rf)
      · refine x_icmp_ne (tgt := 59) (pc' := 57) rfl rfl rfl (fun _ => ?_) (fun q => absurd ((nI_eq (b := 9) (by omega) (by decide)).mp q) d2)
        have e10 : (if 20 < v ∨ g_n G.1 = 9 then none else some (g_add G.1 (q_kd (q_t L ℓ (s + 1))) v, G.2)) = some (g_add G.1 (q_kd (q_t L ℓ (s + 1))) v, G.2) := if_neg (fun q => q.elim d1 d2)
        refine x_aload_n (pc' := 60) rfl rfl rfl ?_
        refine x_get (pc' := 63) rfl rfl rfl (hM.1) rfl ?_
        refine x_aload_n (pc' := 64) rfl rfl rfl ?_
        refine x_get (pc' := 67) rfl rfl rfl (hM.1) rfl ?_
        refine x_eqi t4 ?_
        refine x_aload_n (pc' := 68) rfl rfl rfl ?_
        refine x_get (pc' := 71) rfl rfl rfl (hM.1) rfl ?_
        refine x_iload_n (pc' := 72) rfl rfl rfl ?_
        refine x_iconst (pc' := 73) rfl rfl iconst_1 ?_
        refine x_iadd (pc' := 74) rfl rfl ?_
        refine x_eqi (nI_1 s) ?_
        refine x_iaload (pc' := 75) rfl rfl (hM.2.1 4 (by decide)) (vp_in_nI (n := s + 1) (N := 96) (by omega) (by decide)) ?_
        refine x_eqi ((q_M_at hL' (by omega)).trans (q_cI_ne (by omega)).symm) ?_
        refine x_cS1i (d := 1) (pc' := 78) rfl rfl sX6_122 gX6_kindOf ⟨Nat.le_of_ble_eq_true rfl, Nat.le_of_ble_eq_true rfl⟩ (Nat.le_of_ble_eq_true rfl) ⟨Nat.le_of_ble_eq_true rfl, Nat.le_of_ble_eq_true rfl⟩ ?_
        refine m_kindO (by omega) ⟨_, rfl, ?_⟩
        rw [if_neg hkd]
        refine x_iastore (pc' := 79) rfl rfl (hM.2.1 0 (by decide)) (vp_in_nI (n := g_n G.1) (N := 9) (by omega) (by decide)) (fun f1 e1 => ?_)
        have hM1 := hM.arr 0 (by decide) e1
        have hF1 := r_fr0 e1 (by decide)
        refine x_aload_n (pc' := 80) rfl rfl rfl ?_
        refine x_get (pc' := 83) rfl rfl rfl (hM1.1) rfl ?_
        refine x_aload_n (pc' := 84) rfl rfl rfl ?_
        refine x_get (pc' := 87) rfl rfl rfl (hM1.1) rfl ?_
        refine x_eqi t4 ?_
        refine x_iload (pc' := 89) rfl rfl rfl ?_
        refine x_iastore (pc' := 90) rfl rfl (hM1.2.1 1 (by decide)) (vp_in_nI (n := g_n G.1) (N := 9) (by omega) (by decide)) (fun f2 e2 => ?_)
        have hM2 := hM1.arr 1 (by decide) e2
        have hF2 := hF1.trans (r_fr0 e2 (by decide))
        refine x_aload_n (pc' := 91) rfl rfl rfl ?_
        refine x_dup (pc' := 92) rfl rfl rfl ?_
        refine x_get (pc' := 95) rfl rfl rfl (hM2.1) rfl ?_
        refine x_eqi t4 ?_
        refine x_iconst (pc' := 96) rfl rfl iconst_1 ?_
        refine x_iadd (pc' := 97) rfl rfl ?_
        refine x_eqi (nI_1 _) ?_
        refine x_put (pc' := 100) rfl rfl rfl (hM2.1) (Nat.le_of_ble_eq_true rfl) rfl rfl rfl rfl (fun f3 e3 => ?_)
        have hM3 := hM2.num 3 e3 (x_mFs3 _ _)
        have hF3 := hF2.trans (r_fr0 e3 (by decide))
        refine x_iconst (pc' := 101) rfl rfl iconst_1 ?_
        refine x_ireturn rfl rfl rfl (Nat.le_of_ble_eq_true rfl) (Nat.le_of_ble_eq_true rfl) (h1 _ e10 _ _ ⟨hM3, ⟨?_, ?_, t3, rfl, t5, t6, t7⟩, h8, (hkk _ e10).1, (hkk _ e10).2, hks.trans ⟨fun j a b c => ?_, fun i hi => pk_un (by omega)⟩, h18⟩ hF3)
        · show upd (M.2.1 0) (nI (g_n G.1)).toNatClampNeg (nI (q_kd (q_t L ℓ (s + 1)))) = _
          rw [nI_clamp (by omega), t1, q_up_I]
          rfl
        · show upd (M.2.1 1) (nI (g_n G.1)).toNatClampNeg (nI v) = _
          rw [nI_clamp (by omega), t2, q_up_I]
          rfl
        · show x_ua (x_ua M.2.1 0 _) 1 _ j = M.2.1 j
          unfold x_ua
          rw [if_neg b, if_neg a]
  · have hdn := n2 h99
    have hp0 : q_p0 (q_t L ℓ) s = s + 1 := if_neg (by omega)
    have hed : q_ed (q_t L ℓ) s = s + 3 := by unfold q_ed; rw [hp0, hdn]
    have hd1 := hdg (s + 1) (by omega) (by omega)
    have hd2 := hdg (s + 2) (by omega) (by omega)
    have hd1a := hd1.1
    have hd2a := hd2.1
    have hv9 : q_t L ℓ (s + 1) - 48 ≤ 9 := by have := hd1.2; omega
    have hw9 : q_t L ℓ (s + 2) - 48 ≤ 9 := by have := hd2.2; omega
    have hdo : q_do (q_t L ℓ) s G = if q_t L ℓ (s + 1) - 48 < g_n G.1 ∧ q_t L ℓ (s + 2) - 48 < g_n G.1 ∧ ¬ q_t L ℓ (s + 1) - 48 = q_t L ℓ (s + 2) - 48 then some (g_sw G.1 (q_t L ℓ (s + 1) - 48) (q_t L ℓ (s + 2) - 48), G.2) else none := by
      unfold q_do
      rw [if_neg (by omega), if_neg (by omega), if_pos h99]
    rw [hdo] at h1 h0 hkk
    clear hdo
    refine x_aload_n (pc' := 1) rfl rfl rfl ?_
    refine x_get (pc' := 4) rfl rfl rfl (hM.1) rfl ?_
    refine x_iload_n (pc' := 5) rfl rfl rfl ?_
    refine x_iaload (pc' := 6) rfl rfl (hM.2.1 4 (by decide)) (vp_in_nI (n := s) (N := 96) (by omega) (by decide)) ?_
    refine x_eqi ((q_M_at hL' hs).trans (congrArg nI h99)) ?_
    refine x_istore_n (pc' := 7) (lv' := [(2, _), (0, _), (1, _)]) rfl rfl (Nat.le_of_ble_eq_true rfl) rfl ?_
    refine x_aload_n (pc' := 8) rfl rfl rfl ?_
    refine x_iload_n (pc' := 9) rfl rfl rfl ?_
    refine x_iconst (pc' := 10) rfl rfl iconst_1 ?_
    refine x_iadd (pc' := 11) rfl rfl ?_
    refine x_eqi (nI_1 s) ?_
    refine x_cV1i (d := 1) (pc' := 14) rfl rfl sX6_132 gX6_digit (hM.1) ⟨Nat.le_of_ble_eq_true rfl, Nat.le_of_ble_eq_true rfl⟩ (Nat.le_of_ble_eq_true rfl) ⟨Nat.le_of_ble_eq_true rfl, Nat.le_of_ble_eq_true rfl⟩ ?_
    refine m_digit hM hL' (by omega) hd1a ⟨_, rfl, ?_⟩
    refine x_istore_n (pc' := 15) (lv' := [(3, _), (2, _), (0, _), (1, _)]) rfl rfl (Nat.le_of_ble_eq_true rfl) rfl ?_
    refine x_iload_n (pc' := 16) rfl rfl rfl ?_
    refine x_bipush (pc' := 18) rfl rfl bipush_98 ?_
    refine x_icmp_ne (tgt := 102) (pc' := 21) rfl rfl rfl (fun _ => ?_) (fun c18 => absurd c18 ((by decide : ¬ nI 99 = 98)))
    refine x_iload_n (pc' := 103) rfl rfl rfl ?_
    refine x_bipush (pc' := 105) rfl rfl bipush_115 ?_
    refine x_icmp_ne (tgt := 114) (pc' := 108) rfl rfl rfl (fun _ => ?_) (fun c105 => absurd c105 ((by decide : ¬ nI 99 = 115)))
    refine x_iload_n (pc' := 115) rfl rfl rfl ?_
    refine x_bipush (pc' := 117) rfl rfl bipush_99 ?_
    refine x_icmp_ne (tgt := 163) (pc' := 120) rfl rfl rfl (fun c117 => absurd ((by decide : nI 99 = 99)) c117) (fun _ => ?_)
    refine x_aload_n (pc' := 121) rfl rfl rfl ?_
    refine x_iload_n (pc' := 122) rfl rfl rfl ?_
    refine x_iconst (pc' := 123) rfl rfl iconst_2 ?_
    refine x_iadd (pc' := 124) rfl rfl ?_
    refine x_eqi (show nI s + 2 = nI (s + 2) from nI_add s 2) ?_
    refine x_cV1i (d := 1) (pc' := 127) rfl rfl sX6_132 gX6_digit (hM.1) ⟨Nat.le_of_ble_eq_true rfl, Nat.le_of_ble_eq_true rfl⟩ (Nat.le_of_ble_eq_true rfl) ⟨Nat.le_of_ble_eq_true rfl, Nat.le_of_ble_eq_true rfl⟩ ?_
    refine m_digit hM hL' (by omega) hd2a ⟨_, rfl, ?_⟩
    generalize hv : q_t L ℓ (s + 1) - 48 = v at *
    generalize hw : q_t L ℓ (s + 2) - 48 = w at *
    refine x_istore (pc' := 129) (lv' := [(4, _), (3, _), (2, _), (0, _), (1, _)]) rfl rfl (Nat.le_of_ble_eq_true rfl) rfl ?_
    refine x_aload_n (pc' := 130) rfl rfl rfl ?_
    refine x_iload_n (pc' := 131) rfl rfl rfl ?_
    refine x_cV1i (d := 2) (pc' := 134) rfl rfl sX6_103 gX6_isBowl (hM.1) ⟨Nat.le_of_ble_eq_true rfl, Nat.le_of_ble_eq_true rfl⟩ (Nat.le_of_ble_eq_true rfl) ⟨Nat.le_of_ble_eq_true rfl, Nat.le_of_ble_eq_true rfl⟩ ?_
    refine m_isB hM hm hn9 (by omega) (fun d1 => ⟨_, rfl, ?_⟩) (fun d1 => ⟨_, rfl, ?_⟩)
    · refine x_if_eq (tgt := 152) (pc' := 137) rfl rfl rfl (fun c134 => absurd c134 ((by decide))) (fun _ => ?_)
      refine x_aload_n (pc' := 138) rfl rfl rfl ?_
      refine x_iload (pc' := 140) rfl rfl rfl ?_
      refine x_cV1i (d := 2) (pc' := 143) rfl rfl sX6_103 gX6_isBowl (hM.1) ⟨Nat.le_of_ble_eq_true rfl, Nat.le_of_ble_eq_true rfl⟩ (Nat.le_of_ble_eq_true rfl) ⟨Nat.le_of_ble_eq_true rfl, Nat.le_of_ble_eq_true rfl⟩ ?_
      refine m_isB hM hm hn9 (by omega) (fun d2 => ⟨_, rfl, ?_⟩) (fun d2 => ⟨_, rfl, ?_⟩)
      · refine x_if_eq (tgt := 152) (pc' := 146) rfl rfl rfl (fun c143 => absurd c143 ((by decide))) (fun _ => ?_)
        refine x_iload_n (pc' := 147) rfl rfl rfl ?_
        refine x_iload (pc' := 149) rfl rfl rfl ?_
        by_cases d3 : v = w
        · rw [if_neg (fun q => q.2.2 d3)] at h0
          refine x_icmp_ne (tgt := 154) (pc' := 152) rfl rfl rfl (fun q => absurd (by rw [d3]) q) (fun _ => ?_)
          refine x_iconst (pc' := 153) rfl rfl iconst_0 ?_
          exact x_ireturn rfl rfl rfl (Nat.le_of_ble_eq_true rfl) (Nat.le_of_ble_eq_true rfl) (h0 rfl _ _ _ hC x_fr.rf)
        · refine x_icmp_ne (tgt := 154) (pc' := 152) rfl rfl rfl (fun _ => ?_) (fun q => absurd ((nI_eq (by omega) (by omega)).mp q) d3)
          have e10 : (if v < g_n G.1 ∧ w < g_n G.1 ∧ ¬ v = w then some (g_sw G.1 v w, G.2) else none) = some (g_sw G.1 v w, G.2) := if_pos ⟨d1, d2, d3⟩
          refine x_aload_n (pc' := 155) rfl rfl rfl ?_
          refine x_iload_n (pc' := 156) rfl rfl rfl ?_
          refine x_iload (pc' := 158) rfl rfl rfl ?_
          refine x_cV2v (d := 1) (pc' := 161) rfl rfl sX6_147 gX6_exchanges (hM.1) ⟨Nat.le_of_ble_eq_true rfl, Nat.le_of_ble_eq_true rfl⟩ (Nat.le_of_ble_eq_true rfl) ⟨Nat.le_of_ble_eq_true rfl, Nat.le_of_ble_eq_true rfl⟩ ?_
          refine m_exch (v := v) (w := w) hM (by omega) (by omega) (fun f1 hM1 hF1 => ⟨rfl, ?_⟩)
          refine x_iconst (pc' := 162) rfl rfl iconst_1 ?_
          refine x_ireturn rfl rfl rfl (Nat.le_of_ble_eq_true rfl) (Nat.le_of_ble_eq_true rfl) (h1 _ e10 _ _ ⟨hM1, ⟨t1, ?_, t3, t4, t5, t6, t7⟩, h8, (hkk _ e10).1, (hkk _ e10).2, hks.trans ⟨fun j a b c => if_neg b, fun i hi => rfl⟩, h18⟩ hF1)
          show upd (upd (M.2.1 1) v (M.2.1 1 w)) w (M.2.1 1 v) = _
          rw [t2, q_up_I, q_up_I]
          rfl
      · rw [if_neg (fun q => d2 q.2.1)] at h0
        refine x_if_eq (tgt := 152) (pc' := 146) rfl rfl rfl (fun _ => ?_) (fun c143 => absurd (rfl) c143)
        refine x_iconst (pc' := 153) rfl rfl iconst_0 ?_
        exact x_ireturn rfl rfl rfl (Nat.le_of_ble_eq_true rfl) (Nat.le_of_ble_eq_true rfl) (h0 rfl _ _ _ hC x_fr.rf)
    · rw [if_neg (fun q => d1 q.1)] at h0
      refine x_if_eq (tgt := 152) (pc' := 137) rfl rfl rfl (fun _ => ?_) (fun c134 => absurd (rfl) c134)
      refine x_iconst (pc' := 153) rfl rfl iconst_0 ?_
      exact x_ireturn rfl rfl rfl (Nat.le_of_ble_eq_true rfl) (Nat.le_of_ble_eq_true rfl) (h0 rfl _ _ _ hC x_fr.rf)
  · have hdn := n3 (by omega)
    have hp0 : q_p0 (q_t L ℓ) s = s + 1 := if_neg (by omega)
    have hed : q_ed (q_t L ℓ) s = s + 2 := by unfold q_ed; rw [hp0, hdn]
    have hd1 := hdg (s + 1) (by omega) (by omega)
    have hd1a := hd1.1
    have hv9 : q_t L ℓ (s + 1) - 48 ≤ 9 := by have := hd1.2; omega
    have hdo : q_do (q_t L ℓ) s G = if q_t L ℓ (s + 1) - 48 = 0 then none else some ((G.1.1, G.1.2.1, G.1.2.2.1, g_n G.1, q_t L ℓ (s + 1) - 48, g_l G.1, g_t G.1), G.2) := by
      unfold q_do
      rw [if_neg (by omega), if_neg (by omega), if_neg (by omega), if_pos h102]
    rw [hdo] at h1 h0 hkk
    clear hdo
    refine x_aload_n (pc' := 1) rfl rfl rfl ?_
    refine x_get (pc' := 4) rfl rfl rfl (hM.1) rfl ?_
    refine x_iload_n (pc' := 5) rfl rfl rfl ?_
    refine x_iaload (pc' := 6) rfl rfl (hM.2.1 4 (by decide)) (vp_in_nI (n := s) (N := 96) (by omega) (by decide)) ?_
    refine x_eqi ((q_M_at hL' hs).trans (congrArg nI h102)) ?_
    refine x_istore_n (pc' := 7) (lv' := [(2, _), (0, _), (1, _)]) rfl rfl (Nat.le_of_ble_eq_true rfl) rfl ?_
    refine x_aload_n (pc' := 8) rfl rfl rfl ?_
    refine x_iload_n (pc' := 9) rfl rfl rfl ?_
    refine x_iconst (pc' := 10) rfl rfl iconst_1 ?_
    refine x_iadd (pc' := 11) rfl rfl ?_
    refine x_eqi (nI_1 s) ?_
    refine x_cV1i (d := 1) (pc' := 14) rfl rfl sX6_132 gX6_digit (hM.1) ⟨Nat.le_of_ble_eq_true rfl, Nat.le_of_ble_eq_true rfl⟩ (Nat.le_of_ble_eq_true rfl) ⟨Nat.le_of_ble_eq_true rfl, Nat.le_of_ble_eq_true rfl⟩ ?_
    refine m_digit hM hL' (by omega) hd1a ⟨_, rfl, ?_⟩
    generalize hv : q_t L ℓ (s + 1) - 48 = v at *
    refine x_istore_n (pc' := 15) (lv' := [(3, _), (2, _), (0, _), (1, _)]) rfl rfl (Nat.le_of_ble_eq_true rfl) rfl ?_
    refine x_iload_n (pc' := 16) rfl rfl rfl ?_
    refine x_bipush (pc' := 18) rfl rfl bipush_98 ?_
    refine x_icmp_ne (tgt := 102) (pc' := 21) rfl rfl rfl (fun _ => ?_) (fun c18 => absurd c18 ((by decide : ¬ nI 102 = 98)))
    refine x_iload_n (pc' := 103) rfl rfl rfl ?_
    refine x_bipush (pc' := 105) rfl rfl bipush_115 ?_
    refine x_icmp_ne (tgt := 114) (pc' := 108) rfl rfl rfl (fun _ => ?_) (fun c105 => absurd c105 ((by decide : ¬ nI 102 = 115)))
    refine x_iload_n (pc' := 115) rfl rfl rfl ?_
    refine x_bipush (pc' := 117) rfl rfl bipush_99 ?_
    refine x_icmp_ne (tgt := 163) (pc' := 120) rfl rfl rfl (fun _ => ?_) (fun c117 => absurd c117 ((by decide : ¬ nI 102 = 99)))
    refine x_iload_n (pc' := 164) rfl rfl rfl ?_
    refine x_bipush (pc' := 166) rfl rfl bipush_102 ?_
    refine x_icmp_ne (tgt := 176) (pc' := 169) rfl rfl rfl (fun c166 => absurd ((by decide : nI 102 = 102)) c166) (fun _ => ?_)
    refine x_iload_n (pc' := 170) rfl rfl rfl ?_
    by_cases d1 : v = 0
    · rw [if_pos d1] at h0
      refine x_if_ne (tgt := 183) (pc' := 173) rfl rfl rfl (fun q => absurd (by rw [d1]; rfl) q) (fun _ => ?_)
      refine x_goto (tgt := 181) rfl rfl ?_
      refine x_iconst (pc' := 182) rfl rfl iconst_0 ?_
      exact x_ireturn rfl rfl rfl (Nat.le_of_ble_eq_true rfl) (Nat.le_of_ble_eq_true rfl) (h0 rfl _ _ _ hC x_fr.rf)
    · refine x_if_ne (tgt := 183) (pc' := 173) rfl rfl rfl (fun _ => ?_) (fun q => absurd q (nI_ne0 (by omega) (by omega)))
      have e10 : (if v = 0 then none else some ((G.1.1, G.1.2.1, G.1.2.2.1, g_n G.1, v, g_l G.1, g_t G.1), G.2)) = some ((G.1.1, G.1.2.1, G.1.2.2.1, g_n G.1, v, g_l G.1, g_t G.1), G.2) := if_neg d1
      refine x_iload_n (pc' := 184) rfl rfl rfl ?_
      refine x_bipush (pc' := 186) rfl rfl bipush_102 ?_
      refine x_icmp_ne (tgt := 197) (pc' := 189) rfl rfl rfl (fun c186 => absurd ((by decide : nI 102 = 102)) c186) (fun _ => ?_)
      refine x_aload_n (pc' := 190) rfl rfl rfl ?_
      refine x_iload_n (pc' := 191) rfl rfl rfl ?_
      refine x_put (pc' := 194) rfl rfl rfl (hM.1) (Nat.le_of_ble_eq_true rfl) rfl rfl rfl rfl (fun f1 e1 => ?_)
      have hM1 := hM.num 4 e1 (x_mFs4 _ _)
      have hF1 := r_fr0 e1 (by decide)
      refine x_goto (tgt := 216) rfl rfl ?_
      refine x_iconst (pc' := 217) rfl rfl iconst_1 ?_
      exact x_ireturn rfl rfl rfl (Nat.le_of_ble_eq_true rfl) (Nat.le_of_ble_eq_true rfl) (h1 _ e10 _ _ ⟨hM1, ⟨t1, t2, t3, t4, rfl, t6, t7⟩, h8, (hkk _ e10).1, (hkk _ e10).2, hks.trans ⟨fun j a b c => rfl, fun i hi => pk_un (by omega)⟩, h18⟩ hF1)
  · have hdn := n3 (by omega)
    have hp0 : q_p0 (q_t L ℓ) s = s + 1 := if_neg (by omega)
    have hed : q_ed (q_t L ℓ) s = s + 2 := by unfold q_ed; rw [hp0, hdn]
    have hd1 := hdg (s + 1) (by omega) (by omega)
    have hd1a := hd1.1
    have hv9 : q_t L ℓ (s + 1) - 48 ≤ 9 := by have := hd1.2; omega
    have hdo : q_do (q_t L ℓ) s G = if 1 < q_t L ℓ (s + 1) - 48 then none else some ((G.1.1, G.1.2.1, G.1.2.2.1, g_n G.1, g_f G.1, q_t L ℓ (s + 1) - 48, g_t G.1), G.2) := by
      unfold q_do
      rw [if_neg (by omega), if_neg (by omega), if_neg (by omega), if_neg (by omega), if_pos h108]
    rw [hdo] at h1 h0 hkk
    clear hdo
    refine x_aload_n (pc' := 1) rfl rfl rfl ?_
    refine x_get (pc' := 4) rfl rfl rfl (hM.1) rfl ?_
    refine x_iload_n (pc' := 5) rfl rfl rfl ?_
    refine x_iaload (pc' := 6) rfl rfl (hM.2.1 4 (by decide)) (vp_in_nI (n := s) (N := 96) (by omega) (by decide)) ?_
    refine x_eqi ((q_M_at hL' hs).trans (congrArg nI h108)) ?_
    refine x_istore_n (pc' := 7) (lv' := [(2, _), (0, _), (1, _)]) rfl rfl (Nat.le_of_ble_eq_true rfl) rfl ?_
    refine x_aload_n (pc' := 8) rfl rfl rfl ?_
    refine x_iload_n (pc' := 9) rfl rfl rfl ?_
    refine x_iconst (pc' := 10) rfl rfl iconst_1 ?_
    refine x_iadd (pc' := 11) rfl rfl ?_
    refine x_eqi (nI_1 s) ?_
    refine x_cV1i (d := 1) (pc' := 14) rfl rfl sX6_132 gX6_digit (hM.1) ⟨Nat.le_of_ble_eq_true rfl, Nat.le_of_ble_eq_true rfl⟩ (Nat.le_of_ble_eq_true rfl) ⟨Nat.le_of_ble_eq_true rfl, Nat.le_of_ble_eq_true rfl⟩ ?_
    refine m_digit hM hL' (by omega) hd1a ⟨_, rfl, ?_⟩
    generalize hv : q_t L ℓ (s + 1) - 48 = v at *
    refine x_istore_n (pc' := 15) (lv' := [(3, _), (2, _), (0, _), (1, _)]) rfl rfl (Nat.le_of_ble_eq_true rfl) rfl ?_
    refine x_iload_n (pc' := 16) rfl rfl rfl ?_
    refine x_bipush (pc' := 18) rfl rfl bipush_98 ?_
    refine x_icmp_ne (tgt := 102) (pc' := 21) rfl rfl rfl (fun _ => ?_) (fun c18 => absurd c18 ((by decide : ¬ nI 108 = 98)))
    refine x_iload_n (pc' := 103) rfl rfl rfl ?_
    refine x_bipush (pc' := 105) rfl rfl bipush_115 ?_
    refine x_icmp_ne (tgt := 114) (pc' := 108) rfl rfl rfl (fun _ => ?_) (fun c105 => absurd c105 ((by decide : ¬ nI 108 = 115)))
    refine x_iload_n (pc' := 115) rfl rfl rfl ?_
    refine x_bipush (pc' := 117) rfl rfl bipush_99 ?_
    refine x_icmp_ne (tgt := 163) (pc' := 120) rfl rfl rfl (fun _ => ?_) (fun c117 => absurd c117 ((by decide : ¬ nI 108 = 99)))
    refine x_iload_n (pc' := 164) rfl rfl rfl ?_
    refine x_bipush (pc' := 166) rfl rfl bipush_102 ?_
    refine x_icmp_ne (tgt := 176) (pc' := 169) rfl rfl rfl (fun _ => ?_) (fun c166 => absurd c166 ((by decide : ¬ nI 108 = 102)))
    refine x_iload_n (pc' := 177) rfl rfl rfl ?_
    refine x_iconst (pc' := 178) rfl rfl iconst_1 ?_
    by_cases d1 : 1 < v
    · rw [if_pos d1] at h0
      refine x_icmp_le (tgt := 183) (pc' := 181) rfl rfl rfl (fun q => absurd q (nI_ge (a := 1) d1 (by omega))) (fun _ => ?_)
      refine x_iconst (pc' := 182) rfl rfl iconst_0 ?_
      exact x_ireturn rfl rfl rfl (Nat.le_of_ble_eq_true rfl) (Nat.le_of_ble_eq_true rfl) (h0 rfl _ _ _ hC x_fr.rf)
    · refine x_icmp_le (tgt := 183) (pc' := 181) rfl rfl rfl (fun _ => ?_) (fun q => absurd (nI_le (b := 1) (by omega) (by decide)) q)
      have e10 : (if 1 < v then none else some ((G.1.1, G.1.2.1, G.1.2.2.1, g_n G.1, g_f G.1, v, g_t G.1), G.2)) = some ((G.1.1, G.1.2.1, G.1.2.2.1, g_n G.1, g_f G.1, v, g_t G.1), G.2) := if_neg d1
      refine x_iload_n (pc' := 184) rfl rfl rfl ?_
      refine x_bipush (pc' := 186) rfl rfl bipush_102 ?_
      refine x_icmp_ne (tgt := 197) (pc' := 189) rfl rfl rfl (fun _ => ?_) (fun c186 => absurd c186 ((by decide : ¬ nI 108 = 102)))
      refine x_iload_n (pc' := 198) rfl rfl rfl ?_
      refine x_bipush (pc' := 200) rfl rfl bipush_108 ?_
      refine x_icmp_ne (tgt := 211) (pc' := 203) rfl rfl rfl (fun c200 => absurd ((by decide : nI 108 = 108)) c200) (fun _ => ?_)
      refine x_aload_n (pc' := 204) rfl rfl rfl ?_
      refine x_iload_n (pc' := 205) rfl rfl rfl ?_
      refine x_put (pc' := 208) rfl rfl rfl (hM.1) (Nat.le_of_ble_eq_true rfl) rfl rfl rfl rfl (fun f1 e1 => ?_)
      have hM1 := hM.num 5 e1 (x_mFs5 _ _)
      have hF1 := r_fr0 e1 (by decide)
      refine x_goto (tgt := 216) rfl rfl ?_
      refine x_iconst (pc' := 217) rfl rfl iconst_1 ?_
      exact x_ireturn rfl rfl rfl (Nat.le_of_ble_eq_true rfl) (Nat.le_of_ble_eq_true rfl) (h1 _ e10 _ _ ⟨hM1, ⟨t1, t2, t3, t4, t5, rfl, t7⟩, h8, (hkk _ e10).1, (hkk _ e10).2, hks.trans ⟨fun j a b c => rfl, fun i hi => pk_un (by omega)⟩, h18⟩ hF1)
  · have hdn := n3 (by omega)
    have hp0 : q_p0 (q_t L ℓ) s = s + 1 := if_neg (by omega)
    have hed : q_ed (q_t L ℓ) s = s + 2 := by unfold q_ed; rw [hp0, hdn]
    have hd1 := hdg (s + 1) (by omega) (by omega)
    have hd1a := hd1.1
    have hv9 : q_t L ℓ (s + 1) - 48 ≤ 9 := by have := hd1.2; omega
    have hdo : q_do (q_t L ℓ) s G = if 1 < q_t L ℓ (s + 1) - 48 then none else some ((G.1.1, G.1.2.1, G.1.2.2.1, g_n G.1, g_f G.1, g_l G.1, q_t L ℓ (s + 1) - 48), G.2) := by
      unfold q_do
      rw [if_neg (by omega), if_neg (by omega), if_neg (by omega), if_neg (by omega), if_neg (by omega)]
    rw [hdo] at h1 h0 hkk
    clear hdo
    refine x_aload_n (pc' := 1) rfl rfl rfl ?_
    refine x_get (pc' := 4) rfl rfl rfl (hM.1) rfl ?_
    refine x_iload_n (pc' := 5) rfl rfl rfl ?_
    refine x_iaload (pc' := 6) rfl rfl (hM.2.1 4 (by decide)) (vp_in_nI (n := s) (N := 96) (by omega) (by decide)) ?_
    refine x_eqi ((q_M_at hL' hs).trans (congrArg nI h116)) ?_
    refine x_istore_n (pc' := 7) (lv' := [(2, _), (0, _), (1, _)]) rfl rfl (Nat.le_of_ble_eq_true rfl) rfl ?_
    refine x_aload_n (pc' := 8) rfl rfl rfl ?_
    refine x_iload_n (pc' := 9) rfl rfl rfl ?_
    refine x_iconst (pc' := 10) rfl rfl iconst_1 ?_
    refine x_iadd (pc' := 11) rfl rfl ?_
    refine x_eqi (nI_1 s) ?_
    refine x_cV1i (d := 1) (pc' := 14) rfl rfl sX6_132 gX6_digit (hM.1) ⟨Nat.le_of_ble_eq_true rfl, Nat.le_of_ble_eq_true rfl⟩ (Nat.le_of_ble_eq_true rfl) ⟨Nat.le_of_ble_eq_true rfl, Nat.le_of_ble_eq_true rfl⟩ ?_
    refine m_digit hM hL' (by omega) hd1a ⟨_, rfl, ?_⟩
    generalize hv : q_t L ℓ (s + 1) - 48 = v at *
    refine x_istore_n (pc' := 15) (lv' := [(3, _), (2, _), (0, _), (1, _)]) rfl rfl (Nat.le_of_ble_eq_true rfl) rfl ?_
    refine x_iload_n (pc' := 16) rfl rfl rfl ?_
    refine x_bipush (pc' := 18) rfl rfl bipush_98 ?_
    refine x_icmp_ne (tgt := 102) (pc' := 21) rfl rfl rfl (fun _ => ?_) (fun c18 => absurd c18 ((by decide : ¬ nI 116 = 98)))
    refine x_iload_n (pc' := 103) rfl rfl rfl ?_
    refine x_bipush (pc' := 105) rfl rfl bipush_115 ?_
    refine x_icmp_ne (tgt := 114) (pc' := 108) rfl rfl rfl (fun _ => ?_) (fun c105 => absurd c105 ((by decide : ¬ nI 116 = 115)))
    refine x_iload_n (pc' := 115) rfl rfl rfl ?_
    refine x_bipush (pc' := 117) rfl rfl bipush_99 ?_
    refine x_icmp_ne (tgt := 163) (pc' := 120) rfl rfl rfl (fun _ => ?_) (fun c117 => absurd c117 ((by decide : ¬ nI 116 = 99)))
    refine x_iload_n (pc' := 164) rfl rfl rfl ?_
    refine x_bipush (pc' := 166) rfl rfl bipush_102 ?_
    refine x_icmp_ne (tgt := 176) (pc' := 169) rfl rfl rfl (fun _ => ?_) (fun c166 => absurd c166 ((by decide : ¬ nI 116 = 102)))
    refine x_iload_n (pc' := 177) rfl rfl rfl ?_
    refine x_iconst (pc' := 178) rfl rfl iconst_1 ?_
    by_cases d1 : 1 < v
    · rw [if_pos d1] at h0
      refine x_icmp_le (tgt := 183) (pc' := 181) rfl rfl rfl (fun q => absurd q (nI_ge (a := 1) d1 (by omega))) (fun _ => ?_)
      refine x_iconst (pc' := 182) rfl rfl iconst_0 ?_
      exact x_ireturn rfl rfl rfl (Nat.le_of_ble_eq_true rfl) (Nat.le_of_ble_eq_true rfl) (h0 rfl _ _ _ hC x_fr.rf)
    · refine x_icmp_le (tgt := 183) (pc' := 181) rfl rfl rfl (fun _ => ?_) (fun q => absurd (nI_le (b := 1) (by omega) (by decide)) q)
      have e10 : (if 1 < v then none else some ((G.1.1, G.1.2.1, G.1.2.2.1, g_n G.1, g_f G.1, g_l G.1, v), G.2)) = some ((G.1.1, G.1.2.1, G.1.2.2.1, g_n G.1, g_f G.1, g_l G.1, v), G.2) := if_neg d1
      refine x_iload_n (pc' := 184) rfl rfl rfl ?_
      refine x_bipush (pc' := 186) rfl rfl bipush_102 ?_
      refine x_icmp_ne (tgt := 197) (pc' := 189) rfl rfl rfl (fun _ => ?_) (fun c186 => absurd c186 ((by decide : ¬ nI 116 = 102)))
      refine x_iload_n (pc' := 198) rfl rfl rfl ?_
      refine x_bipush (pc' := 200) rfl rfl bipush_108 ?_
      refine x_icmp_ne (tgt := 211) (pc' := 203) rfl rfl rfl (fun _ => ?_) (fun c200 => absurd c200 ((by decide : ¬ nI 116 = 108)))
      refine x_aload_n (pc' := 212) rfl rfl rfl ?_
      refine x_iload_n (pc' := 213) rfl rfl rfl ?_
      refine x_put (pc' := 216) rfl rfl rfl (hM.1) (Nat.le_of_ble_eq_true rfl) rfl rfl rfl rfl (fun f1 e1 => ?_)
      have hM1 := hM.num 7 e1 (x_mFs7 _ _)
      have hF1 := r_fr0 e1 (by decide)
      refine x_iconst (pc' := 217) rfl rfl iconst_1 ?_
      exact x_ireturn rfl rfl rfl (Nat.le_of_ble_eq_true rfl) (Nat.le_of_ble_eq_true rfl) (h1 _ e10 _ _ ⟨hM1, ⟨t1, t2, t3, t4, t5, t6, rfl⟩, h8, (hkk _ e10).1, (hkk _ e10).2, hks.trans ⟨fun j a b c => rfl, fun i hi => pk_un (by omega)⟩, h18⟩ hF1)
  · have hdn := n4 h115
    have hp0 : q_p0 (q_t L ℓ) s = s + 1 := if_neg (by omega)
    have hed : q_ed (q_t L ℓ) s = s + 1 + q_dn (q_t L ℓ) s := by unfold q_ed; rw [hp0]
    have hd1 := hdg (s + 1) (by omega) (by omega)
    have hd1a := hd1.1
    have hdo : q_do (q_t L ℓ) s G = q_ms2 (q_t L ℓ) (q_ed (q_t L ℓ) s - (s + 1)) (s + 1) G := by
      unfold q_do
      rw [if_neg (by omega), if_pos h115, hed, show s + 1 + q_dn (q_t L ℓ) s - (s + 1) = q_dn (q_t L ℓ) s by omega]
    rw [hdo] at h1 h0
    refine x_aload_n (pc' := 1) rfl rfl rfl ?_
    refine x_get (pc' := 4) rfl rfl rfl (hM.1) rfl ?_
    refine x_iload_n (pc' := 5) rfl rfl rfl ?_
    refine x_iaload (pc' := 6) rfl rfl (hM.2.1 4 (by decide)) (vp_in_nI (n := s) (N := 96) (by omega) (by decide)) ?_
    refine x_eqi ((q_M_at hL' hs).trans (congrArg nI h115)) ?_
    refine x_istore_n (pc' := 7) (lv' := [(2, _), (0, _), (1, _)]) rfl rfl (Nat.le_of_ble_eq_true rfl) rfl ?_
    refine x_aload_n (pc' := 8) rfl rfl rfl ?_
    refine x_iload_n (pc' := 9) rfl rfl rfl ?_
    refine x_iconst (pc' := 10) rfl rfl iconst_1 ?_
    refine x_iadd (pc' := 11) rfl rfl ?_
    refine x_eqi (nI_1 s) ?_
    refine x_cV1i (d := 1) (pc' := 14) rfl rfl sX6_132 gX6_digit (hM.1) ⟨Nat.le_of_ble_eq_true rfl, Nat.le_of_ble_eq_true rfl⟩ (Nat.le_of_ble_eq_true rfl) ⟨Nat.le_of_ble_eq_true rfl, Nat.le_of_ble_eq_true rfl⟩ ?_
    refine m_digit hM hL' (by omega) hd1a ⟨_, rfl, ?_⟩
    refine x_istore_n (pc' := 15) (lv' := [(3, _), (2, _), (0, _), (1, _)]) rfl rfl (Nat.le_of_ble_eq_true rfl) rfl ?_
    refine x_iload_n (pc' := 16) rfl rfl rfl ?_
    refine x_bipush (pc' := 18) rfl rfl bipush_98 ?_
    refine x_icmp_ne (tgt := 102) (pc' := 21) rfl rfl rfl (fun _ => ?_) (fun c18 => absurd c18 ((by decide : ¬ nI 115 = 98)))
    refine x_iload_n (pc' := 103) rfl rfl rfl ?_
    refine x_bipush (pc' := 105) rfl rfl bipush_115 ?_
    refine x_icmp_ne (tgt := 114) (pc' := 108) rfl rfl rfl (fun c105 => absurd ((by decide : nI 115 = 115)) c105) (fun _ => ?_)
    refine x_aload_n (pc' := 109) rfl rfl rfl ?_
    refine x_iload_n (pc' := 110) rfl rfl rfl ?_
    refine x_cV1i (d := 5) (pc' := 113) rfl rfl sX6_144 gX6_doesSowings (hM.1) ⟨Nat.le_of_ble_eq_true rfl, Nat.le_of_ble_eq_true rfl⟩ (Nat.le_of_ble_eq_true rfl) ⟨Nat.le_of_ble_eq_true rfl, Nat.le_of_ble_eq_true rfl⟩ ?_
    refine m_dos (s := s) (e := q_ed (q_t L ℓ) s) hC hL hel (by omega) s4 (fun j hj => hdg j (by omega)) (fun G' e9 f9 M9 hC9 hF9 => ⟨_, rfl, ?_⟩) (fun e9 f9 M9 G9 hC9 hF9 => ⟨_, rfl, ?_⟩)
    · exact x_ireturn rfl rfl rfl (Nat.le_of_ble_eq_true rfl) (Nat.le_of_ble_eq_true rfl) (h1 _ e9 _ _ hC9 hF9)
    · exact x_ireturn rfl rfl rfl (Nat.le_of_ble_eq_true rfl) (Nat.le_of_ble_eq_true rfl) (h0 e9 _ _ _ hC9 hF9)
end GS
