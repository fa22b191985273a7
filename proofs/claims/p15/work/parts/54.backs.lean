/-! Back and loop: the reference's records; weak contracts where the state alone is told. -/
/-- beans behind a sowing aside -/
def g_as (g : q_G) (b : Nat) : q_G := (g_κ g, q_b1 (g_v g b).1 0 (g_v g b).2.2.2, g_π g, g_n g, g_f g, g_l g, g_t g)
theorem g_as_ok {C : Nat} {g : q_G} {b : Nat} (h : g_ok C g) (hC : 99 ≤ C) (hC2 : C ≤ 100) (hb : b < g_n g) : g_ok C (g_as g b) := by
  obtain ⟨v1, v2, v3⟩ := g_v_ok h hC hC2 hb
  obtain ⟨a1, a2, a3, a4, a5, a6, a7, a8, a9⟩ := h
  refine ⟨a1, a2, a3, a4, a5, q_b1_le v1, a7, fun i hi => ⟨(a8 i hi).1, ?_⟩, a9⟩
  show q_b1 (g_v g b).1 0 (g_v g b).2.2.2 i = 0
  have h3 : (g_v g b).1 i = 0 := (v3 i (by omega)).trans (a8 i hi).2
  unfold q_b1
  split
  · unfold q_up
    split
    · rfl
    · exact h3
  · exact h3
/-- sown so many times -/
def g_sq (b : Nat) : Nat → q_G → q_G
  | 0, g => g
  | k + 1, g => g_as (g_sq b k g) b
/-- how many times it can be sown -/
def g_rc (b : Nat) : Nat → Nat → q_G → Nat
  | 0, i, _ => i
  | k + 1, i, g => if g_can (g_sq b i g) b then g_rc b k (i + 1) g else i
theorem g_sq_st (b : Nat) (g : q_G) : ∀ k, g_κ (g_sq b k g) = g_κ g ∧ g_π (g_sq b k g) = g_π g ∧ g_n (g_sq b k g) = g_n g ∧ g_f (g_sq b k g) = g_f g ∧ g_l (g_sq b k g) = g_l g ∧ g_t (g_sq b k g) = g_t g
  | 0 => ⟨rfl, rfl, rfl, rfl, rfl, rfl⟩
  | k + 1 => g_sq_st b g k
theorem g_sq_ok {C : Nat} {g : q_G} {b : Nat} (h : g_ok C g) (hC : 99 ≤ C) (hC2 : C ≤ 100) (hb : b < g_n g) : ∀ k, g_ok C (g_sq b k g)
  | 0 => h
  | k + 1 => g_as_ok (g_sq_ok h hC hC2 hb k) hC hC2 (by rw [(g_sq_st b g k).2.2.1]; exact hb)
theorem g_sq_ly (b : Nat) (g : q_G) (k : Nat) : g_ly g (g_sq b k g) = g := by
  obtain ⟨h1, h2, h3, h4, h5, h6⟩ := g_sq_st b g k
  show (g_κ (g_sq b k g), g_β g, g_π g, g_n (g_sq b k g), g_f (g_sq b k g), g_l (g_sq b k g), g_t g) = g
  rw [h1, h3, h4, h5]
theorem g_rc_le (b : Nat) : ∀ (k i : Nat) (g : q_G), i ≤ g_rc b k i g ∧ g_rc b k i g ≤ i + k
  | 0, i, g => ⟨Nat.le_refl _, Nat.le_refl _⟩
  | k + 1, i, g => by
    unfold g_rc
    split
    · have := g_rc_le b k (i + 1) g
      omega
    · omega
/-- a ring kept at place 9 k -/
def x_bn (k m : Nat) (bs old : Nat → Int32) : Nat → Int32 := fun j => if 9 * k ≤ j ∧ j < 9 * k + m then bs (j - 9 * k) else old j
theorem x_bn_0 (k : Nat) (bs old : Nat → Int32) : x_bn k 0 bs old = old := by
  funext j
  unfold x_bn
  rw [if_neg (by omega)]
theorem x_bn_s (k m : Nat) (bs old : Nat → Int32) : upd (x_bn k m bs old) (9 * k + m) (bs m) = x_bn k (m + 1) bs old := by
  funext j
  unfold upd x_bn
  by_cases h : j = 9 * k + m
  · rw [if_pos h, if_pos (by omega), show j - 9 * k = m by omega]
  · rw [if_neg h]
    by_cases h2 : 9 * k ≤ j ∧ j < 9 * k + m
    · rw [if_pos h2, if_pos (by omega)]
    · rw [if_neg h2, if_neg (by omega)]
/-- rings 0 .. n are kept -/
def m_bn (M : x_N) (b n : Nat) (g : q_G) : Prop := ∀ j, j ≤ n → ∀ i, i < 9 → M.2.1 8 (9 * j + i) = nI (g_β (g_sq b j g) i)
section BK
variable {E : x_E} {z : Nat} {f : x_H} {S : x_S} {M : x_N} {A : q_A} {post : Option Value → x_H → Prop} {a b : Int32} {g : q_G} {C : Nat}
theorem m_recL {k : Nat} (hk : k ≤ 200) (f0 : x_H) (M0 : x_N) (h : ∀ f' : x_H, x_Mdl z f' (M0.1, x_ua M0.2.1 8 (x_bn k 9 (M0.2.1 1) (M0.2.1 8)), M0.2.2) → x_fr (fun q => q < 59) f0 f' → post none f') : ∀ (m i : Nat) (f : x_H), i + m = 9 → x_Mdl z f (M0.1, x_ua M0.2.1 8 (x_bn k i (M0.2.1 1) (M0.2.1 8)), M0.2.2) → x_fr (fun q => q < 59) f0 f → X E (x_rm 1 0 0) mX6_records (x_QM E z 0 0 post) 2 [(2, .int (nI i)), (0, .ref 59), (1, .int (nI k))] [] z f 0 0 := by
  intro m
  induction m with
  | zero =>
    intro i f hi hM hF
    have hi2 : i = 9 := by omega
    subst hi2
    refine x_iload_n (pc' := 3) rfl rfl rfl ?_
    refine x_bipush (pc' := 5) rfl rfl bipush_9 ?_
    refine x_icmp_ge (tgt := 31) (pc' := 8) rfl rfl rfl (fun _ => ?_) (fun c5 => absurd ((by decide : (9 : Int32) ≤ nI 9)) c5)
    exact x_return rfl rfl (Nat.le_of_ble_eq_true rfl) (Nat.le_of_ble_eq_true rfl) (h _ hM hF)
  | succ m ih =>
    intro i f hi hM hF
    have hcl : (nI i).toNatClampNeg = i := nI_clamp (by omega)
    have hcl2 : (nI (9 * k + i)).toNatClampNeg = 9 * k + i := nI_clamp (by omega)
    refine x_iload_n (pc' := 3) rfl rfl rfl ?_
    refine x_bipush (pc' := 5) rfl rfl bipush_9 ?_
    refine x_icmp_ge (tgt := 31) (pc' := 8) rfl rfl rfl (fun c5 => absurd c5 ((nI_ge (a := i) (b := 9) (by omega) (by decide)))) (fun _ => ?_)
    refine x_aload_n (pc' := 9) rfl rfl rfl ?_
    refine x_get (pc' := 12) rfl rfl rfl (hM.1) rfl ?_
    refine x_bipush (pc' := 14) rfl rfl bipush_9 ?_
    refine x_iload_n (pc' := 15) rfl rfl rfl ?_
    refine x_imul (pc' := 16) rfl rfl ?_
    refine x_eqi (show (9 : Int32) * nI k = nI (9 * k) from pk_mul 9 k) ?_
    refine x_iload_n (pc' := 17) rfl rfl rfl ?_
    refine x_iadd (pc' := 18) rfl rfl ?_
    refine x_eqi (nI_add _ _) ?_
    refine x_aload_n (pc' := 19) rfl rfl rfl ?_
    refine x_get (pc' := 22) rfl rfl rfl (hM.1) rfl ?_
    refine x_iload_n (pc' := 23) rfl rfl rfl ?_
    refine x_iaload (pc' := 24) rfl rfl (hM.2.1 1 (by decide)) (vp_in_nI (n := i) (N := 9) (by omega) (by decide)) ?_
    refine x_eqi (show M0.2.1 1 (nI i).toNatClampNeg = M0.2.1 1 i from by rw [hcl]) ?_
    refine x_iastore (pc' := 25) rfl rfl (hM.2.1 8 (by decide)) (vp_in_nI (n := 9 * k + i) (N := 1809) (by omega) (by decide)) (fun f1 e1 => ?_)
    have hM1 := hM.arr 8 (by decide) e1
    have hF1 := hF.up e1 (by decide)
    refine x_iinc (pc' := 28) (lv' := [(2, _), (0, _), (1, _)]) rfl rfl (Nat.le_of_ble_eq_true rfl) rfl (nI_1 i) rfl ?_
    refine x_goto (tgt := 2) rfl rfl ?_
    refine ih (i + 1) _ (by omega) ?_ hF1
    have e9 : x_ua (x_ua M0.2.1 8 (x_bn k i (M0.2.1 1) (M0.2.1 8))) 8 (upd (x_bn k i (M0.2.1 1) (M0.2.1 8)) (nI (9 * k + i)).toNatClampNeg (M0.2.1 1 i)) = x_ua M0.2.1 8 (x_bn k (i + 1) (M0.2.1 1) (M0.2.1 8)) := by rw [x_ua_ua, hcl2, x_bn_s]
    rw [← e9]
    exact hM1
theorem m_records {k : Nat} (hk : k ≤ 200) (hM : x_Mdl z f M) (h : ∀ f' : x_H, x_Mdl z f' (M.1, x_ua M.2.1 8 (x_bn k 9 (M.2.1 1) (M.2.1 8)), M.2.2) → x_fr (fun q => q < 59) f f' → post none f') : Y E 1 mX6_records [.ref 59, .int (nI k)] z f 0 0 post := by
  refine Y.intro gX6_records (lv := [(0, .ref 59), (1, .int (nI k))]) rfl (Nat.le_of_ble_eq_true rfl) ?_
  refine x_iconst (pc' := 1) rfl rfl iconst_0 ?_
  refine x_istore_n (pc' := 2) (lv' := [(2, _), (0, _), (1, _)]) rfl rfl (Nat.le_of_ble_eq_true rfl) rfl ?_
  exact m_recL hk f M h 9 0 f (by omega) (by rw [x_bn_0, x_ua_id]; exact hM) x_fr.rf
/-- what else records200 leaves -/
def m_kr (M M' : x_N) : Prop := (∀ j, j ≠ 1 → j ≠ 2 → j ≠ 8 → M'.2.1 j = M.2.1 j) ∧ (∀ i, i ≠ 14 → i ≠ 15 → i ≠ 16 → i ≠ 17 → M'.1 i = M.1 i)
theorem m_r2L {b : Nat} (hok : g_ok 99 g) (hb : b < g_n g) (f0 : x_H) (M0 : x_N) (hm0 : M0.1 18 = 1) (K : ∀ (f' : x_H) (M' : x_N) (n : Nat), n ≤ 200 → n = g_rc b 200 0 g → x_Mdl z f' M' → m_is M' (g_sq b n g) → m_kr M0 M' → m_bn M' b n g → x_fr (fun q => q < 59) f0 f' → X E (x_rm 6 0 0) mX6_records200 (x_QM E z 0 0 post) 49 [(2, .int (nI n)), (0, .ref 59), (1, .int (nI b))] [] z f' 0 0) : ∀ (k i : Nat) (f : x_H) (M : x_N), i + k = 200 → g_rc b k i g = g_rc b 200 0 g → x_Mdl z f M → m_is M (g_sq b i g) → m_kr M0 M → m_bn M b i g → x_fr (fun q => q < 59) f0 f → X E (x_rm 6 0 0) mX6_records200 (x_QM E z 0 0 post) 18 [(2, .int (nI i)), (0, .ref 59), (1, .int (nI b))] [] z f 0 0 := by
  intro k
  induction k with
  | zero =>
    intro i f M hi he hM hm hk hbn hF
    have hi2 : i = 200 := by omega
    subst hi2
    refine x_iload_n (pc' := 19) rfl rfl rfl ?_
    refine x_sipush (pc' := 22) rfl rfl sipush_200 ?_
    refine x_icmp_ge (tgt := 49) (pc' := 25) rfl rfl rfl (fun _ => ?_) (fun c22 => absurd ((by decide : (200 : Int32) ≤ nI 200)) c22)
    exact K _ _ 200 (by omega) he hM hm hk hbn hF
  | succ k ih =>
    intro i f M hi he hM hm hk hbn hF
    have oi := g_sq_ok hok (by decide) (by decide) hb i
    obtain ⟨s1, s2, s3, s4, s5, s6⟩ := g_sq_st b g i
    replace he : (if g_can (g_sq b i g) b then g_rc b k (i + 1) g else i) = g_rc b 200 0 g := he
    obtain ⟨t1, t2, t3, t4, t5, t6, t7⟩ := id hm
    obtain ⟨o1, o2, o3, o4, o5, o6, o7, o8, o9⟩ := id oi
    refine x_iload_n (pc' := 19) rfl rfl rfl ?_
    refine x_sipush (pc' := 22) rfl rfl sipush_200 ?_
    refine x_icmp_ge (tgt := 49) (pc' := 25) rfl rfl rfl (fun c22 => absurd c22 ((nI_ge (a := i) (b := 200) (by omega) (by decide)))) (fun _ => ?_)
    refine x_aload_n (pc' := 26) rfl rfl rfl ?_
    refine x_iload_n (pc' := 27) rfl rfl rfl ?_
    refine x_cV1i (d := 3) (pc' := 30) rfl rfl sX6_135 gX6_canMove (hM.1) ⟨Nat.le_of_ble_eq_true rfl, Nat.le_of_ble_eq_true rfl⟩ (Nat.le_of_ble_eq_true rfl) ⟨Nat.le_of_ble_eq_true rfl, Nat.le_of_ble_eq_true rfl⟩ ?_
    refine m_can1 hM hm oi (by decide) (by have := hok.1; omega) (fun d2 => ⟨_, rfl, ?_⟩) (fun d2 => ⟨_, rfl, ?_⟩)
    · rw [if_pos d2] at he
      refine x_if_eq (tgt := 49) (pc' := 33) rfl rfl rfl (fun c30 => absurd c30 ((by decide))) (fun _ => ?_)
      refine x_aload_n (pc' := 34) rfl rfl rfl ?_
      refine x_iload_n (pc' := 35) rfl rfl rfl ?_
      refine x_cV1v (d := 3) (pc' := 38) rfl rfl sX6_106 gX6_sows (hM.1) ⟨Nat.le_of_ble_eq_true rfl, Nat.le_of_ble_eq_true rfl⟩ (Nat.le_of_ble_eq_true rfl) ⟨Nat.le_of_ble_eq_true rfl, Nat.le_of_ble_eq_true rfl⟩ ?_
      refine m_sows (a := 1) hM t4 o1 t5 (by omega) t6 (by omega) t1 o5 t2 (fun x => Nat.le_trans (o6 x) (by decide)) d2.2.1 d2.1 d2.2.2 t7 o4 t3 (fun x => by have := o7 x; omega) ((hk.2 18 (by decide) (by decide) (by decide) (by decide)).trans hm0) (by decide) (fun f1 M1 hM1 w hF1 => ⟨rfl, ?_⟩)
      obtain ⟨w1, w2, w3, w4, w5, w6, w7, w8, w9⟩ := w
      rw [if_pos rfl] at w1
      have hm1 : m_is M1 (g_sq b (i + 1) g) := ⟨(w3 0 (by decide) (by decide)).trans t1, w1, w2, (w5 3 (by decide) (by decide) (by decide) (by decide)).trans t4, (w5 4 (by decide) (by decide) (by decide) (by decide)).trans t5, (w5 5 (by decide) (by decide) (by decide) (by decide)).trans t6, (w5 7 (by decide) (by decide) (by decide) (by decide)).trans t7⟩
      have hk1 : m_kr M0 M1 := ⟨fun j j1 j2 j3 => (w3 j j1 j2).trans (hk.1 j j1 j2 j3), fun j j1 j2 j3 j4 => (w5 j j1 j2 j3 j4).trans (hk.2 j j1 j2 j3 j4)⟩
      refine x_iinc (pc' := 41) (lv' := [(2, _), (0, _), (1, _)]) rfl rfl (Nat.le_of_ble_eq_true rfl) rfl (nI_1 i) rfl ?_
      refine x_aload_n (pc' := 42) rfl rfl rfl ?_
      refine x_iload_n (pc' := 43) rfl rfl rfl ?_
      refine x_cV1v (d := 1) (pc' := 46) rfl rfl sX6_186 gX6_records (hM1.1) ⟨Nat.le_of_ble_eq_true rfl, Nat.le_of_ble_eq_true rfl⟩ (Nat.le_of_ble_eq_true rfl) ⟨Nat.le_of_ble_eq_true rfl, Nat.le_of_ble_eq_true rfl⟩ ?_
      refine m_records (k := i + 1) (by omega) hM1 (fun f2 hM2 hF2 => ⟨rfl, ?_⟩)
      refine x_goto (tgt := 18) rfl rfl ?_
      refine ih (i + 1) f2 _ (by omega) he hM2 hm1 ⟨fun j j1 j2 j3 => (if_neg j3).trans (hk1.1 j j1 j2 j3), hk1.2⟩ ?_ ((hF.trans hF1).trans hF2)
      intro j hj x hx
      show x_bn (i + 1) 9 (M1.2.1 1) (M1.2.1 8) (9 * j + x) = _
      unfold x_bn
      by_cases hji : j = i + 1
      · subst hji
        rw [if_pos (by omega), show 9 * (i + 1) + x - 9 * (i + 1) = x by omega, hm1.2.1]
      · rw [if_neg (by omega), w3 8 (by decide) (by decide)]
        exact hbn j (by omega) x hx
    · rw [if_neg d2] at he
      refine x_if_eq (tgt := 49) (pc' := 33) rfl rfl rfl (fun _ => ?_) (fun c30 => absurd (rfl) c30)
      exact K _ _ i (by omega) he hM hm hk hbn hF
theorem m_records200 {b : Nat} (hM : x_Mdl z f M) (hA : r_is M A) (ho : a_ok A) (hb : b < g_n (a_g A)) (h : ∀ (f' : x_H) (M' : x_N) (n : Nat), n ≤ 200 → n = g_rc b 200 0 (a_g A) → x_Mdl z f' M' → r_is M' A → m_bn M' b n (a_g A) → x_fr (fun q => q < 59) f f' → post (some (.int (nI n))) f') : Y E 6 mX6_records200 [.ref 59, .int (nI b)] z f 0 0 post := by
  refine Y.intro gX6_records200 (lv := [(0, .ref 59), (1, .int (nI b))]) rfl (Nat.le_of_ble_eq_true rfl) ?_
  obtain ⟨b1, b2, b3, b4, b5, b6, b7, b8, b9⟩ := id hA
  refine x_aload_n (pc' := 1) rfl rfl rfl ?_
  refine x_bipush (pc' := 3) rfl rfl bipush_6 ?_
  refine x_cV1v (d := 1) (pc' := 6) rfl rfl sX6_154 gX6_keeps (hM.1) ⟨Nat.le_of_ble_eq_true rfl, Nat.le_of_ble_eq_true rfl⟩ (Nat.le_of_ble_eq_true rfl) ⟨Nat.le_of_ble_eq_true rfl, Nat.le_of_ble_eq_true rfl⟩ ?_
  refine m_keeps (l := 6) (by decide) hM b1 (fun f1 M1 hM1 g1 k1 fr1 hF1 => ⟨rfl, ?_⟩)
  refine x_aload_n (pc' := 7) rfl rfl rfl ?_
  refine x_iconst (pc' := 8) rfl rfl iconst_1 ?_
  refine x_put (pc' := 11) rfl rfl rfl (hM1.1) (Nat.le_of_ble_eq_true rfl) rfl rfl rfl rfl (fun f1 e1 => ?_)
  have hM2 := hM1.num 18 e1 (x_mFs18 _ _)
  have hF2 := hF1.up e1 (by decide)
  refine x_iconst (pc' := 12) rfl rfl iconst_0 ?_
  refine x_istore_n (pc' := 13) (lv' := [(2, _), (0, _), (1, _)]) rfl rfl (Nat.le_of_ble_eq_true rfl) rfl ?_
  refine x_aload_n (pc' := 14) rfl rfl rfl ?_
  refine x_iconst (pc' := 15) rfl rfl iconst_0 ?_
  refine x_cV1v (d := 1) (pc' := 18) rfl rfl sX6_186 gX6_records (hM2.1) ⟨Nat.le_of_ble_eq_true rfl, Nat.le_of_ble_eq_true rfl⟩ (Nat.le_of_ble_eq_true rfl) ⟨Nat.le_of_ble_eq_true rfl, Nat.le_of_ble_eq_true rfl⟩ ?_
  refine m_records (k := 0) (by decide) hM2 (fun f3 hM3 hF3 => ⟨rfl, ?_⟩)
  refine x_lvp [0, 1, 2] rfl ?_
  refine m_r2L (g := a_g A) ho.1 hb f3 (upd M1.1 18 1, x_ua M1.2.1 8 (x_bn 0 9 (M1.2.1 1) (M1.2.1 8)), M1.2.2) rfl ?_ 200 0 f3 _ (by omega) rfl hM3 g1 ⟨fun _ _ _ _ => rfl, fun _ _ _ _ _ => rfl⟩ ?_ x_fr.rf
  · intro f4 M4 n hn hne hM4 hm4 hk4 hbn4 hF4
    have hfr4 : m_fr M4 6 (a_g A) := fr1.eq (hk4.1 6 (by decide) (by decide) (by decide))
    have ok4 := g_sq_ok ho.1 (by decide) (by decide) hb n
    refine x_aload_n (pc' := 50) rfl rfl rfl ?_
    refine x_iconst (pc' := 51) rfl rfl iconst_0 ?_
    refine x_put (pc' := 54) rfl rfl rfl (hM4.1) (Nat.le_of_ble_eq_true rfl) rfl rfl rfl rfl (fun f2 e2 => ?_)
    have hM5 := hM4.num 18 e2 (x_mFs18 _ _)
    have hF5 := hF4.up e2 (by decide)
    refine x_aload_n (pc' := 55) rfl rfl rfl ?_
    refine x_bipush (pc' := 57) rfl rfl bipush_6 ?_
    refine x_cV1v (d := 1) (pc' := 60) rfl rfl sX6_160 gX6_lays (hM5.1) ⟨Nat.le_of_ble_eq_true rfl, Nat.le_of_ble_eq_true rfl⟩ (Nat.le_of_ble_eq_true rfl) ⟨Nat.le_of_ble_eq_true rfl, Nat.le_of_ble_eq_true rfl⟩ ?_
    refine m_lays (l := 6) (g := a_g A) (by decide) hM5 hm4 hfr4 ho.1 ok4 (fun f6 M6 hM6 g6 y1 y2 y3 hF6 => ⟨rfl, ?_⟩)
    rw [g_sq_ly] at g6
    refine x_iload_n (pc' := 61) rfl rfl rfl ?_
    refine x_ireturn rfl rfl rfl (Nat.le_refl _) (Nat.le_refl _) (h f6 M6 n hn hne hM6 (hA.sc ⟨fun i hi => ?_, fun j hj => ?_⟩ g6) (fun j hj i hi => ?_) (((hF2.trans hF3).trans hF5).trans hF6))
    · rw [y1 i (by omega)]
      by_cases h18 : i = 18
      · subst h18
        exact b3.symm
      · refine (pk_un h18).trans ((hk4.2 i (by omega) (by omega) (by omega) (by omega)).trans ((pk_un h18).trans ?_))
        rw [k1.1]
    · rw [y2 j (by omega) (by omega)]
      refine (hk4.1 j (by omega) (by omega) (by omega)).trans ((if_neg (by omega)).trans (k1.2.1 j (by omega)))
    · rw [y2 8 (by decide) (by decide)]
      exact hbn4 j hj i hi
  · intro j hj x hx
    have hj0 : j = 0 := by omega
    subst hj0
    show x_bn 0 9 (M1.2.1 1) (M1.2.1 8) (9 * 0 + x) = _
    unfold x_bn
    rw [if_pos (by omega), show 9 * 0 + x - 9 * 0 = x by omega, g1.2.1]
    rfl
theorem m_likeL {j k n : Nat} {β γ : Nat → Nat} (hM : x_Mdl z f M) (hj : j ≤ 200) (hk : k ≤ 200) (hn : M.1 3 = nI n) (hn9 : n ≤ 9) (hβ : ∀ i, i < 9 → M.2.1 8 (9 * j + i) = nI (β i)) (hγ : ∀ i, i < 9 → M.2.1 8 (9 * k + i) = nI (γ i)) (hβ5 : ∀ i, β i ≤ 100) (hγ5 : ∀ i, γ i ≤ 100) (h1 : (∀ i, i < n → β i = γ i) → post (some (.int 1)) f) (h0 : ¬ (∀ i, i < n → β i = γ i) → post (some (.int 0)) f) : ∀ (m i : Nat), i + m = n → (∀ x, x < i → β x = γ x) → X E (x_rm 1 0 0) mX6_isLike (x_QM E z 0 0 post) 2 [(3, .int (nI i)), (0, .ref 59), (1, .int (nI j)), (2, .int (nI k))] [] z f 0 0 := by
  intro m
  induction m with
  | zero =>
    intro i hi hx
    refine x_iload_n (pc' := 3) rfl rfl rfl ?_
    refine x_aload_n (pc' := 4) rfl rfl rfl ?_
    refine x_get (pc' := 7) rfl rfl rfl (hM.1) rfl ?_
    refine x_eqi hn ?_
    refine x_icmp_ge (tgt := 43) (pc' := 10) rfl rfl rfl (fun _ => ?_) (fun c7 => absurd ((nI_le (by omega) (by omega))) c7)
    refine x_iconst (pc' := 44) rfl rfl iconst_1 ?_
    exact x_ireturn rfl rfl rfl (Nat.le_of_ble_eq_true rfl) (Nat.le_of_ble_eq_true rfl) (h1 (fun x hx2 => hx x (by omega)))
  | succ m ih =>
    intro i hi hx
    have e1 : M.2.1 8 (nI (9 * j + i)).toNatClampNeg = nI (β i) := by rw [nI_clamp (by omega)]; exact hβ i (by omega)
    have e2 : M.2.1 8 (nI (9 * k + i)).toNatClampNeg = nI (γ i) := by rw [nI_clamp (by omega)]; exact hγ i (by omega)
    have k1 := hβ5 i
    have k2 := hγ5 i
    refine x_iload_n (pc' := 3) rfl rfl rfl ?_
    refine x_aload_n (pc' := 4) rfl rfl rfl ?_
    refine x_get (pc' := 7) rfl rfl rfl (hM.1) rfl ?_
    refine x_eqi hn ?_
    refine x_icmp_ge (tgt := 43) (pc' := 10) rfl rfl rfl (fun c7 => absurd c7 ((nI_ge (by omega) (by omega)))) (fun _ => ?_)
    refine x_aload_n (pc' := 11) rfl rfl rfl ?_
    refine x_get (pc' := 14) rfl rfl rfl (hM.1) rfl ?_
    refine x_bipush (pc' := 16) rfl rfl bipush_9 ?_
    refine x_iload_n (pc' := 17) rfl rfl rfl ?_
    refine x_imul (pc' := 18) rfl rfl ?_
    refine x_eqi (show (9 : Int32) * nI j = nI (9 * j) from pk_mul 9 j) ?_
    refine x_iload_n (pc' := 19) rfl rfl rfl ?_
    refine x_iadd (pc' := 20) rfl rfl ?_
    refine x_eqi (nI_add _ _) ?_
    refine x_iaload (pc' := 21) rfl rfl (hM.2.1 8 (by decide)) (vp_in_nI (n := 9 * j + i) (N := 1809) (by omega) (by decide)) ?_
    refine x_eqi e1 ?_
    refine x_aload_n (pc' := 22) rfl rfl rfl ?_
    refine x_get (pc' := 25) rfl rfl rfl (hM.1) rfl ?_
    refine x_bipush (pc' := 27) rfl rfl bipush_9 ?_
    refine x_iload_n (pc' := 28) rfl rfl rfl ?_
    refine x_imul (pc' := 29) rfl rfl ?_
    refine x_eqi (show (9 : Int32) * nI k = nI (9 * k) from pk_mul 9 k) ?_
    refine x_iload_n (pc' := 30) rfl rfl rfl ?_
    refine x_iadd (pc' := 31) rfl rfl ?_
    refine x_eqi (nI_add _ _) ?_
    refine x_iaload (pc' := 32) rfl rfl (hM.2.1 8 (by decide)) (vp_in_nI (n := 9 * k + i) (N := 1809) (by omega) (by decide)) ?_
    refine x_eqi e2 ?_
    refine x_icmp_eq (tgt := 37) (pc' := 35) rfl rfl rfl (fun c32 => ?_) (fun c32 => ?_)
    · have d := (nI_eq (by omega) (by omega)).mp c32
      refine x_iinc (pc' := 40) (lv' := [(3, _), (0, _), (1, _), (2, _)]) rfl rfl (Nat.le_of_ble_eq_true rfl) rfl (nI_1 i) rfl ?_
      refine x_goto (tgt := 2) rfl rfl ?_
      refine ih (i + 1) (by omega) (fun x hx2 => ?_)
      by_cases h9 : x = i
      · rw [h9]
        exact d
      · exact hx x (by omega)
    · have d : ¬ β i = γ i := fun q => c32 (by rw [q])
      refine x_iconst (pc' := 36) rfl rfl iconst_0 ?_
      exact x_ireturn rfl rfl rfl (Nat.le_of_ble_eq_true rfl) (Nat.le_of_ble_eq_true rfl) (h0 (fun q => d (q i (by omega))))
theorem m_like {j k n : Nat} {β γ : Nat → Nat} (hM : x_Mdl z f M) (hj : j ≤ 200) (hk : k ≤ 200) (hn : M.1 3 = nI n) (hn9 : n ≤ 9) (hβ : ∀ i, i < 9 → M.2.1 8 (9 * j + i) = nI (β i)) (hγ : ∀ i, i < 9 → M.2.1 8 (9 * k + i) = nI (γ i)) (hβ5 : ∀ i, β i ≤ 100) (hγ5 : ∀ i, γ i ≤ 100) (h1 : (∀ i, i < n → β i = γ i) → post (some (.int 1)) f) (h0 : ¬ (∀ i, i < n → β i = γ i) → post (some (.int 0)) f) : Y E 1 mX6_isLike [.ref 59, .int (nI j), .int (nI k)] z f 0 0 post := by
  refine Y.intro gX6_isLike (lv := [(0, .ref 59), (1, .int (nI j)), (2, .int (nI k))]) rfl (Nat.le_of_ble_eq_true rfl) ?_
  refine x_iconst (pc' := 1) rfl rfl iconst_0 ?_
  refine x_istore_n (pc' := 2) (lv' := [(3, _), (0, _), (1, _), (2, _)]) rfl rfl (Nat.le_of_ble_eq_true rfl) rfl ?_
  exact m_likeL hM hj hk hn hn9 hβ hγ hβ5 hγ5 h1 h0 n 0 (by omega) (fun x hx => absurd hx (Nat.not_lt_zero x))
/-- the first ring among k .. n that is like ring 0 -/
def q_bk (b : Nat) (g : q_G) : Nat → Nat → Int32
  | 0, _ => -9
  | m + 1, k => if (∀ x, x < g_n g → g_β g x = g_β (g_sq b k g) x) then nI k else q_bk b g m (k + 1)
def s_backR (A : q_A) (a : Int32) : q_A × Int32 := if q_in (g_n (a_g A)) a then (A, q_bk a.toNatClampNeg (a_g A) (g_rc a.toNatClampNeg 200 0 (a_g A)) 1) else (s_no A 1, -1)
theorem r_backL {b n : Nat} (ho : a_ok A) (hb : b < g_n (a_g A)) (hn : n ≤ 200) (hM : x_Mdl z f M) (hA : r_is M A) (hbn : m_bn M b n (a_g A)) (r : Int32) (h : post (some (.int r)) f) : ∀ (m k : Nat), k + m = n + 1 → 1 ≤ k → q_bk b (a_g A) m k = r → X E (x_rm 9 0 0) mX6_back (x_QM E z 0 0 post) 22 [(3, .int (nI k)), (2, .int (nI n)), (0, .ref 59), (1, .int (nI b))] [] z f 0 0 := by
  have hokx : ∀ x i, g_β (g_sq b x (a_g A)) i ≤ 100 := fun x i => Nat.le_trans ((g_sq_ok ho.1 (by decide) (by decide) hb x).2.2.2.2.2.1 i) (by decide)
  intro m
  induction m with
  | zero =>
    intro k hk h1 he
    have he2 : (-9 : Int32) = r := he
    subst he2
    refine x_iload_n (pc' := 23) rfl rfl rfl ?_
    refine x_iload_n (pc' := 24) rfl rfl rfl ?_
    refine x_icmp_gt (tgt := 44) (pc' := 27) rfl rfl rfl (fun _ => ?_) (fun c24 => absurd ((nI_lt (by omega) (by omega))) c24)
    refine x_bipush (pc' := 46) rfl rfl bipush_m9 ?_
    exact x_ireturn rfl rfl rfl (Nat.le_of_ble_eq_true rfl) (Nat.le_of_ble_eq_true rfl) (h)
  | succ m ih =>
    intro k hk h1 he
    replace he : (if (∀ x, x < g_n (a_g A) → g_β (a_g A) x = g_β (g_sq b k (a_g A)) x) then nI k else q_bk b (a_g A) m (k + 1)) = r := he
    refine x_iload_n (pc' := 23) rfl rfl rfl ?_
    refine x_iload_n (pc' := 24) rfl rfl rfl ?_
    refine x_icmp_gt (tgt := 44) (pc' := 27) rfl rfl rfl (fun c24 => absurd c24 ((nI_nlt (by omega) (by omega)))) (fun _ => ?_)
    refine x_aload_n (pc' := 28) rfl rfl rfl ?_
    refine x_iconst (pc' := 29) rfl rfl iconst_0 ?_
    refine x_iload_n (pc' := 30) rfl rfl rfl ?_
    refine x_cV2i (d := 1) (pc' := 33) rfl rfl sX6_192 gX6_isLike (hM.1) ⟨Nat.le_of_ble_eq_true rfl, Nat.le_of_ble_eq_true rfl⟩ (Nat.le_of_ble_eq_true rfl) ⟨Nat.le_of_ble_eq_true rfl, Nat.le_of_ble_eq_true rfl⟩ ?_
    refine m_like (j := 0) (k := k) (n := g_n (a_g A)) (β := g_β (a_g A)) (γ := g_β (g_sq b k (a_g A))) hM (by decide) (by omega) hA.1.2.2.2.1 ho.1.1 (hbn 0 (by omega)) (hbn k (by omega)) (hokx 0) (hokx k) (fun d => ⟨_, rfl, ?_⟩) (fun d => ⟨_, rfl, ?_⟩)
    · rw [if_pos d] at he
      subst he
      refine x_if_eq (tgt := 38) (pc' := 36) rfl rfl rfl (fun c33 => absurd c33 ((by decide))) (fun _ => ?_)
      refine x_iload_n (pc' := 37) rfl rfl rfl ?_
      exact x_ireturn rfl rfl rfl (Nat.le_of_ble_eq_true rfl) (Nat.le_of_ble_eq_true rfl) (h)
    · rw [if_neg d] at he
      refine x_if_eq (tgt := 38) (pc' := 36) rfl rfl rfl (fun _ => ?_) (fun c33 => absurd (rfl) c33)
      refine x_iinc (pc' := 41) (lv' := [(3, _), (2, _), (0, _), (1, _)]) rfl rfl (Nat.le_of_ble_eq_true rfl) rfl (nI_1 k) rfl ?_
      refine x_goto (tgt := 22) rfl rfl ?_
      exact ih (k + 1) (by omega) (by omega) he
theorem r_back (hM : x_Mdl z f M) (hA : r_is M A) (ho : a_ok A) (h : r_ends z f post (s_backR A a)) : Y E 9 mX6_back [.ref 59, .int a] z f 0 0 post := by
  refine Y.intro gX6_back (lv := [(0, .ref 59), (1, .int a)]) rfl (Nat.le_of_ble_eq_true rfl) ?_
  by_cases d1 : q_in (g_n (a_g A)) a
  · obtain ⟨k, hk, hk2, rfl, hcl⟩ := q_in_k d1
    rw [show s_backR A (nI k) = _ from if_pos d1, hcl] at h
    refine x_aload_n (pc' := 1) rfl rfl rfl ?_
    refine x_iload_n (pc' := 2) rfl rfl rfl ?_
    refine x_cV1i (d := 2) (pc' := 5) rfl rfl sX6_103 gX6_isBowl (hM.1) ⟨Nat.le_of_ble_eq_true rfl, Nat.le_of_ble_eq_true rfl⟩ (Nat.le_of_ble_eq_true rfl) ⟨Nat.le_of_ble_eq_true rfl, Nat.le_of_ble_eq_true rfl⟩ ?_
    refine r_bowl hM hA ho (fun _ => ⟨_, rfl, ?_⟩) (fun q => absurd d1 q)
    refine x_if_ne (tgt := 14) (pc' := 8) rfl rfl rfl (fun _ => ?_) (fun c5 => absurd c5 ((by decide)))
    refine x_aload_n (pc' := 15) rfl rfl rfl ?_
    refine x_iload_n (pc' := 16) rfl rfl rfl ?_
    refine x_cV1i (d := 6) (pc' := 19) rfl rfl sX6_189 gX6_records200 (hM.1) ⟨Nat.le_of_ble_eq_true rfl, Nat.le_of_ble_eq_true rfl⟩ (Nat.le_of_ble_eq_true rfl) ⟨Nat.le_of_ble_eq_true rfl, Nat.le_of_ble_eq_true rfl⟩ ?_
    refine m_records200 hM hA ho hk (fun f1 M1 n hn hne hM1 hA1 hbn1 hF1 => ⟨_, rfl, ?_⟩)
    refine x_istore_n (pc' := 20) (lv' := [(2, _), (0, _), (1, _)]) rfl rfl (Nat.le_of_ble_eq_true rfl) rfl ?_
    refine x_iconst (pc' := 21) rfl rfl iconst_1 ?_
    refine x_istore_n (pc' := 22) (lv' := [(3, _), (2, _), (0, _), (1, _)]) rfl rfl (Nat.le_of_ble_eq_true rfl) rfl ?_
    subst hne
    exact r_backL ho hk hn hM1 hA1 hbn1 _ (h _ _ hM1 hA1 hF1) (g_rc k 200 0 (a_g A)) 1 (by omega) (by omega) rfl
  · rw [show s_backR A a = _ from if_neg d1] at h
    refine x_aload_n (pc' := 1) rfl rfl rfl ?_
    refine x_iload_n (pc' := 2) rfl rfl rfl ?_
    refine x_cV1i (d := 2) (pc' := 5) rfl rfl sX6_103 gX6_isBowl (hM.1) ⟨Nat.le_of_ble_eq_true rfl, Nat.le_of_ble_eq_true rfl⟩ (Nat.le_of_ble_eq_true rfl) ⟨Nat.le_of_ble_eq_true rfl, Nat.le_of_ble_eq_true rfl⟩ ?_
    refine r_bowl hM hA ho (fun q => absurd q d1) (fun _ => ⟨_, rfl, ?_⟩)
    refine x_if_ne (tgt := 14) (pc' := 8) rfl rfl rfl (fun c5 => absurd (rfl) c5) (fun _ => ?_)
    refine x_aload_n (pc' := 9) rfl rfl rfl ?_
    refine x_iconst (pc' := 10) rfl rfl iconst_m1 ?_
    refine x_cV1i (d := 1) (pc' := 13) rfl rfl sX6_110 gX6_refuse (hM.1) ⟨Nat.le_of_ble_eq_true rfl, Nat.le_of_ble_eq_true rfl⟩ (Nat.le_of_ble_eq_true rfl) ⟨Nat.le_of_ble_eq_true rfl, Nat.le_of_ble_eq_true rfl⟩ ?_
    refine r_refuse (k := 0) (by decide) (by decide) hM hA (fun f1 M1 hM1 hA1 hF1 => ⟨_, rfl, ?_⟩)
    exact x_ireturn rfl rfl rfl (Nat.le_of_ble_eq_true rfl) (Nat.le_of_ble_eq_true rfl) (h _ _ hM1 hA1 hF1)
end BK
