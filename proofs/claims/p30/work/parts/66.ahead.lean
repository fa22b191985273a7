section
-- == 66.seeks
/-! The reference thinks ahead. -/
theorem x_room {d D m : Nat} (h : d + 1 ≤ D) (hm : m ≤ 181) : d + 1 ≤ (x_rm D 0 0).frames ∧ 8 + (m + 11) + 200 * d ≤ (x_rm D 0 0).locals := ⟨h, by show 8 + (m + 11) + 200 * d ≤ 200 * D; omega⟩
def q_dI (g : q_G) : Int32 := nI (g_π g (g_t g)) - nI (g_π g (1 - g_t g))
/-- the best of the first bowls: its value, the bowl -/
def q_sI (d : Int32) (c : Nat → Bool) (V : Nat → Int32) : Nat → Int32 × Int32
  | 0 => (d, -9)
  | b + 1 => if c b = true ∧ ((q_sI d c V b).2 = -9 ∨ (q_sI d c V b).1 < V b) then (V b, nI b) else q_sI d c V b
def q_seI : Nat → q_G → Int32 × Int32
  | 0, g => (q_dI g, -9)
  | k + 1, g => q_sI (q_dI g) (fun b => decide (g_can g b)) (fun b => -(q_seI k (g_mv g b)).1) (g_n g)
abbrev q_wI (n : Nat) (g : q_G) : Int32 := (q_seI n g).1 - q_dI g
/-- what stays while the reference thinks from a level on -/
def m_sk (M M' : x_N) (l : Nat) : Prop := (∀ j, j ≠ 1 → j ≠ 2 → j ≠ 6 → M'.2.1 j = M.2.1 j) ∧ M'.2.2 = M.2.2 ∧ (∀ i, i ≠ 7 → i ≠ 14 → i ≠ 15 → i ≠ 16 → i ≠ 17 → i ≠ 22 → M'.1 i = M.1 i) ∧ (∀ j, j < 12 * l ∨ 60 ≤ j → M'.2.1 6 j = M.2.1 6 j)
theorem m_sk.rf {M : x_N} {l : Nat} : m_sk M M l := ⟨fun _ _ _ _ => rfl, rfl, fun _ _ _ _ _ _ _ => rfl, fun _ _ => rfl⟩
theorem m_sk.trans {M M1 M2 : x_N} {l l2 : Nat} (h : m_sk M M1 l) (h2 : m_sk M1 M2 l2) (hl : l ≤ l2) : m_sk M M2 l := ⟨fun j a b c => (h2.1 j a b c).trans (h.1 j a b c), h2.2.1.trans h.2.1, fun i a b c d e k => (h2.2.2.1 i a b c d e k).trans (h.2.2.1 i a b c d e k), fun j hj => (h2.2.2.2 j (by omega)).trans (h.2.2.2 j hj)⟩
theorem m_kp.sk {M M' : x_N} (h : m_kp M M') (l : Nat) : m_sk M M' l := ⟨fun j a b _ => h.1 j a b, h.2.1, fun i a b c d e _ => h.2.2 i a b c d e, fun j _ => by rw [h.1 6 (by decide) (by decide)]⟩
theorem m_k1.sk {M M' : x_N} {l : Nat} (h : m_k1 M M' l) (hl : l ≤ 4) : m_sk M M' l := ⟨fun j _ _ c => h.2.1 j c, h.2.2.1, fun i _ _ _ _ _ _ => by rw [h.1], fun j hj => h.2.2.2 j (by omega)⟩
theorem m_sk.num {M : x_N} {v : Int32} {k : Nat} (l : Nat) (hk : k = 7 ∨ k = 22) : m_sk M (upd M.1 k v, M.2.1, M.2.2) l := ⟨fun _ _ _ _ => rfl, rfl, fun i _ _ _ _ _ _ => pk_un (by omega), fun _ _ => rfl⟩
theorem m_sk.sc {M M' : x_N} {l : Nat} (h : m_sk M M' l) : r_sc M M' := ⟨fun i hi => h.2.2.1 i (by omega) (by omega) (by omega) (by omega) (by omega) (by omega), fun j hj => h.1 j (by omega) (by omega) (by omega)⟩
theorem m_sk.fr {M M' : x_N} {l j : Nat} {g : q_G} (h : m_sk M M' l) (hj : j < l ∨ 5 ≤ j) (hf : m_fr M j g) : m_fr M' j g := by
  obtain ⟨h1, h2, h3, h4⟩ := hf
  have e := h.2.2.2
  exact ⟨fun i hi => (e _ (by omega)).trans (h1 i hi), (e _ (by omega)).trans h2, (e _ (by omega)).trans h3, (e _ (by omega)).trans h4⟩
section SK
variable {E : x_E} {z : Nat} {f : x_H} {M M0 : x_N} {A : q_A} {post : Option Value → x_H → Prop} {g : q_G} {C : Nat} {a b : Int32}
theorem m_pu {k : Nat} (hm : m_is M g) (hk : k < 2 ^ 31) : M.2.1 2 (nI k).toNatClampNeg = nI (g_π g k) := by rw [nI_clamp hk, hm.2.2.1]
theorem m_seekL {k l : Nat} (hl : l + k + 1 ≤ 5) (hC : 99 ≤ C) (hC2 : C ≤ 100) (hg : g_ok C g)
    (IH : ∀ (g : q_G) (f : x_H) (M : x_N) (post : Option Value → x_H → Prop), x_Mdl z f M → m_is M g → g_ok C g → M.1 18 = 0 → (∀ (f' : x_H) (M' : x_N), x_Mdl z f' M' → m_is M' g → m_sk M M' (l + 1) → M'.1 22 = (q_seI k g).2 → x_fr (fun q => q < 59) f f' → post (some (.int (q_seI k g).1)) f') → Y E (k + 5) mX6_seeks [.ref 59, .int (nI k), .int (nI (l + 1))] z f 0 0 post)
    (f0 : x_H) (M0 : x_N) (h18 : M0.1 18 = 0) (h : ∀ (f' : x_H) (M' : x_N), x_Mdl z f' M' → m_is M' g → m_sk M0 M' l → M'.1 22 = (q_seI (k + 1) g).2 → x_fr (fun q => q < 59) f0 f' → post (some (.int (q_seI (k + 1) g).1)) f') :
    ∀ (m b : Nat) (f : x_H) (M : x_N), b + m = g_n g → x_Mdl z f M → m_is M g → m_sk M0 M l → m_fr M l g → x_fr (fun q => q < 59) f0 f → X E (x_rm (k + 6) 0 0) mX6_seeks (x_QM E z 0 0 post) 38 [(5, .int (nI b)), (4, .int (q_sI (q_dI g) (fun b => decide (g_can g b)) (fun b => -(q_seI k (g_mv g b)).1) b).1), (3, .int (q_sI (q_dI g) (fun b => decide (g_can g b)) (fun b => -(q_seI k (g_mv g b)).1) b).2), (0, .ref 59), (1, .int (nI (k + 1))), (2, .int (nI l))] [] z f 0 0 := by
  have hn9 := hg.1
  intro m
  induction m with
  | zero =>
    intro b f M hb hM hm hs hfr hF
    have hb2 : b = g_n g := by omega
    subst hb2
    refine x_iload (pc' := 40) rfl rfl rfl ?_
    refine x_aload_n (pc' := 41) rfl rfl rfl ?_
    refine x_get (pc' := 44) rfl rfl rfl (hM.1) rfl ?_
    refine x_eqi hm.2.2.2.1 ?_
    refine x_icmp_ge (tgt := 106) (pc' := 47) rfl rfl rfl (fun _ => ?_) (fun c44 => absurd ((Int32.le_refl _)) c44)
    refine x_aload_n (pc' := 107) rfl rfl rfl ?_
    refine x_iload_n (pc' := 108) rfl rfl rfl ?_
    refine x_put (pc' := 111) rfl rfl rfl (hM.1) (Nat.le_of_ble_eq_true rfl) rfl rfl rfl rfl (fun f1 e1 => ?_)
    have hM1 := hM.num 22 e1 (x_mFs22 _ _)
    have hF1 := hF.trans (r_fr0 e1 (by decide))
    refine x_iload (pc' := 113) rfl rfl rfl ?_
    exact x_ireturn rfl rfl rfl (Nat.le_of_ble_eq_true rfl) (Nat.le_of_ble_eq_true rfl) (h _ _ hM1 ⟨hm.1, hm.2.1, hm.2.2.1, hm.2.2.2.1, hm.2.2.2.2.1, hm.2.2.2.2.2.1, hm.2.2.2.2.2.2⟩ (hs.trans (m_sk.num l (Or.inr rfl)) (Nat.le_refl l)) rfl hF1)
  | succ m ih =>
    intro b f M hb hM hm hs hfr hF
    have eq1 : q_sI (q_dI g) (fun b => decide (g_can g b)) (fun b => -(q_seI k (g_mv g b)).1) (b + 1) = if decide (g_can g b) = true ∧ ((q_sI (q_dI g) (fun b => decide (g_can g b)) (fun b => -(q_seI k (g_mv g b)).1) b).2 = -9 ∨ (q_sI (q_dI g) (fun b => decide (g_can g b)) (fun b => -(q_seI k (g_mv g b)).1) b).1 < -(q_seI k (g_mv g b)).1) then (-(q_seI k (g_mv g b)).1, nI b) else q_sI (q_dI g) (fun b => decide (g_can g b)) (fun b => -(q_seI k (g_mv g b)).1) b := rfl
    have h9 := fun f M => ih (b + 1) f M (by omega)
    generalize q_sI (q_dI g) (fun b => decide (g_can g b)) (fun b => -(q_seI k (g_mv g b)).1) (b + 1) = s1 at eq1 h9
    generalize q_sI (q_dI g) (fun b => decide (g_can g b)) (fun b => -(q_seI k (g_mv g b)).1) b = s0 at eq1 ⊢
    have h18' : M.1 18 = 0 := (hs.2.2.1 18 (by decide) (by decide) (by decide) (by decide) (by decide) (by decide)).trans h18
    refine x_iload (pc' := 40) rfl rfl rfl ?_
    refine x_aload_n (pc' := 41) rfl rfl rfl ?_
    refine x_get (pc' := 44) rfl rfl rfl (hM.1) rfl ?_
    refine x_eqi hm.2.2.2.1 ?_
    refine x_icmp_ge (tgt := 106) (pc' := 47) rfl rfl rfl (fun c44 => absurd c44 ((nI_ge (by omega) (by omega)))) (fun _ => ?_)
    refine x_aload_n (pc' := 48) rfl rfl rfl ?_
    refine x_iload (pc' := 50) rfl rfl rfl ?_
    refine x_cV1i (d := 3) (pc' := 53) rfl rfl sX6_135 gX6_canMove (hM.1) (x_room (by omega) (Nat.le_of_ble_eq_true rfl)) (Nat.le_of_ble_eq_true rfl) ⟨Nat.le_of_ble_eq_true rfl, Nat.le_of_ble_eq_true rfl⟩ ?_
    refine m_can1 hM hm hg hC2 (by omega) (fun d2 => ⟨_, rfl, ?_⟩) (fun d2 => ⟨_, rfl, ?_⟩)
    · refine x_if_eq (tgt := 100) (pc' := 56) rfl rfl rfl (fun c53 => absurd c53 ((by decide))) (fun _ => ?_)
      refine x_aload_n (pc' := 57) rfl rfl rfl ?_
      refine x_iload (pc' := 59) rfl rfl rfl ?_
      refine x_cV1v (d := 4) (pc' := 62) rfl rfl sX6_141 gX6_moves (hM.1) (x_room (by omega) (Nat.le_of_ble_eq_true rfl)) (Nat.le_of_ble_eq_true rfl) ⟨Nat.le_of_ble_eq_true rfl, Nat.le_of_ble_eq_true rfl⟩ ?_
      refine m_mv hM hm hg hC2 d2 h18' (fun f1 M1 hM1 g1 k1 e14 e15 e16 e17 hF1 => ⟨rfl, ?_⟩)
      have ok1 := g_mv_ok hg hC hC2 d2.2.1
      have h181 : M1.1 18 = 0 := k1.no18.trans h18'
      refine x_aload_n (pc' := 63) rfl rfl rfl ?_
      refine x_iload_n (pc' := 64) rfl rfl rfl ?_
      refine x_iconst (pc' := 65) rfl rfl iconst_1 ?_
      refine x_isub (pc' := 66) rfl rfl ?_
      refine x_eqi (nI_pred k) ?_
      refine x_iload_n (pc' := 67) rfl rfl rfl ?_
      refine x_iconst (pc' := 68) rfl rfl iconst_1 ?_
      refine x_iadd (pc' := 69) rfl rfl ?_
      refine x_eqi (nI_1 l) ?_
      refine x_cV2i (d := (k + 5)) (pc' := 72) rfl rfl sX6_173 gX6_seeks (hM1.1) (x_room (by omega) (Nat.le_of_ble_eq_true rfl)) (Nat.le_of_ble_eq_true rfl) ⟨Nat.le_of_ble_eq_true rfl, Nat.le_of_ble_eq_true rfl⟩ ?_
      refine IH (g_mv g b) f1 M1 _ hM1 g1 ok1 h181 (fun f2 M2 hM2 g2 s2 e22 hF2 => ⟨_, rfl, ?_⟩)
      refine x_ineg (pc' := 73) rfl rfl ?_
      refine x_istore (pc' := 75) (lv' := [(6, _), (5, _), (4, _), (3, _), (0, _), (1, _), (2, _)]) rfl rfl (Nat.le_of_ble_eq_true rfl) rfl ?_
      refine x_aload_n (pc' := 76) rfl rfl rfl ?_
      refine x_iload_n (pc' := 77) rfl rfl rfl ?_
      refine x_cV1v (d := 1) (pc' := 80) rfl rfl sX6_160 gX6_lays (hM2.1) (x_room (by omega) (Nat.le_of_ble_eq_true rfl)) (Nat.le_of_ble_eq_true rfl) ⟨Nat.le_of_ble_eq_true rfl, Nat.le_of_ble_eq_true rfl⟩ ?_
      refine m_lays (l := l) (g := g) (g' := g_mv g b) (by omega) hM2 g2 (s2.fr (by omega) (hfr.eq (k1.1 6 (by decide) (by decide)))) hg ok1 (fun f3 M3 hM3 g3 y1 y2 y3 hF3 => ⟨rfl, ?_⟩)
      have hs3 : m_sk M0 M3 l := ((hs.trans (k1.sk l) (Nat.le_refl l)).trans s2 (by omega)).trans ((m_ly.kp y1 y2 y3).sk l) (Nat.le_refl l)
      have hF13 := ((hF.trans hF1).trans hF2).trans hF3
      have hfr3 : m_fr M3 l g := (s2.fr (by omega) (hfr.eq (k1.1 6 (by decide) (by decide)))).eq (y2 6 (by decide) (by decide))
      have h8 := h9 f3 M3 hM3 g3 hs3 hfr3 hF13
      refine x_iload_n (pc' := 81) rfl rfl rfl ?_
      refine x_bipush (pc' := 83) rfl rfl bipush_m9 ?_
      by_cases d3 : s0.2 = -9 ∨ s0.1 < -(q_seI k (g_mv g b)).1
      · rw [if_pos ⟨decide_eq_true d2, d3⟩] at eq1
        rw [eq1] at h8
        refine x_icmp_eq (tgt := 93) (pc' := 86) rfl rfl rfl (fun q => ?_) (fun q => ?_)
        · refine x_iload (pc' := 95) rfl rfl rfl ?_
          refine x_istore_n (pc' := 96) (lv' := [(3, _), (6, _), (5, _), (4, _), (0, _), (1, _), (2, _)]) rfl rfl (Nat.le_of_ble_eq_true rfl) rfl ?_
          refine x_iload (pc' := 98) rfl rfl rfl ?_
          refine x_istore (pc' := 100) (lv' := [(4, _), (3, _), (6, _), (5, _), (0, _), (1, _), (2, _)]) rfl rfl (Nat.le_of_ble_eq_true rfl) rfl ?_
          refine x_iinc (pc' := 103) (lv' := [(5, _), (4, _), (3, _), (6, _), (0, _), (1, _), (2, _)]) rfl rfl (Nat.le_of_ble_eq_true rfl) rfl (nI_1 b) rfl ?_
          refine x_goto (tgt := 38) rfl rfl ?_
          refine x_lvp [0, 1, 2, 4, 5, 6] rfl ?_
          exact h8
        · have d4 := d3.resolve_left q
          refine x_iload (pc' := 88) rfl rfl rfl ?_
          refine x_iload (pc' := 90) rfl rfl rfl ?_
          refine x_icmp_le (tgt := 100) (pc' := 93) rfl rfl rfl (fun c90 => absurd c90 ((Int32.not_le.mpr d4))) (fun _ => ?_)
          refine x_iload (pc' := 95) rfl rfl rfl ?_
          refine x_istore_n (pc' := 96) (lv' := [(3, _), (6, _), (5, _), (4, _), (0, _), (1, _), (2, _)]) rfl rfl (Nat.le_of_ble_eq_true rfl) rfl ?_
          refine x_iload (pc' := 98) rfl rfl rfl ?_
          refine x_istore (pc' := 100) (lv' := [(4, _), (3, _), (6, _), (5, _), (0, _), (1, _), (2, _)]) rfl rfl (Nat.le_of_ble_eq_true rfl) rfl ?_
          refine x_iinc (pc' := 103) (lv' := [(5, _), (4, _), (3, _), (6, _), (0, _), (1, _), (2, _)]) rfl rfl (Nat.le_of_ble_eq_true rfl) rfl (nI_1 b) rfl ?_
          refine x_goto (tgt := 38) rfl rfl ?_
          refine x_lvp [0, 1, 2, 4, 5, 6] rfl ?_
          exact h8
      · rw [if_neg (fun q => d3 q.2)] at eq1
        rw [eq1] at h8
        refine x_icmp_eq (tgt := 93) (pc' := 86) rfl rfl rfl (fun q => absurd (Or.inl q) d3) (fun q => ?_)
        refine x_iload (pc' := 88) rfl rfl rfl ?_
        refine x_iload (pc' := 90) rfl rfl rfl ?_
        refine x_icmp_le (tgt := 100) (pc' := 93) rfl rfl rfl (fun _ => ?_) (fun c90 => absurd ((Int32.not_lt.mp (fun q => d3 (Or.inr q)))) c90)
        refine x_iinc (pc' := 103) (lv' := [(5, _), (6, _), (4, _), (3, _), (0, _), (1, _), (2, _)]) rfl rfl (Nat.le_of_ble_eq_true rfl) rfl (nI_1 b) rfl ?_
        refine x_goto (tgt := 38) rfl rfl ?_
        refine x_lvp [0, 2, 3, 4, 5, 6] rfl ?_
        exact h8
    · rw [if_neg (fun q => d2 (of_decide_eq_true q.1))] at eq1
      refine x_if_eq (tgt := 100) (pc' := 56) rfl rfl rfl (fun _ => ?_) (fun c53 => absurd (rfl) c53)
      refine x_iinc (pc' := 103) (lv' := [(5, _), (4, _), (3, _), (0, _), (1, _), (2, _)]) rfl rfl (Nat.le_of_ble_eq_true rfl) rfl (nI_1 b) rfl ?_
      refine x_goto (tgt := 38) rfl rfl ?_
      have h8 := h9 f M hM hm hs hfr hF
      rw [eq1] at h8
      exact h8
theorem m_seeks (hC : 99 ≤ C) (hC2 : C ≤ 100) : ∀ (k l : Nat) (g : q_G) (f : x_H) (M : x_N) (post : Option Value → x_H → Prop), l + k ≤ 5 → x_Mdl z f M → m_is M g → g_ok C g → M.1 18 = 0 → (∀ (f' : x_H) (M' : x_N), x_Mdl z f' M' → m_is M' g → m_sk M M' l → M'.1 22 = (q_seI k g).2 → x_fr (fun q => q < 59) f f' → post (some (.int (q_seI k g).1)) f') → Y E (k + 5) mX6_seeks [.ref 59, .int (nI k), .int (nI l)] z f 0 0 post := by
  intro k
  induction k with
  | zero =>
    intro l g f M post hl hM hm hg h18 h
    have ht := hg.2.2.2.1
    refine Y.intro gX6_seeks (lv := [(0, .ref 59), (1, .int (nI 0)), (2, .int (nI l))]) rfl (Nat.le_of_ble_eq_true rfl) ?_
    refine x_bipush (pc' := 2) rfl rfl bipush_m9 ?_
    refine x_istore_n (pc' := 3) (lv' := [(3, _), (0, _), (1, _), (2, _)]) rfl rfl (Nat.le_of_ble_eq_true rfl) rfl ?_
    refine x_aload_n (pc' := 4) rfl rfl rfl ?_
    refine x_get (pc' := 7) rfl rfl rfl (hM.1) rfl ?_
    refine x_aload_n (pc' := 8) rfl rfl rfl ?_
    refine x_get (pc' := 11) rfl rfl rfl (hM.1) rfl ?_
    refine x_eqi hm.2.2.2.2.2.2 ?_
    refine x_iaload (pc' := 12) rfl rfl (hM.2.1 2 (by decide)) (vp_in_nI (n := g_t g) (N := 2) (by omega) (by decide)) ?_
    refine x_eqi (m_pu hm (by omega)) ?_
    refine x_aload_n (pc' := 13) rfl rfl rfl ?_
    refine x_get (pc' := 16) rfl rfl rfl (hM.1) rfl ?_
    refine x_iconst (pc' := 17) rfl rfl iconst_1 ?_
    refine x_aload_n (pc' := 18) rfl rfl rfl ?_
    refine x_get (pc' := 21) rfl rfl rfl (hM.1) rfl ?_
    refine x_eqi hm.2.2.2.2.2.2 ?_
    refine x_isub (pc' := 22) rfl rfl ?_
    refine x_eqi (show (1 : Int32) - nI (g_t g) = nI (1 - g_t g) from pk_sub (a := 1) ht) ?_
    refine x_iaload (pc' := 23) rfl rfl (hM.2.1 2 (by decide)) (vp_in_nI (n := 1 - g_t g) (N := 2) (by omega) (by decide)) ?_
    refine x_eqi (m_pu hm (by omega)) ?_
    refine x_isub (pc' := 24) rfl rfl ?_
    refine x_istore (pc' := 26) (lv' := [(4, _), (3, _), (0, _), (1, _), (2, _)]) rfl rfl (Nat.le_of_ble_eq_true rfl) rfl ?_
    refine x_iload_n (pc' := 27) rfl rfl rfl ?_
    refine x_if_le (tgt := 106) (pc' := 30) rfl rfl rfl (fun _ => ?_) (fun c27 => absurd ((by decide : nI 0 ≤ 0)) c27)
    refine x_aload_n (pc' := 107) rfl rfl rfl ?_
    refine x_iload_n (pc' := 108) rfl rfl rfl ?_
    refine x_put (pc' := 111) rfl rfl rfl (hM.1) (Nat.le_of_ble_eq_true rfl) rfl rfl rfl rfl (fun f1 e1 => ?_)
    have hM1 := hM.num 22 e1 (x_mFs22 _ _)
    have hF1 := r_fr0 e1 (by decide)
    refine x_iload (pc' := 113) rfl rfl rfl ?_
    exact x_ireturn rfl rfl rfl (Nat.le_of_ble_eq_true rfl) (Nat.le_of_ble_eq_true rfl) (h _ _ hM1 ⟨hm.1, hm.2.1, hm.2.2.1, hm.2.2.2.1, hm.2.2.2.2.1, hm.2.2.2.2.2.1, hm.2.2.2.2.2.2⟩ (m_sk.num l (Or.inr rfl)) rfl hF1)
  | succ k IH =>
    intro l g f M post hl hM hm hg h18 h
    have ht := hg.2.2.2.1
    refine Y.intro gX6_seeks (lv := [(0, .ref 59), (1, .int (nI (k + 1))), (2, .int (nI l))]) rfl (Nat.le_of_ble_eq_true rfl) ?_
    refine x_bipush (pc' := 2) rfl rfl bipush_m9 ?_
    refine x_istore_n (pc' := 3) (lv' := [(3, _), (0, _), (1, _), (2, _)]) rfl rfl (Nat.le_of_ble_eq_true rfl) rfl ?_
    refine x_aload_n (pc' := 4) rfl rfl rfl ?_
    refine x_get (pc' := 7) rfl rfl rfl (hM.1) rfl ?_
    refine x_aload_n (pc' := 8) rfl rfl rfl ?_
    refine x_get (pc' := 11) rfl rfl rfl (hM.1) rfl ?_
    refine x_eqi hm.2.2.2.2.2.2 ?_
    refine x_iaload (pc' := 12) rfl rfl (hM.2.1 2 (by decide)) (vp_in_nI (n := g_t g) (N := 2) (by omega) (by decide)) ?_
    refine x_eqi (m_pu hm (by omega)) ?_
    refine x_aload_n (pc' := 13) rfl rfl rfl ?_
    refine x_get (pc' := 16) rfl rfl rfl (hM.1) rfl ?_
    refine x_iconst (pc' := 17) rfl rfl iconst_1 ?_
    refine x_aload_n (pc' := 18) rfl rfl rfl ?_
    refine x_get (pc' := 21) rfl rfl rfl (hM.1) rfl ?_
    refine x_eqi hm.2.2.2.2.2.2 ?_
    refine x_isub (pc' := 22) rfl rfl ?_
    refine x_eqi (show (1 : Int32) - nI (g_t g) = nI (1 - g_t g) from pk_sub (a := 1) ht) ?_
    refine x_iaload (pc' := 23) rfl rfl (hM.2.1 2 (by decide)) (vp_in_nI (n := 1 - g_t g) (N := 2) (by omega) (by decide)) ?_
    refine x_eqi (m_pu hm (by omega)) ?_
    refine x_isub (pc' := 24) rfl rfl ?_
    refine x_istore (pc' := 26) (lv' := [(4, _), (3, _), (0, _), (1, _), (2, _)]) rfl rfl (Nat.le_of_ble_eq_true rfl) rfl ?_
    refine x_iload_n (pc' := 27) rfl rfl rfl ?_
    refine x_if_le (tgt := 106) (pc' := 30) rfl rfl rfl (fun c27 => absurd c27 ((nI_nle (by omega) (by omega)))) (fun _ => ?_)
    refine x_aload_n (pc' := 31) rfl rfl rfl ?_
    refine x_iload_n (pc' := 32) rfl rfl rfl ?_
    refine x_cV1v (d := 1) (pc' := 35) rfl rfl sX6_154 gX6_keeps (hM.1) (x_room (by omega) (Nat.le_of_ble_eq_true rfl)) (Nat.le_of_ble_eq_true rfl) ⟨Nat.le_of_ble_eq_true rfl, Nat.le_of_ble_eq_true rfl⟩ ?_
    refine m_keeps (l := l) (by omega) hM hm (fun f1 M1 hM1 g1 k1 fr1 hF1 => ⟨rfl, ?_⟩)
    refine x_iconst (pc' := 36) rfl rfl iconst_0 ?_
    refine x_istore (pc' := 38) (lv' := [(5, _), (4, _), (3, _), (0, _), (1, _), (2, _)]) rfl rfl (Nat.le_of_ble_eq_true rfl) rfl ?_
    exact m_seekL (l := l) (by omega) hC hC2 hg (fun g f M post a1 a2 a3 a4 a5 => IH (l + 1) g f M post (by omega) a1 a2 a3 a4 a5) f M h18 h (g_n g) 0 f1 M1 (by omega) hM1 g1 (k1.sk (by omega)) fr1 hF1
theorem m_worthOf {n : Nat} (hn : n ≤ 4) (hC : 99 ≤ C) (hC2 : C ≤ 100) (hM : x_Mdl z f M) (hm : m_is M g) (hg : g_ok C g) (h18 : M.1 18 = 0) (h : ∀ (f' : x_H) (M' : x_N), x_Mdl z f' M' → m_is M' g → m_sk M M' 0 → x_fr (fun q => q < 59) f f' → post (some (.int (q_wI n g))) f') : Y E 10 mX6_worthOf [.ref 59, .int (nI n)] z f 0 0 post := by
  refine Y.intro gX6_worthOf (lv := [(0, .ref 59), (1, .int (nI n))]) rfl (Nat.le_of_ble_eq_true rfl) ?_
  have ht := hg.2.2.2.1
  refine x_aload_n (pc' := 1) rfl rfl rfl ?_
  refine x_iload_n (pc' := 2) rfl rfl rfl ?_
  refine x_iconst (pc' := 3) rfl rfl iconst_0 ?_
  refine x_cV2i (d := (n + 5)) (pc' := 6) rfl rfl sX6_173 gX6_seeks (hM.1) (x_room (by omega) (Nat.le_of_ble_eq_true rfl)) (Nat.le_of_ble_eq_true rfl) ⟨Nat.le_of_ble_eq_true rfl, Nat.le_of_ble_eq_true rfl⟩ ?_
  refine m_seeks hC hC2 n 0 g f M _ (by omega) hM hm hg h18 (fun f1 M1 hM1 g1 s1 e22 hF1 => ⟨_, rfl, ?_⟩)
  refine x_aload_n (pc' := 7) rfl rfl rfl ?_
  refine x_get (pc' := 10) rfl rfl rfl (hM1.1) rfl ?_
  refine x_aload_n (pc' := 11) rfl rfl rfl ?_
  refine x_get (pc' := 14) rfl rfl rfl (hM1.1) rfl ?_
  refine x_eqi g1.2.2.2.2.2.2 ?_
  refine x_iaload (pc' := 15) rfl rfl (hM1.2.1 2 (by decide)) (vp_in_nI (n := g_t g) (N := 2) (by omega) (by decide)) ?_
  refine x_eqi (m_pu g1 (by omega)) ?_
  refine x_aload_n (pc' := 16) rfl rfl rfl ?_
  refine x_get (pc' := 19) rfl rfl rfl (hM1.1) rfl ?_
  refine x_iconst (pc' := 20) rfl rfl iconst_1 ?_
  refine x_aload_n (pc' := 21) rfl rfl rfl ?_
  refine x_get (pc' := 24) rfl rfl rfl (hM1.1) rfl ?_
  refine x_eqi g1.2.2.2.2.2.2 ?_
  refine x_isub (pc' := 25) rfl rfl ?_
  refine x_eqi (show (1 : Int32) - nI (g_t g) = nI (1 - g_t g) from pk_sub (a := 1) ht) ?_
  refine x_iaload (pc' := 26) rfl rfl (hM1.2.1 2 (by decide)) (vp_in_nI (n := 1 - g_t g) (N := 2) (by omega) (by decide)) ?_
  refine x_eqi (m_pu g1 (by omega)) ?_
  refine x_isub (pc' := 27) rfl rfl ?_
  refine x_isub (pc' := 28) rfl rfl ?_
  exact x_ireturn rfl rfl rfl (Nat.le_of_ble_eq_true rfl) (Nat.le_of_ble_eq_true rfl) (h _ _ hM1 g1 s1 hF1)
def s_bestR (A : q_A) (a : Int32) : q_A × Int32 := if a < 1 then (s_no A 4, -4) else if 4 < a then (s_no A 6, -6) else (A, (q_seI a.toNatClampNeg (a_g A)).2)
def s_worthR (A : q_A) (a : Int32) : q_A × Int32 := if a < 1 then (s_no A 4, 1000000000 - (-4)) else if 4 < a then (s_no A 6, 1000000000 - (-6)) else (A, q_wI a.toNatClampNeg (a_g A))
theorem r_best (hM : x_Mdl z f M) (hA : r_is M A) (ho : a_ok A) (h : r_ends z f post (s_bestR A a)) : Y E 12 mX6_best [.ref 59, .int a] z f 0 0 post := by
  refine Y.intro gX6_best (lv := [(0, .ref 59), (1, .int a)]) rfl (Nat.le_of_ble_eq_true rfl) ?_
  obtain ⟨b1, b2, b3, b4, b5, b6, b7, b8, b9⟩ := id hA
  refine x_iload_n (pc' := 1) rfl rfl rfl ?_
  refine x_iconst (pc' := 2) rfl rfl iconst_1 ?_
  refine x_icmp_ge (tgt := 12) (pc' := 5) rfl rfl rfl (fun c2 => ?_) (fun c2 => ?_)
  · have d1 : ¬ a < 1 := Int32.not_lt.mpr c2
    refine x_iload_n (pc' := 13) rfl rfl rfl ?_
    refine x_iconst (pc' := 14) rfl rfl iconst_4 ?_
    by_cases d2 : 4 < a
    · rw [show s_bestR A a = _ from (if_neg d1).trans (if_pos d2)] at h
      refine x_icmp_le (tgt := 24) (pc' := 17) rfl rfl rfl (fun q => absurd d2 (Int32.not_lt.mpr q)) (fun _ => ?_)
      refine x_aload_n (pc' := 18) rfl rfl rfl ?_
      refine x_bipush (pc' := 20) rfl rfl bipush_m6 ?_
      refine x_cV1i (d := 1) (pc' := 23) rfl rfl sX6_110 gX6_refuse (hM.1) (x_room (by omega) (Nat.le_of_ble_eq_true rfl)) (Nat.le_of_ble_eq_true rfl) ⟨Nat.le_of_ble_eq_true rfl, Nat.le_of_ble_eq_true rfl⟩ ?_
      refine r_refuse (k := 5) (by decide) (by decide) hM hA (fun f1 M1 hM1 hA1 hF1 => ⟨_, rfl, ?_⟩)
      exact x_ireturn rfl rfl rfl (Nat.le_of_ble_eq_true rfl) (Nat.le_of_ble_eq_true rfl) (h _ _ hM1 hA1 hF1)
    · rw [show s_bestR A a = _ from (if_neg d1).trans (if_neg d2)] at h
      refine x_icmp_le (tgt := 24) (pc' := 17) rfl rfl rfl (fun _ => ?_) (fun q => absurd (Int32.not_lt.mp d2) q)
      obtain ⟨n, hn, rfl⟩ := nI_of2 (n := 4) (M := 4) rfl (fun q => d1 (Int32.lt_trans q (by decide))) (Int32.not_lt.mp d2)
      rw [nI_clamp (by omega)] at h
      refine x_aload_n (pc' := 25) rfl rfl rfl ?_
      refine x_iload_n (pc' := 26) rfl rfl rfl ?_
      refine x_iconst (pc' := 27) rfl rfl iconst_0 ?_
      refine x_cV2i (d := (n + 5)) (pc' := 30) rfl rfl sX6_173 gX6_seeks (hM.1) (x_room (by omega) (Nat.le_of_ble_eq_true rfl)) (Nat.le_of_ble_eq_true rfl) ⟨Nat.le_of_ble_eq_true rfl, Nat.le_of_ble_eq_true rfl⟩ ?_
      refine m_seeks (C := 99) (by decide) (by decide) n 0 (a_g A) f M _ (by omega) hM b1 ho.1 b3 (fun f1 M1 hM1 g1 s1 e22 hF1 => ⟨_, rfl, ?_⟩)
      refine x_pop (pc' := 31) rfl rfl rfl ?_
      refine x_aload_n (pc' := 32) rfl rfl rfl ?_
      refine x_get (pc' := 35) rfl rfl rfl (hM1.1) rfl ?_
      refine x_eqi e22 ?_
      exact x_ireturn rfl rfl rfl (Nat.le_of_ble_eq_true rfl) (Nat.le_of_ble_eq_true rfl) (h _ _ hM1 (hA.sc s1.sc g1) hF1)
  · rw [show s_bestR A a = _ from if_pos (Int32.not_le.mp c2)] at h
    refine x_aload_n (pc' := 6) rfl rfl rfl ?_
    refine x_bipush (pc' := 8) rfl rfl bipush_m4 ?_
    refine x_cV1i (d := 1) (pc' := 11) rfl rfl sX6_110 gX6_refuse (hM.1) (x_room (by omega) (Nat.le_of_ble_eq_true rfl)) (Nat.le_of_ble_eq_true rfl) ⟨Nat.le_of_ble_eq_true rfl, Nat.le_of_ble_eq_true rfl⟩ ?_
    refine r_refuse (k := 3) (by decide) (by decide) hM hA (fun f1 M1 hM1 hA1 hF1 => ⟨_, rfl, ?_⟩)
    exact x_ireturn rfl rfl rfl (Nat.le_of_ble_eq_true rfl) (Nat.le_of_ble_eq_true rfl) (h _ _ hM1 hA1 hF1)
theorem r_worth (hM : x_Mdl z f M) (hA : r_is M A) (ho : a_ok A) (h : r_ends z f post (s_worthR A a)) : Y E 12 mX6_worth [.ref 59, .int a] z f 0 0 post := by
  refine Y.intro gX6_worth (lv := [(0, .ref 59), (1, .int a)]) rfl (Nat.le_of_ble_eq_true rfl) ?_
  obtain ⟨b1, b2, b3, b4, b5, b6, b7, b8, b9⟩ := id hA
  refine x_iload_n (pc' := 1) rfl rfl rfl ?_
  refine x_iconst (pc' := 2) rfl rfl iconst_1 ?_
  refine x_icmp_ge (tgt := 12) (pc' := 5) rfl rfl rfl (fun c2 => ?_) (fun c2 => ?_)
  · have d1 : ¬ a < 1 := Int32.not_lt.mpr c2
    refine x_iload_n (pc' := 13) rfl rfl rfl ?_
    refine x_iconst (pc' := 14) rfl rfl iconst_4 ?_
    by_cases d2 : 4 < a
    · rw [show s_worthR A a = _ from (if_neg d1).trans (if_pos d2)] at h
      refine x_icmp_le (tgt := 24) (pc' := 17) rfl rfl rfl (fun q => absurd d2 (Int32.not_lt.mpr q)) (fun _ => ?_)
      refine x_aload_n (pc' := 18) rfl rfl rfl ?_
      refine x_bipush (pc' := 20) rfl rfl bipush_m6 ?_
      refine x_cV1i (d := 2) (pc' := 23) rfl rfl sX6_180 gX6_told (hM.1) ⟨Nat.le_of_ble_eq_true rfl, Nat.le_of_ble_eq_true rfl⟩ (Nat.le_of_ble_eq_true rfl) ⟨Nat.le_of_ble_eq_true rfl, Nat.le_of_ble_eq_true rfl⟩ ?_
      refine r_told (k := 5) (by decide) (by decide) hM hA (fun f1 M1 hM1 hA1 hF1 => ⟨_, rfl, ?_⟩)
      exact x_ireturn rfl rfl rfl (Nat.le_of_ble_eq_true rfl) (Nat.le_of_ble_eq_true rfl) (h _ _ hM1 hA1 hF1)
    · rw [show s_worthR A a = _ from (if_neg d1).trans (if_neg d2)] at h
      refine x_icmp_le (tgt := 24) (pc' := 17) rfl rfl rfl (fun _ => ?_) (fun q => absurd (Int32.not_lt.mp d2) q)
      obtain ⟨n, hn, rfl⟩ := nI_of2 (n := 4) (M := 4) rfl (fun q => d1 (Int32.lt_trans q (by decide))) (Int32.not_lt.mp d2)
      rw [nI_clamp (by omega)] at h
      refine x_aload_n (pc' := 25) rfl rfl rfl ?_
      refine x_iload_n (pc' := 26) rfl rfl rfl ?_
      refine x_cV1i (d := 10) (pc' := 29) rfl rfl sX6_183 gX6_worthOf (hM.1) ⟨Nat.le_of_ble_eq_true rfl, Nat.le_of_ble_eq_true rfl⟩ (Nat.le_of_ble_eq_true rfl) ⟨Nat.le_of_ble_eq_true rfl, Nat.le_of_ble_eq_true rfl⟩ ?_
      refine m_worthOf (C := 99) hn (by decide) (by decide) hM b1 ho.1 b3 (fun f1 M1 hM1 g1 s1 hF1 => ⟨_, rfl, ?_⟩)
      exact x_ireturn rfl rfl rfl (Nat.le_of_ble_eq_true rfl) (Nat.le_of_ble_eq_true rfl) (h _ _ hM1 (hA.sc s1.sc g1) hF1)
  · rw [show s_worthR A a = _ from if_pos (Int32.not_le.mp c2)] at h
    refine x_aload_n (pc' := 6) rfl rfl rfl ?_
    refine x_bipush (pc' := 8) rfl rfl bipush_m4 ?_
    refine x_cV1i (d := 2) (pc' := 11) rfl rfl sX6_180 gX6_told (hM.1) ⟨Nat.le_of_ble_eq_true rfl, Nat.le_of_ble_eq_true rfl⟩ (Nat.le_of_ble_eq_true rfl) ⟨Nat.le_of_ble_eq_true rfl, Nat.le_of_ble_eq_true rfl⟩ ?_
    refine r_told (k := 3) (by decide) (by decide) hM hA (fun f1 M1 hM1 hA1 hF1 => ⟨_, rfl, ?_⟩)
    exact x_ireturn rfl rfl rfl (Nat.le_of_ble_eq_true rfl) (Nat.le_of_ble_eq_true rfl) (h _ _ hM1 hA1 hF1)
def g_bm (g : q_G) (b v : Nat) : q_G := (g.1, q_up (g_β g) b v, g.2.2)
theorem g_bm_ok {C D : Nat} {g : q_G} {b v : Nat} (h : g_ok C g) (hb : b < g_n g) (hC : C ≤ D) (hv : v ≤ D) : g_ok D (g_bm g b v) := by
  obtain ⟨a1, a2, a3, a4, a5, a6, a7, a8, a9⟩ := h.mono hC
  refine ⟨a1, a2, a3, a4, a5, q_up_le a6 hv, a7, fun i hi => ⟨(a8 i hi).1, ?_⟩, a9⟩
  show q_up (g_β g) b v i = 0
  have hn : g_n g ≤ 9 := a1
  rw [q_up_n _ _ (by omega)]
  exact (a8 i hi).2
theorem m_worthBy {b v : Nat} {w : Int32} (hb : b < g_n g) (hw : nI (g_β g b) + w = nI v) (hw2 : nI v - w = nI (g_β g b)) (hv : v ≤ 100) (hM : x_Mdl z f M) (hm : m_is M g) (hg : g_ok 99 g) (h18 : M.1 18 = 0) (h : ∀ (f' : x_H) (M' : x_N), x_Mdl z f' M' → m_is M' g → m_sk M M' 0 → x_fr (fun q => q < 59) f f' → post (some (.int (q_wI 2 (g_bm g b v) - q_wI 2 g))) f') : Y E 12 mX6_worthBy [.ref 59, .int (nI b), .int w] z f 0 0 post := by
  refine Y.intro gX6_worthBy (lv := [(0, .ref 59), (1, .int (nI b)), (2, .int w)]) rfl (Nat.le_of_ble_eq_true rfl) ?_
  have hn9 := hg.1
  have hcl : (nI b).toNatClampNeg = b := nI_clamp (by omega)
  have e0 : M.2.1 1 (nI b).toNatClampNeg = nI (g_β g b) := by rw [hcl, hm.2.1]
  refine x_aload_n (pc' := 1) rfl rfl rfl ?_
  refine x_get (pc' := 4) rfl rfl rfl (hM.1) rfl ?_
  refine x_iload_n (pc' := 5) rfl rfl rfl ?_
  refine x_dup2 (pc' := 6) rfl rfl rfl rfl ?_
  refine x_iaload (pc' := 7) rfl rfl (hM.2.1 1 (by decide)) (vp_in_nI (n := b) (N := 9) (by omega) (by decide)) ?_
  refine x_eqi e0 ?_
  refine x_iload_n (pc' := 8) rfl rfl rfl ?_
  refine x_iadd (pc' := 9) rfl rfl ?_
  refine x_eqi hw ?_
  refine x_iastore (pc' := 10) rfl rfl (hM.2.1 1 (by decide)) (vp_in_nI (n := b) (N := 9) (by omega) (by decide)) (fun f1 e1 => ?_)
  have hM1 := hM.arr 1 (by decide) e1
  have hF1 := r_fr0 e1 (by decide)
  have g1 : m_is (M.1, x_ua M.2.1 1 (upd (M.2.1 1) (nI b).toNatClampNeg (nI v)), M.2.2) (g_bm g b v) := ⟨hm.1, (by show upd (M.2.1 1) (nI b).toNatClampNeg (nI v) = _; rw [hcl, hm.2.1, q_up_I]; rfl), hm.2.2.1, hm.2.2.2.1, hm.2.2.2.2.1, hm.2.2.2.2.2.1, hm.2.2.2.2.2.2⟩
  refine x_aload_n (pc' := 11) rfl rfl rfl ?_
  refine x_iconst (pc' := 12) rfl rfl iconst_2 ?_
  refine x_cV1i (d := 10) (pc' := 15) rfl rfl sX6_183 gX6_worthOf (hM1.1) ⟨Nat.le_of_ble_eq_true rfl, Nat.le_of_ble_eq_true rfl⟩ (Nat.le_of_ble_eq_true rfl) ⟨Nat.le_of_ble_eq_true rfl, Nat.le_of_ble_eq_true rfl⟩ ?_
  refine m_worthOf (n := 2) (C := 100) (by decide) (by decide) (by decide) hM1 g1 (g_bm_ok hg hb (by decide) hv) h18 (fun f2 M2 hM2 g2 s2 hF2 => ⟨_, rfl, ?_⟩)
  have e2 : M2.2.1 1 (nI b).toNatClampNeg = nI v := by rw [hcl, g2.2.1]; exact congrArg nI (q_up_s _ _ _)
  refine x_istore_n (pc' := 16) (lv' := [(3, _), (0, _), (1, _), (2, _)]) rfl rfl (Nat.le_of_ble_eq_true rfl) rfl ?_
  refine x_aload_n (pc' := 17) rfl rfl rfl ?_
  refine x_get (pc' := 20) rfl rfl rfl (hM2.1) rfl ?_
  refine x_iload_n (pc' := 21) rfl rfl rfl ?_
  refine x_dup2 (pc' := 22) rfl rfl rfl rfl ?_
  refine x_iaload (pc' := 23) rfl rfl (hM2.2.1 1 (by decide)) (vp_in_nI (n := b) (N := 9) (by omega) (by decide)) ?_
  refine x_eqi e2 ?_
  refine x_iload_n (pc' := 24) rfl rfl rfl ?_
  refine x_isub (pc' := 25) rfl rfl ?_
  refine x_eqi hw2 ?_
  refine x_iastore (pc' := 26) rfl rfl (hM2.2.1 1 (by decide)) (vp_in_nI (n := b) (N := 9) (by omega) (by decide)) (fun f2 e2 => ?_)
  have hM3 := hM2.arr 1 (by decide) e2
  have hF3 := (hF1.trans hF2).trans (r_fr0 e2 (by decide))
  have g3 : m_is (M2.1, x_ua M2.2.1 1 (upd (M2.2.1 1) (nI b).toNatClampNeg (nI (g_β g b))), M2.2.2) g := ⟨g2.1, (by show upd (M2.2.1 1) (nI b).toNatClampNeg (nI (g_β g b)) = _; rw [hcl, g2.2.1, q_up_I]; funext i; show nI (q_up (q_up (g_β g) b v) b (g_β g b) i) = nI (g_β g i); congr 1; unfold q_up; split; rename_i hi; rw [hi]; rfl), g2.2.2.1, g2.2.2.2.1, g2.2.2.2.2.1, g2.2.2.2.2.2.1, g2.2.2.2.2.2.2⟩
  have h183 : M2.1 18 = 0 := (s2.2.2.1 18 (by decide) (by decide) (by decide) (by decide) (by decide) (by decide)).trans h18
  have s3 : m_sk M (M2.1, x_ua M2.2.1 1 (upd (M2.2.1 1) (nI b).toNatClampNeg (nI (g_β g b))), M2.2.2) 0 := ⟨fun j a b c => (if_neg a).trans ((s2.1 j a b c).trans (if_neg a)), s2.2.1, s2.2.2.1, s2.2.2.2⟩
  refine x_iload_n (pc' := 27) rfl rfl rfl ?_
  refine x_aload_n (pc' := 28) rfl rfl rfl ?_
  refine x_iconst (pc' := 29) rfl rfl iconst_2 ?_
  refine x_cV1i (d := 10) (pc' := 32) rfl rfl sX6_183 gX6_worthOf (hM3.1) ⟨Nat.le_of_ble_eq_true rfl, Nat.le_of_ble_eq_true rfl⟩ (Nat.le_of_ble_eq_true rfl) ⟨Nat.le_of_ble_eq_true rfl, Nat.le_of_ble_eq_true rfl⟩ ?_
  refine m_worthOf (n := 2) (C := 99) (by decide) (by decide) (by decide) hM3 g3 hg h183 (fun f4 M4 hM4 g4 s4 hF4 => ⟨_, rfl, ?_⟩)
  refine x_isub (pc' := 33) rfl rfl ?_
  exact x_ireturn rfl rfl rfl (Nat.le_of_ble_eq_true rfl) (Nat.le_of_ble_eq_true rfl) (h _ _ hM4 g4 (s3.trans s4 (Nat.le_refl 0)) (hF3.trans hF4))
def s_priceR (A : q_A) (a : Int32) : q_A × Int32 := if q_in (g_n (a_g A)) a then (A, q_wI 2 (g_bm (a_g A) a.toNatClampNeg (g_β (a_g A) a.toNatClampNeg + 1)) - q_wI 2 (a_g A)) else (s_no A 1, 1000000000 - (-1))
def s_soldR (A : q_A) (a : Int32) : q_A × Int32 := if q_in (g_n (a_g A)) a then (if g_β (a_g A) a.toNatClampNeg = 0 then (s_no A 3, 1000000000 - (-3)) else (A, q_wI 2 (g_bm (a_g A) a.toNatClampNeg (g_β (a_g A) a.toNatClampNeg - 1)) - q_wI 2 (a_g A))) else (s_no A 1, 1000000000 - (-1))
theorem r_price (hM : x_Mdl z f M) (hA : r_is M A) (ho : a_ok A) (h : r_ends z f post (s_priceR A a)) : Y E 14 mX6_price [.ref 59, .int a] z f 0 0 post := by
  refine Y.intro gX6_price (lv := [(0, .ref 59), (1, .int a)]) rfl (Nat.le_of_ble_eq_true rfl) ?_
  obtain ⟨b1, b2, b3, b4, b5, b6, b7, b8, b9⟩ := id hA
  have hn9 := ho.1.1
  refine x_aload_n (pc' := 1) rfl rfl rfl ?_
  refine x_iload_n (pc' := 2) rfl rfl rfl ?_
  refine x_cV1i (d := 2) (pc' := 5) rfl rfl sX6_103 gX6_isBowl (hM.1) ⟨Nat.le_of_ble_eq_true rfl, Nat.le_of_ble_eq_true rfl⟩ (Nat.le_of_ble_eq_true rfl) ⟨Nat.le_of_ble_eq_true rfl, Nat.le_of_ble_eq_true rfl⟩ ?_
  refine r_bowl hM hA ho (fun d1 => ⟨_, rfl, ?_⟩) (fun d1 => ⟨_, rfl, ?_⟩)
  · rw [show s_priceR A a = _ from if_pos d1] at h
    obtain ⟨k, hk, hk2, rfl, hcl⟩ := q_in_k d1
    rw [hcl] at h
    have hβ := ho.1.2.2.2.2.2.1 k
    refine x_if_eq (tgt := 17) (pc' := 8) rfl rfl rfl (fun c5 => absurd c5 ((by decide))) (fun _ => ?_)
    refine x_aload_n (pc' := 9) rfl rfl rfl ?_
    refine x_iload_n (pc' := 10) rfl rfl rfl ?_
    refine x_iconst (pc' := 11) rfl rfl iconst_1 ?_
    refine x_cV2i (d := 12) (pc' := 14) rfl rfl sX6_200 gX6_worthBy (hM.1) ⟨Nat.le_of_ble_eq_true rfl, Nat.le_of_ble_eq_true rfl⟩ (Nat.le_of_ble_eq_true rfl) ⟨Nat.le_of_ble_eq_true rfl, Nat.le_of_ble_eq_true rfl⟩ ?_
    refine m_worthBy (v := g_β (a_g A) k + 1) hk (nI_1 _) (nI_pred _) (by omega) hM b1 ho.1 b3 (fun f1 M1 hM1 g1 s1 hF1 => ⟨_, rfl, ?_⟩)
    refine x_goto (tgt := 22) rfl rfl ?_
    exact x_ireturn rfl rfl rfl (Nat.le_of_ble_eq_true rfl) (Nat.le_of_ble_eq_true rfl) (h _ _ hM1 (hA.sc s1.sc g1) hF1)
  · rw [show s_priceR A a = _ from if_neg d1] at h
    refine x_if_eq (tgt := 17) (pc' := 8) rfl rfl rfl (fun _ => ?_) (fun c5 => absurd (rfl) c5)
    refine x_aload_n (pc' := 18) rfl rfl rfl ?_
    refine x_iconst (pc' := 19) rfl rfl iconst_m1 ?_
    refine x_cV1i (d := 2) (pc' := 22) rfl rfl sX6_180 gX6_told (hM.1) ⟨Nat.le_of_ble_eq_true rfl, Nat.le_of_ble_eq_true rfl⟩ (Nat.le_of_ble_eq_true rfl) ⟨Nat.le_of_ble_eq_true rfl, Nat.le_of_ble_eq_true rfl⟩ ?_
    refine r_told (k := 0) (by decide) (by decide) hM hA (fun f1 M1 hM1 hA1 hF1 => ⟨_, rfl, ?_⟩)
    exact x_ireturn rfl rfl rfl (Nat.le_of_ble_eq_true rfl) (Nat.le_of_ble_eq_true rfl) (h _ _ hM1 hA1 hF1)
theorem r_sold (hM : x_Mdl z f M) (hA : r_is M A) (ho : a_ok A) (h : r_ends z f post (s_soldR A a)) : Y E 14 mX6_sold [.ref 59, .int a] z f 0 0 post := by
  refine Y.intro gX6_sold (lv := [(0, .ref 59), (1, .int a)]) rfl (Nat.le_of_ble_eq_true rfl) ?_
  obtain ⟨b1, b2, b3, b4, b5, b6, b7, b8, b9⟩ := id hA
  have hn9 := ho.1.1
  refine x_aload_n (pc' := 1) rfl rfl rfl ?_
  refine x_iload_n (pc' := 2) rfl rfl rfl ?_
  refine x_cV1i (d := 2) (pc' := 5) rfl rfl sX6_103 gX6_isBowl (hM.1) ⟨Nat.le_of_ble_eq_true rfl, Nat.le_of_ble_eq_true rfl⟩ (Nat.le_of_ble_eq_true rfl) ⟨Nat.le_of_ble_eq_true rfl, Nat.le_of_ble_eq_true rfl⟩ ?_
  refine r_bowl hM hA ho (fun d1 => ⟨_, rfl, ?_⟩) (fun d1 => ⟨_, rfl, ?_⟩)
  · rw [show s_soldR A a = _ from if_pos d1] at h
    obtain ⟨k, hk, hk2, rfl, hcl⟩ := q_in_k d1
    have e0 : M.2.1 1 (nI k).toNatClampNeg = nI (g_β (a_g A) k) := by rw [hcl, b1.2.1]
    rw [hcl] at h
    have hβ := ho.1.2.2.2.2.2.1 k
    refine x_if_ne (tgt := 14) (pc' := 8) rfl rfl rfl (fun _ => ?_) (fun c5 => absurd c5 ((by decide)))
    refine x_aload_n (pc' := 15) rfl rfl rfl ?_
    refine x_get (pc' := 18) rfl rfl rfl (hM.1) rfl ?_
    refine x_iload_n (pc' := 19) rfl rfl rfl ?_
    refine x_iaload (pc' := 20) rfl rfl (hM.2.1 1 (by decide)) (vp_in_nI (n := k) (N := 9) (by omega) (by decide)) ?_
    refine x_eqi e0 ?_
    by_cases d2 : g_β (a_g A) k = 0
    · rw [if_pos d2] at h
      refine x_if_ne (tgt := 32) (pc' := 23) rfl rfl rfl (fun q => absurd (by rw [d2]; rfl) q) (fun _ => ?_)
      refine x_aload_n (pc' := 24) rfl rfl rfl ?_
      refine x_bipush (pc' := 26) rfl rfl bipush_m3 ?_
      refine x_cV1i (d := 2) (pc' := 29) rfl rfl sX6_180 gX6_told (hM.1) ⟨Nat.le_of_ble_eq_true rfl, Nat.le_of_ble_eq_true rfl⟩ (Nat.le_of_ble_eq_true rfl) ⟨Nat.le_of_ble_eq_true rfl, Nat.le_of_ble_eq_true rfl⟩ ?_
      refine r_told (k := 2) (by decide) (by decide) hM hA (fun f1 M1 hM1 hA1 hF1 => ⟨_, rfl, ?_⟩)
      refine x_goto (tgt := 38) rfl rfl ?_
      exact x_ireturn rfl rfl rfl (Nat.le_of_ble_eq_true rfl) (Nat.le_of_ble_eq_true rfl) (h _ _ hM1 hA1 hF1)
    · rw [if_neg d2] at h
      refine x_if_ne (tgt := 32) (pc' := 23) rfl rfl rfl (fun _ => ?_) (fun q => absurd q (nI_ne0 (by omega) (by omega)))
      refine x_aload_n (pc' := 33) rfl rfl rfl ?_
      refine x_iload_n (pc' := 34) rfl rfl rfl ?_
      refine x_iconst (pc' := 35) rfl rfl iconst_m1 ?_
      refine x_cV2i (d := 12) (pc' := 38) rfl rfl sX6_200 gX6_worthBy (hM.1) ⟨Nat.le_of_ble_eq_true rfl, Nat.le_of_ble_eq_true rfl⟩ (Nat.le_of_ble_eq_true rfl) ⟨Nat.le_of_ble_eq_true rfl, Nat.le_of_ble_eq_true rfl⟩ ?_
      refine m_worthBy (v := g_β (a_g A) k - 1) hk (by obtain ⟨v, hv⟩ : ∃ v, g_β (a_g A) k = v + 1 := ⟨g_β (a_g A) k - 1, by omega⟩; rw [hv]; exact pk_m1 v) (by obtain ⟨v, hv⟩ : ∃ v, g_β (a_g A) k = v + 1 := ⟨g_β (a_g A) k - 1, by omega⟩; rw [hv, nI_succ, Nat.add_sub_cancel, Int32.sub_neg]) (by omega) hM b1 ho.1 b3 (fun f1 M1 hM1 g1 s1 hF1 => ⟨_, rfl, ?_⟩)
      exact x_ireturn rfl rfl rfl (Nat.le_of_ble_eq_true rfl) (Nat.le_of_ble_eq_true rfl) (h _ _ hM1 (hA.sc s1.sc g1) hF1)
  · rw [show s_soldR A a = _ from if_neg d1] at h
    refine x_if_ne (tgt := 14) (pc' := 8) rfl rfl rfl (fun c5 => absurd (rfl) c5) (fun _ => ?_)
    refine x_aload_n (pc' := 9) rfl rfl rfl ?_
    refine x_iconst (pc' := 10) rfl rfl iconst_m1 ?_
    refine x_cV1i (d := 2) (pc' := 13) rfl rfl sX6_180 gX6_told (hM.1) ⟨Nat.le_of_ble_eq_true rfl, Nat.le_of_ble_eq_true rfl⟩ (Nat.le_of_ble_eq_true rfl) ⟨Nat.le_of_ble_eq_true rfl, Nat.le_of_ble_eq_true rfl⟩ ?_
    refine r_told (k := 0) (by decide) (by decide) hM hA (fun f1 M1 hM1 hA1 hF1 => ⟨_, rfl, ?_⟩)
    exact x_ireturn rfl rfl rfl (Nat.le_of_ble_eq_true rfl) (Nat.le_of_ble_eq_true rfl) (h _ _ hM1 hA1 hF1)
end SK
end
section
-- == 67.pairs
/-! The reference: pairs that change, fair starts, bowls emptied. -/
def q_c2 (W : Nat → Int32) (a : Nat) : Nat → Int32 × Int32 → Int32 × Int32
  | 0, r => r
  | m + 1, r => if (q_c2 W a m r).1 < W (a + 1 + m) then (W (a + 1 + m), nI (10 * a + (a + 1 + m))) else q_c2 W a m r
def q_c1 (W : Nat → Nat → Int32) (n : Nat) (r : Int32 × Int32) : Nat → Int32 × Int32
  | 0 => r
  | a + 1 => q_c2 (W a) a (n - (a + 1)) (q_c1 W n r a)
def q_chg (W : q_G → Int32) (g : q_G) : Int32 := (q_c1 (fun a b => W (g_sw g a b)) (g_n g) (W g, -9) (g_n g)).2
def g_fl (g : q_G) (v : Nat) : q_G := (g.1, fun i => if i < g_n g then v else g_β g i, g.2.2)
theorem g_fl_ok {C : Nat} {g : q_G} {v : Nat} (h : g_ok C g) (hv : v ≤ C) : g_ok C (g_fl g v) := by
  obtain ⟨a1, a2, a3, a4, a5, a6, a7, a8, a9⟩ := h
  refine ⟨a1, a2, a3, a4, a5, fun i => ?_, a7, fun i hi => ⟨(a8 i hi).1, ?_⟩, a9⟩
  · show (if i < g_n g then v else g_β g i) ≤ C
    split
    · exact hv
    · exact a6 i
  · show (if i < g_n g then v else g_β g i) = 0
    rw [if_neg (by omega)]
    exact (a8 i hi).2
def q_fr (W : Nat → Int32) : Nat → Nat → Int32
  | 0, _ => -9
  | k + 1, v => if W v = 0 then nI v else q_fr W k (v + 1)
def q_fo (c : Nat → Bool) : Nat → Nat → Option Nat
  | 0, _ => none
  | k + 1, b => if c b = true then some b else q_fo c k (b + 1)
def q_em (w : Nat) : Nat → q_G → Bool
  | 0, g => decide (g_β g w = 0)
  | k + 1, g => decide (g_β g w = 0) || (q_fo (fun b => decide (g_can g b) && q_em w k (g_mv g b)) (g_n g) 0).isSome
abbrev q_ec (w k : Nat) (g : q_G) : Nat → Bool := fun b => decide (g_can g b) && q_em w k (g_mv g b)
def q_ef (w : Nat) : Nat → q_G → Int32 → Int32
  | 0, _, fo => fo
  | k + 1, g, fo => if g_β g w = 0 then fo else (match q_fo (q_ec w k g) (g_n g) 0 with | some b => nI b | none => fo)
def q_te (w : Nat) (g : q_G) (b : Int32) : Nat → Nat → Int32
  | 0, _ => -9
  | k + 1, n => if q_em w n g = true then (if b = 0 then nI n else q_ef w n g (-9)) else q_te w g b k (n + 1)
theorem q_sw_sw (β : Nat → Nat) {a b : Nat} (h : a ≠ b) : q_up (q_up (q_up (q_up β a (β b)) b (β a)) a (q_up (q_up β a (β b)) b (β a) b)) b (q_up (q_up β a (β b)) b (β a) a) = β := by
  have e1 : q_up (q_up β a (β b)) b (β a) b = β a := q_up_s _ _ _
  have e2 : q_up (q_up β a (β b)) b (β a) a = β b := (q_up_n _ _ h).trans (q_up_s _ _ _)
  rw [e1, e2]
  funext i
  by_cases hb : i = b
  · subst hb
    exact q_up_s _ _ _
  · rw [q_up_n _ _ hb]
    by_cases ha : i = a
    · subst ha
      exact q_up_s _ _ _
    · rw [q_up_n _ _ ha, q_up_n _ _ hb, q_up_n _ _ ha]
section PR
variable {E : x_E} {z : Nat} {f : x_H} {M M0 : x_N} {A : q_A} {post : Option Value → x_H → Prop} {g : q_G} {C : Nat} {a b : Int32}
theorem m_is_sw {v w : Nat} (hm : m_is M g) : m_is (M.1, x_ua M.2.1 1 (upd (upd (M.2.1 1) v (M.2.1 1 w)) w (M.2.1 1 v)), M.2.2) (g_sw g v w) := by
  refine ⟨hm.1, ?_, hm.2.2.1, hm.2.2.2.1, hm.2.2.2.2.1, hm.2.2.2.2.2.1, hm.2.2.2.2.2.2⟩
  show upd (upd (M.2.1 1) v (M.2.1 1 w)) w (M.2.1 1 v) = _
  rw [hm.2.1, q_up_I, q_up_I]
  rfl
theorem m_is_ss {v w : Nat} (h : v ≠ w) (hm : m_is M (g_sw (g_sw g v w) v w)) : m_is M g := by
  obtain ⟨h1, h2, h3⟩ := hm
  refine ⟨h1, ?_, h3⟩
  rw [h2]
  show (fun i => nI (q_up (q_up (q_up (q_up (g_β g) v (g_β g w)) w (g_β g v)) v (q_up (q_up (g_β g) v (g_β g w)) w (g_β g v) w)) w (q_up (q_up (g_β g) v (g_β g w)) w (g_β g v) v) i)) = _
  rw [q_sw_sw _ h]
theorem m_sk.b1 {h : Nat → Int32} : m_sk M (M.1, x_ua M.2.1 1 h, M.2.2) 0 := ⟨fun j a _ _ => if_neg a, rfl, fun _ _ _ _ _ _ _ => rfl, fun j hj => rfl⟩
theorem m_sk.n18 (h : m_sk M M0 0) : M0.1 18 = M.1 18 := h.2.2.1 18 (by decide) (by decide) (by decide) (by decide) (by decide) (by decide)
theorem r_chI {v : Nat} (hg : g_ok 99 g) (hv : v < g_n g) (f0 : x_H) (M0 : x_N) (h18 : M0.1 18 = 0) (r0 : Int32 × Int32) (K : ∀ (f' : x_H) (M' : x_N), x_Mdl z f' M' → m_is M' g → m_sk M0 M' 0 → x_fr (fun q => q < 59) f0 f' → X E (x_rm 14 0 0) mX6_change (x_QM E z 0 0 post) 77 [(4, .int (nI (g_n g))), (3, .int (nI v)), (2, .int (q_c2 (fun b => q_wI 2 (g_sw g v b)) v (g_n g - (v + 1)) r0).2), (1, .int (q_c2 (fun b => q_wI 2 (g_sw g v b)) v (g_n g - (v + 1)) r0).1), (0, .ref 59)] [] z f' 0 0) :
    ∀ (m i : Nat) (f : x_H) (M : x_N), v + 1 + i + m = g_n g → x_Mdl z f M → m_is M g → m_sk M0 M 0 → x_fr (fun q => q < 59) f0 f → X E (x_rm 14 0 0) mX6_change (x_QM E z 0 0 post) 24 [(4, .int (nI (v + 1 + i))), (3, .int (nI v)), (2, .int (q_c2 (fun b => q_wI 2 (g_sw g v b)) v i r0).2), (1, .int (q_c2 (fun b => q_wI 2 (g_sw g v b)) v i r0).1), (0, .ref 59)] [] z f 0 0 := by
  have hn9 := hg.1
  intro m
  induction m with
  | zero =>
    intro i f M hi hM hm hs hF
    have hi2 : i = g_n g - (v + 1) := by omega
    subst hi2
    have hi3 : v + 1 + (g_n g - (v + 1)) = g_n g := by omega
    rw [hi3]
    refine x_iload (pc' := 26) rfl rfl rfl ?_
    refine x_aload_n (pc' := 27) rfl rfl rfl ?_
    refine x_get (pc' := 30) rfl rfl rfl (hM.1) rfl ?_
    refine x_eqi hm.2.2.2.1 ?_
    refine x_icmp_ge (tgt := 77) (pc' := 33) rfl rfl rfl (fun _ => ?_) (fun c30 => absurd ((Int32.le_refl _)) c30)
    exact K _ _ hM hm hs hF
  | succ m ih =>
    intro i f M hi hM hm hs hF
    have eq1 : q_c2 (fun b => q_wI 2 (g_sw g v b)) v (i + 1) r0 = if (q_c2 (fun b => q_wI 2 (g_sw g v b)) v i r0).1 < q_wI 2 (g_sw g v (v + 1 + i)) then (q_wI 2 (g_sw g v (v + 1 + i)), nI (10 * v + (v + 1 + i))) else q_c2 (fun b => q_wI 2 (g_sw g v b)) v i r0 := rfl
    have h9 := fun f M => ih (i + 1) f M (by omega)
    generalize q_c2 (fun b => q_wI 2 (g_sw g v b)) v (i + 1) r0 = s1 at eq1 h9
    generalize q_c2 (fun b => q_wI 2 (g_sw g v b)) v i r0 = s0 at eq1 ⊢
    have h18' : M.1 18 = 0 := hs.n18.trans h18
    have hsw := g_sw_ok (v := v) (w := v + 1 + i) hg hv (by omega)
    refine x_iload (pc' := 26) rfl rfl rfl ?_
    refine x_aload_n (pc' := 27) rfl rfl rfl ?_
    refine x_get (pc' := 30) rfl rfl rfl (hM.1) rfl ?_
    refine x_eqi hm.2.2.2.1 ?_
    refine x_icmp_ge (tgt := 77) (pc' := 33) rfl rfl rfl (fun c30 => absurd c30 ((nI_ge (by omega) (by omega)))) (fun _ => ?_)
    refine x_aload_n (pc' := 34) rfl rfl rfl ?_
    refine x_iload_n (pc' := 35) rfl rfl rfl ?_
    refine x_iload (pc' := 37) rfl rfl rfl ?_
    refine x_cV2v (d := 1) (pc' := 40) rfl rfl sX6_147 gX6_exchanges (hM.1) ⟨Nat.le_of_ble_eq_true rfl, Nat.le_of_ble_eq_true rfl⟩ (Nat.le_of_ble_eq_true rfl) ⟨Nat.le_of_ble_eq_true rfl, Nat.le_of_ble_eq_true rfl⟩ ?_
    refine m_exch (v := v) (w := v + 1 + i) hM (by omega) (by omega) (fun f1 hM1 hF1 => ⟨rfl, ?_⟩)
    have g1 := m_is_sw (v := v) (w := v + 1 + i) hm
    have s1' := hs.trans (m_sk.b1 (M := M) (h := upd (upd (M.2.1 1) v (M.2.1 1 (v + 1 + i))) (v + 1 + i) (M.2.1 1 v))) (Nat.le_refl 0)
    refine x_aload_n (pc' := 41) rfl rfl rfl ?_
    refine x_iconst (pc' := 42) rfl rfl iconst_2 ?_
    refine x_cV1i (d := 10) (pc' := 45) rfl rfl sX6_183 gX6_worthOf (hM1.1) ⟨Nat.le_of_ble_eq_true rfl, Nat.le_of_ble_eq_true rfl⟩ (Nat.le_of_ble_eq_true rfl) ⟨Nat.le_of_ble_eq_true rfl, Nat.le_of_ble_eq_true rfl⟩ ?_
    refine m_worthOf (n := 2) (C := 99) (by decide) (by decide) (by decide) hM1 g1 hsw h18' (fun f2 M2 hM2 g2 k2 hF2 => ⟨_, rfl, ?_⟩)
    refine x_istore (pc' := 47) (lv' := [(5, _), (4, _), (3, _), (2, _), (1, _), (0, _)]) rfl rfl (Nat.le_of_ble_eq_true rfl) rfl ?_
    refine x_aload_n (pc' := 48) rfl rfl rfl ?_
    refine x_iload_n (pc' := 49) rfl rfl rfl ?_
    refine x_iload (pc' := 51) rfl rfl rfl ?_
    refine x_cV2v (d := 1) (pc' := 54) rfl rfl sX6_147 gX6_exchanges (hM2.1) ⟨Nat.le_of_ble_eq_true rfl, Nat.le_of_ble_eq_true rfl⟩ (Nat.le_of_ble_eq_true rfl) ⟨Nat.le_of_ble_eq_true rfl, Nat.le_of_ble_eq_true rfl⟩ ?_
    refine m_exch (v := v) (w := v + 1 + i) hM2 (by omega) (by omega) (fun f3 hM3 hF3 => ⟨rfl, ?_⟩)
    have g3 := m_is_ss (by omega) (m_is_sw (v := v) (w := v + 1 + i) g2)
    have s3 := (s1'.trans k2 (Nat.le_refl 0)).trans (m_sk.b1 (M := M2) (h := upd (upd (M2.2.1 1) v (M2.2.1 1 (v + 1 + i))) (v + 1 + i) (M2.2.1 1 v))) (Nat.le_refl 0)
    have h8 := h9 f3 _ hM3 g3 s3 (((hF.trans hF1).trans hF2).trans hF3)
    refine x_iload (pc' := 56) rfl rfl rfl ?_
    refine x_iload_n (pc' := 57) rfl rfl rfl ?_
    by_cases d : s0.1 < q_wI 2 (g_sw g v (v + 1 + i))
    · rw [if_pos d] at eq1
      rw [eq1] at h8
      refine x_icmp_le (tgt := 71) (pc' := 60) rfl rfl rfl (fun q => absurd q (Int32.not_le.mpr d)) (fun _ => ?_)
      refine x_bipush (pc' := 62) rfl rfl bipush_10 ?_
      refine x_iload_n (pc' := 63) rfl rfl rfl ?_
      refine x_imul (pc' := 64) rfl rfl ?_
      refine x_eqi (show 10 * nI v = nI (10 * v) from pk_mul 10 v) ?_
      refine x_iload (pc' := 66) rfl rfl rfl ?_
      refine x_iadd (pc' := 67) rfl rfl ?_
      refine x_eqi (nI_add _ _) ?_
      refine x_istore_n (pc' := 68) (lv' := [(2, _), (5, _), (4, _), (3, _), (1, _), (0, _)]) rfl rfl (Nat.le_of_ble_eq_true rfl) rfl ?_
      refine x_iload (pc' := 70) rfl rfl rfl ?_
      refine x_istore_n (pc' := 71) (lv' := [(1, _), (2, _), (5, _), (4, _), (3, _), (0, _)]) rfl rfl (Nat.le_of_ble_eq_true rfl) rfl ?_
      refine x_iinc (pc' := 74) (lv' := [(4, _), (1, _), (2, _), (5, _), (3, _), (0, _)]) rfl rfl (Nat.le_of_ble_eq_true rfl) rfl (nI_1 _) rfl ?_
      refine x_goto (tgt := 24) rfl rfl ?_
      refine x_lvp [0, 4, 2, 1, 5] rfl ?_
      exact h8
    · rw [if_neg d] at eq1
      rw [eq1] at h8
      refine x_icmp_le (tgt := 71) (pc' := 60) rfl rfl rfl (fun _ => ?_) (fun q => absurd (Int32.not_lt.mp d) q)
      refine x_iinc (pc' := 74) (lv' := [(4, _), (5, _), (3, _), (2, _), (1, _), (0, _)]) rfl rfl (Nat.le_of_ble_eq_true rfl) rfl (nI_1 _) rfl ?_
      refine x_goto (tgt := 24) rfl rfl ?_
      refine x_lvp [0, 2, 3, 4, 5] rfl ?_
      exact h8
theorem r_chO (ho : a_ok A) (f0 : x_H) (M0 : x_N) (hA : r_is M0 A) (h : r_ends z f0 post (A, q_chg (q_wI 2) (a_g A))) : ∀ (m v : Nat) (f : x_H) (M : x_N), v + m = g_n (a_g A) → x_Mdl z f M → m_is M (a_g A) → m_sk M0 M 0 → x_fr (fun q => q < 59) f0 f → X E (x_rm 14 0 0) mX6_change (x_QM E z 0 0 post) 11 [(3, .int (nI v)), (2, .int (q_c1 (fun a b => q_wI 2 (g_sw (a_g A) a b)) (g_n (a_g A)) (q_wI 2 (a_g A), -9) v).2), (1, .int (q_c1 (fun a b => q_wI 2 (g_sw (a_g A) a b)) (g_n (a_g A)) (q_wI 2 (a_g A), -9) v).1), (0, .ref 59)] [] z f 0 0 := by
  have hn9 := ho.1.1
  intro m
  induction m with
  | zero =>
    intro v f M hv hM hm hs hF
    have hv2 : v = g_n (a_g A) := by omega
    subst hv2
    refine x_iload_n (pc' := 12) rfl rfl rfl ?_
    refine x_aload_n (pc' := 13) rfl rfl rfl ?_
    refine x_get (pc' := 16) rfl rfl rfl (hM.1) rfl ?_
    refine x_eqi hm.2.2.2.1 ?_
    refine x_icmp_ge (tgt := 83) (pc' := 19) rfl rfl rfl (fun _ => ?_) (fun c16 => absurd ((Int32.le_refl _)) c16)
    refine x_iload_n (pc' := 84) rfl rfl rfl ?_
    exact x_ireturn rfl rfl rfl (Nat.le_of_ble_eq_true rfl) (Nat.le_of_ble_eq_true rfl) (h _ _ hM (hA.sc hs.sc hm) hF)
  | succ m ih =>
    intro v f M hv hM hm hs hF
    have eq1 : q_c1 (fun a b => q_wI 2 (g_sw (a_g A) a b)) (g_n (a_g A)) (q_wI 2 (a_g A), -9) (v + 1) = q_c2 (fun b => q_wI 2 (g_sw (a_g A) v b)) v (g_n (a_g A) - (v + 1)) (q_c1 (fun a b => q_wI 2 (g_sw (a_g A) a b)) (g_n (a_g A)) (q_wI 2 (a_g A), -9) v) := rfl
    have h9 := fun f M => ih (v + 1) f M (by omega)
    rw [eq1] at h9
    refine x_iload_n (pc' := 12) rfl rfl rfl ?_
    refine x_aload_n (pc' := 13) rfl rfl rfl ?_
    refine x_get (pc' := 16) rfl rfl rfl (hM.1) rfl ?_
    refine x_eqi hm.2.2.2.1 ?_
    refine x_icmp_ge (tgt := 83) (pc' := 19) rfl rfl rfl (fun c16 => absurd c16 ((nI_ge (by omega) (by omega)))) (fun _ => ?_)
    refine x_iload_n (pc' := 20) rfl rfl rfl ?_
    refine x_iconst (pc' := 21) rfl rfl iconst_1 ?_
    refine x_iadd (pc' := 22) rfl rfl ?_
    refine x_eqi (nI_1 v) ?_
    refine x_istore (pc' := 24) (lv' := [(4, _), (3, _), (2, _), (1, _), (0, _)]) rfl rfl (Nat.le_of_ble_eq_true rfl) rfl ?_
    refine r_chI ho.1 (by omega) f M (hs.n18.trans hA.2.2.1) _ (fun f1 M1 hM1 g1 k1 hF1 => ?_) (g_n (a_g A) - (v + 1)) 0 f M (by omega) hM hm m_sk.rf x_fr.rf
    refine x_iinc (pc' := 80) (lv' := [(3, _), (4, _), (2, _), (1, _), (0, _)]) rfl rfl (Nat.le_of_ble_eq_true rfl) rfl (nI_1 v) rfl ?_
    refine x_goto (tgt := 11) rfl rfl ?_
    refine x_lvp [0, 2, 3, 4] rfl ?_
    exact h9 f1 M1 hM1 g1 (hs.trans k1 (Nat.le_refl 0)) (hF.trans hF1)
theorem r_change (hM : x_Mdl z f M) (hA : r_is M A) (ho : a_ok A) (h : r_ends z f post (A, q_chg (q_wI 2) (a_g A))) : Y E 14 mX6_change [.ref 59] z f 0 0 post := by
  refine Y.intro gX6_change (lv := [(0, .ref 59)]) rfl (Nat.le_of_ble_eq_true rfl) ?_
  obtain ⟨b1, b2, b3, b4, b5, b6, b7, b8, b9⟩ := id hA
  refine x_aload_n (pc' := 1) rfl rfl rfl ?_
  refine x_iconst (pc' := 2) rfl rfl iconst_2 ?_
  refine x_cV1i (d := 10) (pc' := 5) rfl rfl sX6_183 gX6_worthOf (hM.1) ⟨Nat.le_of_ble_eq_true rfl, Nat.le_of_ble_eq_true rfl⟩ (Nat.le_of_ble_eq_true rfl) ⟨Nat.le_of_ble_eq_true rfl, Nat.le_of_ble_eq_true rfl⟩ ?_
  refine m_worthOf (n := 2) (C := 99) (by decide) (by decide) (by decide) hM b1 ho.1 b3 (fun f1 M1 hM1 g1 s1 hF1 => ⟨_, rfl, ?_⟩)
  refine x_istore_n (pc' := 6) (lv' := [(1, _), (0, _)]) rfl rfl (Nat.le_of_ble_eq_true rfl) rfl ?_
  refine x_bipush (pc' := 8) rfl rfl bipush_m9 ?_
  refine x_istore_n (pc' := 9) (lv' := [(2, _), (1, _), (0, _)]) rfl rfl (Nat.le_of_ble_eq_true rfl) rfl ?_
  refine x_iconst (pc' := 10) rfl rfl iconst_0 ?_
  refine x_istore_n (pc' := 11) (lv' := [(3, _), (2, _), (1, _), (0, _)]) rfl rfl (Nat.le_of_ble_eq_true rfl) rfl ?_
  exact r_chO ho f M hA h (g_n (a_g A)) 0 f1 M1 (by omega) hM1 g1 s1 hF1
theorem r_frT {v w : Int32} {C : Nat} (hM : x_Mdl z f M) (hA : r_is M0 A) (ho : a_ok A) (hm : m_is M g) (hg : g_ok C g) (hly : g_ly (a_g A) g = a_g A) (hfr : m_fr M 7 (a_g A)) (hs : r_sc M0 M) (h : r_ends z f post (A, w)) : X E (x_rm 14 0 0) mX6_fair (x_QM E z 0 0 post) 67 [(2, .int v), (1, .int w), (0, .ref 59)] [] z f 0 0 := by
  refine x_aload_n (pc' := 68) rfl rfl rfl ?_
  refine x_bipush (pc' := 70) rfl rfl bipush_7 ?_
  refine x_cV1v (d := 1) (pc' := 73) rfl rfl sX6_160 gX6_lays (hM.1) ⟨Nat.le_of_ble_eq_true rfl, Nat.le_of_ble_eq_true rfl⟩ (Nat.le_of_ble_eq_true rfl) ⟨Nat.le_of_ble_eq_true rfl, Nat.le_of_ble_eq_true rfl⟩ ?_
  refine m_lays (l := 7) (g := a_g A) (g' := g) (by decide) hM hm hfr ho.1 hg (fun f3 M3 hM3 g3 y1 y2 y3 hF3 => ⟨rfl, ?_⟩)
  rw [hly] at g3
  refine x_iload_n (pc' := 74) rfl rfl rfl ?_
  exact x_ireturn rfl rfl rfl (Nat.le_of_ble_eq_true rfl) (Nat.le_of_ble_eq_true rfl) (h _ _ hM3 (hA.sc (hs.trans (m_ly.sc y1 y2)) g3) hF3)
theorem r_frI {v n : Nat} {w : Int32} (β0 : Nat → Nat) (hn : n ≤ 9) (f0 : x_H) (M0 : x_N) (h3 : M0.1 3 = nI n) (K : ∀ f' : x_H, x_Mdl z f' (M0.1, x_ua M0.2.1 1 (fun i => nI (if i < n then v else β0 i)), M0.2.2) → x_fr (fun q => q < 59) f0 f' → X E (x_rm 14 0 0) mX6_fair (x_QM E z 0 0 post) 46 [(3, .int (nI n)), (2, .int (nI v)), (1, .int w), (0, .ref 59)] [] z f' 0 0) : ∀ (m i : Nat) (f : x_H), i + m = n → x_Mdl z f (M0.1, x_ua M0.2.1 1 (fun j => nI (if j < i then v else β0 j)), M0.2.2) → x_fr (fun q => q < 59) f0 f → X E (x_rm 14 0 0) mX6_fair (x_QM E z 0 0 post) 25 [(3, .int (nI i)), (2, .int (nI v)), (1, .int w), (0, .ref 59)] [] z f 0 0 := by
  intro m
  induction m with
  | zero =>
    intro i f hi hM hF
    have hi2 : i = n := by omega
    subst hi2
    refine x_iload_n (pc' := 26) rfl rfl rfl ?_
    refine x_aload_n (pc' := 27) rfl rfl rfl ?_
    refine x_get (pc' := 30) rfl rfl rfl (hM.1) rfl ?_
    refine x_eqi h3 ?_
    refine x_icmp_ge (tgt := 46) (pc' := 33) rfl rfl rfl (fun _ => ?_) (fun c30 => absurd ((Int32.le_refl _)) c30)
    exact K _ hM hF
  | succ m ih =>
    intro i f hi hM hF
    have hcl : (nI i).toNatClampNeg = i := nI_clamp (by omega)
    refine x_iload_n (pc' := 26) rfl rfl rfl ?_
    refine x_aload_n (pc' := 27) rfl rfl rfl ?_
    refine x_get (pc' := 30) rfl rfl rfl (hM.1) rfl ?_
    refine x_eqi h3 ?_
    refine x_icmp_ge (tgt := 46) (pc' := 33) rfl rfl rfl (fun c30 => absurd c30 ((nI_ge (by omega) (by omega)))) (fun _ => ?_)
    refine x_aload_n (pc' := 34) rfl rfl rfl ?_
    refine x_get (pc' := 37) rfl rfl rfl (hM.1) rfl ?_
    refine x_iload_n (pc' := 38) rfl rfl rfl ?_
    refine x_iload_n (pc' := 39) rfl rfl rfl ?_
    refine x_iastore (pc' := 40) rfl rfl (hM.2.1 1 (by decide)) (vp_in_nI (n := i) (N := 9) (by omega) (by decide)) (fun f1 e1 => ?_)
    have hM1 := hM.arr 1 (by decide) e1
    have hF1 := hF.up e1 (by decide)
    refine x_iinc (pc' := 43) (lv' := [(3, _), (2, _), (1, _), (0, _)]) rfl rfl (Nat.le_of_ble_eq_true rfl) rfl (nI_1 i) rfl ?_
    refine x_goto (tgt := 25) rfl rfl ?_
    refine ih (i + 1) _ (by omega) ?_ hF1
    have e9 : x_ua (x_ua M0.2.1 1 (fun j => nI (if j < i then v else β0 j))) 1 (upd (fun j => nI (if j < i then v else β0 j)) (nI i).toNatClampNeg (nI v)) = x_ua M0.2.1 1 (fun j => nI (if j < i + 1 then v else β0 j)) := by
      rw [x_ua_ua, hcl]
      congr 1
      funext j
      unfold upd
      by_cases d : j = i
      · rw [if_pos d, if_pos (by omega)]
      · rw [if_neg d]
        show nI (if j < i then v else β0 j) = nI (if j < i + 1 then v else β0 j)
        by_cases d2 : j < i
        · rw [if_pos d2, if_pos (by omega)]
        · rw [if_neg d2, if_neg (by omega)]
    rw [← e9]
    exact hM1
theorem r_frO (ho : a_ok A) (f0 : x_H) (M0 : x_N) (hA : r_is M0 A) (r : Int32) (h : r_ends z f0 post (A, r)) : ∀ (m v : Nat) (β0 : Nat → Nat) (f : x_H) (M : x_N), v + m = 10 → 1 ≤ v → q_fr (fun v => q_wI 2 (g_fl (a_g A) v)) m v = r → x_Mdl z f M → m_is M (g_κ (a_g A), β0, (a_g A).2.2) → (∀ i, g_n (a_g A) ≤ i → β0 i = g_β (a_g A) i) → (∀ i, β0 i ≤ 99) → m_sk M0 M 0 → m_fr M 7 (a_g A) → x_fr (fun q => q < 59) f0 f → X E (x_rm 14 0 0) mX6_fair (x_QM E z 0 0 post) 11 [(2, .int (nI v)), (1, .int (-9)), (0, .ref 59)] [] z f 0 0 := by
  have hn9 := ho.1.1
  intro m
  induction m with
  | zero =>
    intro v β0 f M hv h1 hr hM hm hβ hβ9 hs hfr hF
    have hv2 : v = 10 := by omega
    subst hv2
    have hr2 : -9 = r := hr
    subst hr2
    have hok : g_ok 99 (g_κ (a_g A), β0, (a_g A).2.2) := ⟨ho.1.1, ho.1.2.1, ho.1.2.2.1, ho.1.2.2.2.1, ho.1.2.2.2.2.1, hβ9, ho.1.2.2.2.2.2.2.1, fun i hi => ⟨(ho.1.2.2.2.2.2.2.2.1 i hi).1, (hβ i (by omega)).trans (ho.1.2.2.2.2.2.2.2.1 i hi).2⟩, ho.1.2.2.2.2.2.2.2.2⟩
    refine x_iload_n (pc' := 12) rfl rfl rfl ?_
    refine x_bipush (pc' := 14) rfl rfl bipush_10 ?_
    refine x_icmp_ge (tgt := 67) (pc' := 17) rfl rfl rfl (fun _ => ?_) (fun c14 => absurd ((by decide : (10 : Int32) ≤ nI 10)) c14)
    exact r_frT hM hA ho hm hok rfl hfr hs.sc (fun f1 M1 hM1 hA1 hF1 => h f1 M1 hM1 hA1 (hF.trans hF1))
  | succ m ih =>
    intro v β0 f M hv h1 hr hM hm hβ hβ9 hs hfr hF
    replace hr : (if q_wI 2 (g_fl (a_g A) v) = 0 then nI v else q_fr (fun v => q_wI 2 (g_fl (a_g A) v)) m (v + 1)) = r := hr
    have hfl := g_fl_ok (v := v) ho.1 (by omega)
    have h18 : M.1 18 = 0 := (hs.2.2.1 18 (by decide) (by decide) (by decide) (by decide) (by decide) (by decide)).trans hA.2.2.1
    refine x_iload_n (pc' := 12) rfl rfl rfl ?_
    refine x_bipush (pc' := 14) rfl rfl bipush_10 ?_
    refine x_icmp_ge (tgt := 67) (pc' := 17) rfl rfl rfl (fun c14 => absurd c14 ((nI_ge (a := v) (b := 10) (by omega) (by decide)))) (fun _ => ?_)
    refine x_iload_n (pc' := 18) rfl rfl rfl ?_
    refine x_bipush (pc' := 20) rfl rfl bipush_m9 ?_
    refine x_icmp_ne (tgt := 67) (pc' := 23) rfl rfl rfl (fun c20 => absurd (rfl) c20) (fun _ => ?_)
    refine x_iconst (pc' := 24) rfl rfl iconst_0 ?_
    refine x_istore_n (pc' := 25) (lv' := [(3, _), (2, _), (1, _), (0, _)]) rfl rfl (Nat.le_of_ble_eq_true rfl) rfl ?_
    refine r_frI β0 hn9 f M hm.2.2.2.1 (fun f1 hM1 hF1 => ?_) (g_n (a_g A)) 0 f (by omega) ?_ x_fr.rf
    · have e9 : (fun i => nI (if i < g_n (a_g A) then v else β0 i)) = fun i => nI (g_β (g_fl (a_g A) v) i) := by
        funext i
        show nI (if i < g_n (a_g A) then v else β0 i) = nI (if i < g_n (a_g A) then v else g_β (a_g A) i)
        by_cases d : i < g_n (a_g A)
        · rw [if_pos d, if_pos d]
        · rw [if_neg d, if_neg d, hβ i (by omega)]
      rw [e9] at hM1
      have g1 : m_is (M.1, x_ua M.2.1 1 (fun i => nI (g_β (g_fl (a_g A) v) i)), M.2.2) (g_fl (a_g A) v) := ⟨hm.1, rfl, hm.2.2.1, hm.2.2.2.1, hm.2.2.2.2.1, hm.2.2.2.2.2.1, hm.2.2.2.2.2.2⟩
      have s1 : m_sk M0 (M.1, x_ua M.2.1 1 (fun i => nI (g_β (g_fl (a_g A) v) i)), M.2.2) 0 := ⟨fun j a b c => (if_neg a).trans (hs.1 j a b c), hs.2.1, hs.2.2.1, hs.2.2.2⟩
      have fr1 : m_fr (M.1, x_ua M.2.1 1 (fun i => nI (g_β (g_fl (a_g A) v) i)), M.2.2) 7 (a_g A) := hfr
      refine x_aload_n (pc' := 47) rfl rfl rfl ?_
      refine x_iconst (pc' := 48) rfl rfl iconst_2 ?_
      refine x_cV1i (d := 10) (pc' := 51) rfl rfl sX6_183 gX6_worthOf (hM1.1) ⟨Nat.le_of_ble_eq_true rfl, Nat.le_of_ble_eq_true rfl⟩ (Nat.le_of_ble_eq_true rfl) ⟨Nat.le_of_ble_eq_true rfl, Nat.le_of_ble_eq_true rfl⟩ ?_
      refine m_worthOf (n := 2) (C := 99) (by decide) (by decide) (by decide) hM1 g1 hfl h18 (fun f2 M2 hM2 g2 k2 hF2 => ⟨_, rfl, ?_⟩)
      have s2 : m_sk M0 M2 0 := s1.trans k2 (Nat.le_refl 0)
      have fr2 : m_fr M2 7 (a_g A) := k2.fr (by omega) fr1
      have hF12 := (hF.trans hF1).trans hF2
      by_cases d : q_wI 2 (g_fl (a_g A) v) = 0
      · rw [if_pos d] at hr
        subst hr
        refine x_if_ne (tgt := 58) (pc' := 54) rfl rfl rfl (fun q => absurd d q) (fun _ => ?_)
        refine x_iload_n (pc' := 55) rfl rfl rfl ?_
        refine x_goto (tgt := 60) rfl rfl ?_
        refine x_istore_n (pc' := 61) (lv' := [(1, _), (3, _), (2, _), (0, _)]) rfl rfl (Nat.le_of_ble_eq_true rfl) rfl ?_
        refine x_iinc (pc' := 64) (lv' := [(2, _), (1, _), (3, _), (0, _)]) rfl rfl (Nat.le_of_ble_eq_true rfl) rfl (nI_1 v) rfl ?_
        refine x_goto (tgt := 11) rfl rfl ?_
        by_cases d9 : v = 9
        · subst d9
          refine x_iload_n (pc' := 12) rfl rfl rfl ?_
          refine x_bipush (pc' := 14) rfl rfl bipush_10 ?_
          refine x_icmp_ge (tgt := 67) (pc' := 17) rfl rfl rfl (fun _ => ?_) (fun c14 => absurd ((by decide : (10 : Int32) ≤ nI (9 + 1))) c14)
          refine x_lvp [0, 1, 3] rfl ?_
          exact r_frT hM2 hA ho g2 hfl rfl fr2 s2.sc (fun f3 M3 hM3 hA3 hF3 => h f3 M3 hM3 hA3 (hF12.trans hF3))
        · refine x_iload_n (pc' := 12) rfl rfl rfl ?_
          refine x_bipush (pc' := 14) rfl rfl bipush_10 ?_
          refine x_icmp_ge (tgt := 67) (pc' := 17) rfl rfl rfl (fun c14 => absurd c14 ((nI_ge (a := v + 1) (b := 10) (by omega) (by decide)))) (fun _ => ?_)
          refine x_iload_n (pc' := 18) rfl rfl rfl ?_
          refine x_bipush (pc' := 20) rfl rfl bipush_m9 ?_
          refine x_icmp_ne (tgt := 67) (pc' := 23) rfl rfl rfl (fun _ => ?_) (fun c20 => absurd c20 ((fun q => by have h2 := nI_pos (n := v) (by omega); rw [q] at h2; exact h2 (by decide))))
          refine x_lvp [0, 1, 3] rfl ?_
          exact r_frT hM2 hA ho g2 hfl rfl fr2 s2.sc (fun f3 M3 hM3 hA3 hF3 => h f3 M3 hM3 hA3 (hF12.trans hF3))
      · rw [if_neg d] at hr
        refine x_if_ne (tgt := 58) (pc' := 54) rfl rfl rfl (fun _ => ?_) (fun q => absurd q d)
        refine x_bipush (pc' := 60) rfl rfl bipush_m9 ?_
        refine x_istore_n (pc' := 61) (lv' := [(1, _), (3, _), (2, _), (0, _)]) rfl rfl (Nat.le_of_ble_eq_true rfl) rfl ?_
        refine x_iinc (pc' := 64) (lv' := [(2, _), (1, _), (3, _), (0, _)]) rfl rfl (Nat.le_of_ble_eq_true rfl) rfl (nI_1 v) rfl ?_
        refine x_goto (tgt := 11) rfl rfl ?_
        refine x_lvp [0, 1, 3] rfl ?_
        exact ih (v + 1) (g_β (g_fl (a_g A) v)) f2 M2 (by omega) (by omega) hr hM2 g2 (fun i hi => if_neg (by omega)) (fun i => hfl.2.2.2.2.2.1 i) s2 fr2 hF12
    · have e9 : (fun j => nI (if j < 0 then v else β0 j)) = M.2.1 1 := by
        rw [hm.2.1]
        funext j
        rw [if_neg (Nat.not_lt_zero j)]
      rw [e9, x_ua_id]
      exact hM
theorem r_fair (hM : x_Mdl z f M) (hA : r_is M A) (ho : a_ok A) (h : r_ends z f post (A, q_fr (fun v => q_wI 2 (g_fl (a_g A) v)) 9 1)) : Y E 14 mX6_fair [.ref 59] z f 0 0 post := by
  refine Y.intro gX6_fair (lv := [(0, .ref 59)]) rfl (Nat.le_of_ble_eq_true rfl) ?_
  refine x_aload_n (pc' := 1) rfl rfl rfl ?_
  refine x_bipush (pc' := 3) rfl rfl bipush_7 ?_
  refine x_cV1v (d := 1) (pc' := 6) rfl rfl sX6_154 gX6_keeps (hM.1) ⟨Nat.le_of_ble_eq_true rfl, Nat.le_of_ble_eq_true rfl⟩ (Nat.le_of_ble_eq_true rfl) ⟨Nat.le_of_ble_eq_true rfl, Nat.le_of_ble_eq_true rfl⟩ ?_
  refine m_keeps (l := 7) (by decide) hM hA.1 (fun f1 M1 hM1 g1 k1 fr1 hF1 => ⟨rfl, ?_⟩)
  refine x_bipush (pc' := 8) rfl rfl bipush_m9 ?_
  refine x_istore_n (pc' := 9) (lv' := [(1, _), (0, _)]) rfl rfl (Nat.le_of_ble_eq_true rfl) rfl ?_
  refine x_iconst (pc' := 10) rfl rfl iconst_1 ?_
  refine x_istore_n (pc' := 11) (lv' := [(2, _), (1, _), (0, _)]) rfl rfl (Nat.le_of_ble_eq_true rfl) rfl ?_
  exact r_frO ho f M1 (hA.sc k1.sc g1) _ h 9 1 (g_β (a_g A)) f1 M1 (by decide) (by decide) rfl hM1 g1 (fun _ _ => rfl) ho.1.2.2.2.2.2.1 m_sk.rf fr1 hF1
-- a bowl emptied
theorem m_emL {w k l : Nat} (hw : w < 9) (hl : l + k + 1 ≤ 5) (hg : g_ok 99 g)
    (IH : ∀ (g : q_G) (f : x_H) (M : x_N) (post : Option Value → x_H → Prop), x_Mdl z f M → m_is M g → g_ok 99 g → M.1 18 = 0 → (∀ (f' : x_H) (M' : x_N), x_Mdl z f' M' → m_is M' g → m_sk M M' (l + 1) → M'.1 22 = (if q_em w k g = true then q_ef w k g (M.1 22) else M.1 22) → x_fr (fun q => q < 59) f f' → post (some (.int (if q_em w k g = true then 1 else 0))) f') → Y E (k + 5) mX6_isEmptied [.ref 59, .int (nI w), .int (nI k), .int (nI (l + 1))] z f 0 0 post)
    (f0 : x_H) (M0 : x_N) (h18 : M0.1 18 = 0) (R : Option Nat)
    (h1 : ∀ v, R = some v → ∀ (f' : x_H) (M' : x_N), x_Mdl z f' M' → m_is M' g → m_sk M0 M' l → M'.1 22 = nI v → x_fr (fun q => q < 59) f0 f' → post (some (.int 1)) f')
    (h0 : R = none → ∀ (f' : x_H) (M' : x_N), x_Mdl z f' M' → m_is M' g → m_sk M0 M' l → M'.1 22 = M0.1 22 → x_fr (fun q => q < 59) f0 f' → post (some (.int 0)) f') :
    ∀ (m b : Nat) (f : x_H) (M : x_N), b + m = g_n g → q_fo (q_ec w k g) m b = R → x_Mdl z f M → m_is M g → m_sk M0 M l → M.1 22 = M0.1 22 → m_fr M l g → x_fr (fun q => q < 59) f0 f → X E (x_rm (k + 6) 0 0) mX6_isEmptied (x_QM E z 0 0 post) 25 [(4, .int (nI b)), (0, .ref 59), (1, .int (nI w)), (2, .int (nI (k + 1))), (3, .int (nI l))] [] z f 0 0 := by
  have hn9 := hg.1
  intro m
  induction m with
  | zero =>
    intro b f M hb hR hM hm hs h22 hfr hF
    have hb2 : b = g_n g := by omega
    subst hb2
    have hR2 : R = none := hR.symm
    refine x_iload (pc' := 27) rfl rfl rfl ?_
    refine x_aload_n (pc' := 28) rfl rfl rfl ?_
    refine x_get (pc' := 31) rfl rfl rfl (hM.1) rfl ?_
    refine x_eqi hm.2.2.2.1 ?_
    refine x_icmp_ge (tgt := 86) (pc' := 34) rfl rfl rfl (fun _ => ?_) (fun c31 => absurd ((Int32.le_refl _)) c31)
    refine x_iconst (pc' := 87) rfl rfl iconst_0 ?_
    exact x_ireturn rfl rfl rfl (Nat.le_of_ble_eq_true rfl) (Nat.le_of_ble_eq_true rfl) (h0 hR2 _ _ hM hm hs h22 hF)
  | succ m ih =>
    intro b f M hb hR hM hm hs h22 hfr hF
    replace hR : (if (decide (g_can g b) && q_em w k (g_mv g b)) = true then some b else q_fo (q_ec w k g) m (b + 1)) = R := hR
    have h18' : M.1 18 = 0 := (hs.2.2.1 18 (by decide) (by decide) (by decide) (by decide) (by decide) (by decide)).trans h18
    refine x_iload (pc' := 27) rfl rfl rfl ?_
    refine x_aload_n (pc' := 28) rfl rfl rfl ?_
    refine x_get (pc' := 31) rfl rfl rfl (hM.1) rfl ?_
    refine x_eqi hm.2.2.2.1 ?_
    refine x_icmp_ge (tgt := 86) (pc' := 34) rfl rfl rfl (fun c31 => absurd c31 ((nI_ge (by omega) (by omega)))) (fun _ => ?_)
    refine x_aload_n (pc' := 35) rfl rfl rfl ?_
    refine x_iload (pc' := 37) rfl rfl rfl ?_
    refine x_cV1i (d := 3) (pc' := 40) rfl rfl sX6_135 gX6_canMove (hM.1) (x_room (by omega) (Nat.le_of_ble_eq_true rfl)) (Nat.le_of_ble_eq_true rfl) ⟨Nat.le_of_ble_eq_true rfl, Nat.le_of_ble_eq_true rfl⟩ ?_
    refine m_can1 hM hm hg (by decide) (by omega) (fun d2 => ⟨_, rfl, ?_⟩) (fun d2 => ⟨_, rfl, ?_⟩)
    · rw [decide_eq_true d2, Bool.true_and] at hR
      refine x_if_eq (tgt := 80) (pc' := 43) rfl rfl rfl (fun c40 => absurd c40 ((by decide))) (fun _ => ?_)
      refine x_aload_n (pc' := 44) rfl rfl rfl ?_
      refine x_iload (pc' := 46) rfl rfl rfl ?_
      refine x_cV1v (d := 4) (pc' := 49) rfl rfl sX6_141 gX6_moves (hM.1) (x_room (by omega) (Nat.le_of_ble_eq_true rfl)) (Nat.le_of_ble_eq_true rfl) ⟨Nat.le_of_ble_eq_true rfl, Nat.le_of_ble_eq_true rfl⟩ ?_
      refine m_mv hM hm hg (by decide) d2 h18' (fun f1 M1 hM1 g1 k1 e14 e15 e16 e17 hF1 => ⟨rfl, ?_⟩)
      have ok1 := g_mv_ok hg (by decide) (by decide) d2.2.1
      have h181 : M1.1 18 = 0 := k1.no18.trans h18'
      refine x_aload_n (pc' := 50) rfl rfl rfl ?_
      refine x_iload_n (pc' := 51) rfl rfl rfl ?_
      refine x_iload_n (pc' := 52) rfl rfl rfl ?_
      refine x_iconst (pc' := 53) rfl rfl iconst_1 ?_
      refine x_isub (pc' := 54) rfl rfl ?_
      refine x_eqi (nI_pred k) ?_
      refine x_iload_n (pc' := 55) rfl rfl rfl ?_
      refine x_iconst (pc' := 56) rfl rfl iconst_1 ?_
      refine x_iadd (pc' := 57) rfl rfl ?_
      refine x_eqi (nI_1 l) ?_
      refine x_cV3i (d := (k + 5)) (pc' := 60) rfl rfl sX6_196 gX6_isEmptied (hM1.1) (x_room (by omega) (Nat.le_of_ble_eq_true rfl)) (Nat.le_of_ble_eq_true rfl) ⟨Nat.le_of_ble_eq_true rfl, Nat.le_of_ble_eq_true rfl⟩ ?_
      refine IH (g_mv g b) f1 M1 _ hM1 g1 ok1 h181 (fun f2 M2 hM2 g2 s2 e22 hF2 => ⟨_, rfl, ?_⟩)
      have fr2 : m_fr M2 l g := s2.fr (by omega) (hfr.eq (k1.1 6 (by decide) (by decide)))
      refine x_istore (pc' := 62) (lv' := [(5, _), (4, _), (0, _), (1, _), (2, _), (3, _)]) rfl rfl (Nat.le_of_ble_eq_true rfl) rfl ?_
      refine x_aload_n (pc' := 63) rfl rfl rfl ?_
      refine x_iload_n (pc' := 64) rfl rfl rfl ?_
      refine x_cV1v (d := 1) (pc' := 67) rfl rfl sX6_160 gX6_lays (hM2.1) (x_room (by omega) (Nat.le_of_ble_eq_true rfl)) (Nat.le_of_ble_eq_true rfl) ⟨Nat.le_of_ble_eq_true rfl, Nat.le_of_ble_eq_true rfl⟩ ?_
      refine m_lays (l := l) (g := g) (g' := g_mv g b) (by omega) hM2 g2 fr2 hg ok1 (fun f3 M3 hM3 g3 y1 y2 y3 hF3 => ⟨rfl, ?_⟩)
      have hs3 : m_sk M0 M3 l := ((hs.trans (k1.sk l) (Nat.le_refl l)).trans s2 (by omega)).trans ((m_ly.kp y1 y2 y3).sk l) (Nat.le_refl l)
      have hF13 := ((hF.trans hF1).trans hF2).trans hF3
      have hfr3 : m_fr M3 l g := fr2.eq (y2 6 (by decide) (by decide))
      have e221 : M1.1 22 = M.1 22 := k1.2.2 22 (by decide) (by decide) (by decide) (by decide) (by decide)
      refine x_iload (pc' := 69) rfl rfl rfl ?_
      by_cases d3 : q_em w k (g_mv g b) = true
      · rw [if_pos d3] at hR
        rw [if_pos d3]
        refine x_if_eq (tgt := 80) (pc' := 72) rfl rfl rfl (fun q => absurd q (by decide)) (fun _ => ?_)
        refine x_aload_n (pc' := 73) rfl rfl rfl ?_
        refine x_iload (pc' := 75) rfl rfl rfl ?_
        refine x_put (pc' := 78) rfl rfl rfl (hM3.1) (Nat.le_of_ble_eq_true rfl) rfl rfl rfl rfl (fun f1 e1 => ?_)
        have hM4 := hM3.num 22 e1 (x_mFs22 _ _)
        have hF4 := hF13.trans (r_fr0 e1 (by decide))
        refine x_iconst (pc' := 79) rfl rfl iconst_1 ?_
        exact x_ireturn rfl rfl rfl (Nat.le_of_ble_eq_true rfl) (Nat.le_of_ble_eq_true rfl) (h1 b hR.symm _ _ hM4 ⟨g3.1, g3.2.1, g3.2.2.1, g3.2.2.2.1, g3.2.2.2.2.1, g3.2.2.2.2.2.1, g3.2.2.2.2.2.2⟩ (hs3.trans (m_sk.num l (Or.inr rfl)) (Nat.le_refl l)) rfl hF4)
      · rw [if_neg d3] at hR e22
        rw [if_neg d3]
        refine x_if_eq (tgt := 80) (pc' := 72) rfl rfl rfl (fun _ => ?_) (fun q => absurd rfl q)
        refine x_iinc (pc' := 83) (lv' := [(4, _), (5, _), (0, _), (1, _), (2, _), (3, _)]) rfl rfl (Nat.le_of_ble_eq_true rfl) rfl (nI_1 b) rfl ?_
        refine x_goto (tgt := 25) rfl rfl ?_
        refine x_lvp [0, 2, 3, 4, 5] rfl ?_
        exact ih (b + 1) f3 M3 (by omega) hR hM3 g3 hs3 ((y1 22 (by decide)).trans (e22.trans (e221.trans h22))) hfr3 hF13
    · rw [decide_eq_false d2, Bool.false_and, if_neg (by decide)] at hR
      refine x_if_eq (tgt := 80) (pc' := 43) rfl rfl rfl (fun _ => ?_) (fun c40 => absurd (rfl) c40)
      refine x_iinc (pc' := 83) (lv' := [(4, _), (0, _), (1, _), (2, _), (3, _)]) rfl rfl (Nat.le_of_ble_eq_true rfl) rfl (nI_1 b) rfl ?_
      refine x_goto (tgt := 25) rfl rfl ?_
      exact ih (b + 1) f M (by omega) hR hM hm hs h22 hfr hF
theorem m_em {w : Nat} (hw : w < 9) : ∀ (k l : Nat) (g : q_G) (f : x_H) (M : x_N) (post : Option Value → x_H → Prop), l + k ≤ 5 → x_Mdl z f M → m_is M g → g_ok 99 g → M.1 18 = 0 → (∀ (f' : x_H) (M' : x_N), x_Mdl z f' M' → m_is M' g → m_sk M M' l → M'.1 22 = (if q_em w k g = true then q_ef w k g (M.1 22) else M.1 22) → x_fr (fun q => q < 59) f f' → post (some (.int (if q_em w k g = true then 1 else 0))) f') → Y E (k + 5) mX6_isEmptied [.ref 59, .int (nI w), .int (nI k), .int (nI l)] z f 0 0 post := by
  intro k
  induction k with
  | zero =>
    intro l g f M post hl hM hm hg h18 h
    refine Y.intro gX6_isEmptied (lv := [(0, .ref 59), (1, .int (nI w)), (2, .int (nI 0)), (3, .int (nI l))]) rfl (Nat.le_of_ble_eq_true rfl) ?_
    have e0 : M.2.1 1 (nI w).toNatClampNeg = nI (g_β g w) := by rw [nI_clamp (by omega), hm.2.1]
    have hβ := hg.2.2.2.2.2.1 w
    have eq1 : q_em w 0 g = decide (g_β g w = 0) := rfl
    rw [eq1] at h
    by_cases d : g_β g w = 0
    · rw [decide_eq_true d] at h
      refine x_aload_n (pc' := 1) rfl rfl rfl ?_
      refine x_get (pc' := 4) rfl rfl rfl (hM.1) rfl ?_
      refine x_iload_n (pc' := 5) rfl rfl rfl ?_
      refine x_iaload (pc' := 6) rfl rfl (hM.2.1 1 (by decide)) (vp_in_nI (n := w) (N := 9) (by omega) (by decide)) ?_
      refine x_eqi (e0.trans (congrArg nI d)) ?_
      refine x_if_ne (tgt := 11) (pc' := 9) rfl rfl rfl (fun c6 => absurd (rfl) c6) (fun _ => ?_)
      refine x_iconst (pc' := 10) rfl rfl iconst_1 ?_
      exact x_ireturn rfl rfl rfl (Nat.le_of_ble_eq_true rfl) (Nat.le_of_ble_eq_true rfl) (h _ _ hM hm m_sk.rf rfl x_fr.rf)
    · rw [decide_eq_false d] at h
      refine x_aload_n (pc' := 1) rfl rfl rfl ?_
      refine x_get (pc' := 4) rfl rfl rfl (hM.1) rfl ?_
      refine x_iload_n (pc' := 5) rfl rfl rfl ?_
      refine x_iaload (pc' := 6) rfl rfl (hM.2.1 1 (by decide)) (vp_in_nI (n := w) (N := 9) (by omega) (by decide)) ?_
      refine x_eqi e0 ?_
      refine x_if_ne (tgt := 11) (pc' := 9) rfl rfl rfl (fun _ => ?_) (fun c6 => absurd c6 ((nI_ne0 (by omega) (by omega))))
      refine x_iload_n (pc' := 12) rfl rfl rfl ?_
      refine x_if_ne (tgt := 17) (pc' := 15) rfl rfl rfl (fun c12 => absurd (rfl) c12) (fun _ => ?_)
      refine x_iconst (pc' := 16) rfl rfl iconst_0 ?_
      exact x_ireturn rfl rfl rfl (Nat.le_of_ble_eq_true rfl) (Nat.le_of_ble_eq_true rfl) (h _ _ hM hm m_sk.rf rfl x_fr.rf)
  | succ k IH =>
    intro l g f M post hl hM hm hg h18 h
    refine Y.intro gX6_isEmptied (lv := [(0, .ref 59), (1, .int (nI w)), (2, .int (nI (k + 1))), (3, .int (nI l))]) rfl (Nat.le_of_ble_eq_true rfl) ?_
    have e0 : M.2.1 1 (nI w).toNatClampNeg = nI (g_β g w) := by rw [nI_clamp (by omega), hm.2.1]
    have hβ := hg.2.2.2.2.2.1 w
    have eq1 : q_em w (k + 1) g = (decide (g_β g w = 0) || (q_fo (q_ec w k g) (g_n g) 0).isSome) := rfl
    have eq2 : ∀ fo, q_ef w (k + 1) g fo = if g_β g w = 0 then fo else (match q_fo (q_ec w k g) (g_n g) 0 with | some b => nI b | none => fo) := fun _ => rfl
    rw [eq1, eq2] at h
    by_cases d : g_β g w = 0
    · rw [decide_eq_true d, if_pos d] at h
      refine x_aload_n (pc' := 1) rfl rfl rfl ?_
      refine x_get (pc' := 4) rfl rfl rfl (hM.1) rfl ?_
      refine x_iload_n (pc' := 5) rfl rfl rfl ?_
      refine x_iaload (pc' := 6) rfl rfl (hM.2.1 1 (by decide)) (vp_in_nI (n := w) (N := 9) (by omega) (by decide)) ?_
      refine x_eqi (e0.trans (congrArg nI d)) ?_
      refine x_if_ne (tgt := 11) (pc' := 9) rfl rfl rfl (fun c6 => absurd (rfl) c6) (fun _ => ?_)
      refine x_iconst (pc' := 10) rfl rfl iconst_1 ?_
      exact x_ireturn rfl rfl rfl (Nat.le_of_ble_eq_true rfl) (Nat.le_of_ble_eq_true rfl) (h _ _ hM hm m_sk.rf rfl x_fr.rf)
    · rw [decide_eq_false d, if_neg d] at h
      refine x_aload_n (pc' := 1) rfl rfl rfl ?_
      refine x_get (pc' := 4) rfl rfl rfl (hM.1) rfl ?_
      refine x_iload_n (pc' := 5) rfl rfl rfl ?_
      refine x_iaload (pc' := 6) rfl rfl (hM.2.1 1 (by decide)) (vp_in_nI (n := w) (N := 9) (by omega) (by decide)) ?_
      refine x_eqi e0 ?_
      refine x_if_ne (tgt := 11) (pc' := 9) rfl rfl rfl (fun _ => ?_) (fun c6 => absurd c6 ((nI_ne0 (by omega) (by omega))))
      refine x_iload_n (pc' := 12) rfl rfl rfl ?_
      refine x_if_ne (tgt := 17) (pc' := 15) rfl rfl rfl (fun _ => ?_) (fun c12 => absurd c12 ((nI_ne0 (by omega) (by omega))))
      refine x_aload_n (pc' := 18) rfl rfl rfl ?_
      refine x_iload_n (pc' := 19) rfl rfl rfl ?_
      refine x_cV1v (d := 1) (pc' := 22) rfl rfl sX6_154 gX6_keeps (hM.1) (x_room (by omega) (Nat.le_of_ble_eq_true rfl)) (Nat.le_of_ble_eq_true rfl) ⟨Nat.le_of_ble_eq_true rfl, Nat.le_of_ble_eq_true rfl⟩ ?_
      refine m_keeps (l := l) (by omega) hM hm (fun f1 M1 hM1 g1 k1 fr1 hF1 => ⟨rfl, ?_⟩)
      refine x_iconst (pc' := 23) rfl rfl iconst_0 ?_
      refine x_istore (pc' := 25) (lv' := [(4, _), (0, _), (1, _), (2, _), (3, _)]) rfl rfl (Nat.le_of_ble_eq_true rfl) rfl ?_
      refine m_emL (l := l) hw (by omega) hg (fun g f M post a1 a2 a3 a4 a5 => IH (l + 1) g f M post (by omega) a1 a2 a3 a4 a5) f M h18 (q_fo (q_ec w k g) (g_n g) 0) (fun v e f2 M2 hM2 g2 s2 e22 hF2 => ?_) (fun e f2 M2 hM2 g2 s2 e22 hF2 => ?_) (g_n g) 0 f1 M1 (by omega) rfl hM1 g1 (k1.sk (by omega)) (by rw [k1.1]) fr1 hF1
      · rw [e] at h
        exact h _ _ hM2 g2 s2 e22 hF2
      · rw [e] at h
        exact h _ _ hM2 g2 s2 e22 hF2
def s_teR (A : q_A) (a b : Int32) : q_A × Int32 := if q_in (g_n (a_g A)) a then (if b < 0 ∨ 1 < b then (s_no A 2, -2) else (A, q_te a.toNatClampNeg (a_g A) b 6 0)) else (s_no A 1, -1)
theorem r_teL {w : Nat} {b : Int32} (hw : w < g_n (a_g A)) (ho : a_ok A) (f0 : x_H) (M0 : x_N) (hA : r_is M0 A) (r : Int32) (h : r_ends z f0 post (A, r)) : ∀ (m n : Nat) (f : x_H) (M : x_N), n + m = 6 → q_te w (a_g A) b m n = r → x_Mdl z f M → m_is M (a_g A) → m_sk M0 M 0 → x_fr (fun q => q < 59) f0 f → X E (x_rm 12 0 0) mX6_toEmpty (x_QM E z 0 0 post) 33 [(3, .int (nI n)), (0, .ref 59), (1, .int (nI w)), (2, .int b)] [] z f 0 0 := by
  have hn9 := ho.1.1
  intro m
  induction m with
  | zero =>
    intro n f M hn hr hM hm hs hF
    have hn2 : n = 6 := by omega
    subst hn2
    have hr2 : -9 = r := hr
    subst hr2
    refine x_iload_n (pc' := 34) rfl rfl rfl ?_
    refine x_bipush (pc' := 36) rfl rfl bipush_6 ?_
    refine x_icmp_ge (tgt := 74) (pc' := 39) rfl rfl rfl (fun _ => ?_) (fun c36 => absurd ((by decide : (6 : Int32) ≤ nI 6)) c36)
    refine x_bipush (pc' := 76) rfl rfl bipush_m9 ?_
    exact x_ireturn rfl rfl rfl (Nat.le_of_ble_eq_true rfl) (Nat.le_of_ble_eq_true rfl) (h _ _ hM (hA.sc hs.sc hm) hF)
  | succ m ih =>
    intro n f M hn hr hM hm hs hF
    replace hr : (if q_em w n (a_g A) = true then (if b = 0 then nI n else q_ef w n (a_g A) (-9)) else q_te w (a_g A) b m (n + 1)) = r := hr
    have h18 : M.1 18 = 0 := hs.n18.trans hA.2.2.1
    refine x_iload_n (pc' := 34) rfl rfl rfl ?_
    refine x_bipush (pc' := 36) rfl rfl bipush_6 ?_
    refine x_icmp_ge (tgt := 74) (pc' := 39) rfl rfl rfl (fun c36 => absurd c36 ((nI_ge (a := n) (b := 6) (by omega) (by decide)))) (fun _ => ?_)
    refine x_aload_n (pc' := 40) rfl rfl rfl ?_
    refine x_bipush (pc' := 42) rfl rfl bipush_m9 ?_
    refine x_put (pc' := 45) rfl rfl rfl (hM.1) (Nat.le_of_ble_eq_true rfl) rfl rfl rfl rfl (fun f1 e1 => ?_)
    have hM1 := hM.num 22 e1 (x_mFs22 _ _)
    have hF1 := hF.trans (r_fr0 e1 (by decide))
    have g1 : m_is (upd M.1 22 (-9), M.2.1, M.2.2) (a_g A) := ⟨hm.1, hm.2.1, hm.2.2.1, hm.2.2.2.1, hm.2.2.2.2.1, hm.2.2.2.2.2.1, hm.2.2.2.2.2.2⟩
    refine x_aload_n (pc' := 46) rfl rfl rfl ?_
    refine x_iload_n (pc' := 47) rfl rfl rfl ?_
    refine x_iload_n (pc' := 48) rfl rfl rfl ?_
    refine x_iconst (pc' := 49) rfl rfl iconst_0 ?_
    refine x_cV3i (d := (n + 5)) (pc' := 52) rfl rfl sX6_196 gX6_isEmptied (hM1.1) (x_room (by omega) (Nat.le_of_ble_eq_true rfl)) (Nat.le_of_ble_eq_true rfl) ⟨Nat.le_of_ble_eq_true rfl, Nat.le_of_ble_eq_true rfl⟩ ?_
    refine m_em (w := w) (by omega) n 0 (a_g A) _ _ _ (by omega) hM1 g1 ho.1 h18 (fun f2 M2 hM2 g2 s2 e22 hF2 => ⟨_, rfl, ?_⟩)
    have hs2 : m_sk M0 M2 0 := (hs.trans (m_sk.num 0 (Or.inr rfl)) (Nat.le_refl 0)).trans s2 (Nat.le_refl 0)
    have hF12 := hF1.trans hF2
    by_cases d : q_em w n (a_g A) = true
    · rw [if_pos d] at hr e22
      rw [if_pos d]
      refine x_if_eq (tgt := 68) (pc' := 55) rfl rfl rfl (fun q => absurd q (by decide)) (fun _ => ?_)
      refine x_iload_n (pc' := 56) rfl rfl rfl ?_
      refine x_if_ne (tgt := 63) (pc' := 59) rfl rfl rfl (fun c56 => ?_) (fun c56 => ?_)
      · rw [if_neg c56] at hr
        refine x_aload_n (pc' := 64) rfl rfl rfl ?_
        refine x_get (pc' := 67) rfl rfl rfl (hM2.1) rfl ?_
        refine x_eqi (show M2.1 22 = r from e22.trans hr) ?_
        exact x_ireturn rfl rfl rfl (Nat.le_of_ble_eq_true rfl) (Nat.le_of_ble_eq_true rfl) (h _ _ hM2 (hA.sc hs2.sc g2) hF12)
      · rw [if_pos c56] at hr
        refine x_iload_n (pc' := 60) rfl rfl rfl ?_
        refine x_goto (tgt := 67) rfl rfl ?_
        exact x_ireturn rfl rfl rfl (Nat.le_of_ble_eq_true rfl) (Nat.le_of_ble_eq_true rfl) ((by rw [hr]; exact h _ _ hM2 (hA.sc hs2.sc g2) hF12))
    · rw [if_neg d] at hr
      rw [if_neg d]
      refine x_if_eq (tgt := 68) (pc' := 55) rfl rfl rfl (fun _ => ?_) (fun q => absurd rfl q)
      refine x_iinc (pc' := 71) (lv' := [(3, _), (0, _), (1, _), (2, _)]) rfl rfl (Nat.le_of_ble_eq_true rfl) rfl (nI_1 n) rfl ?_
      refine x_goto (tgt := 33) rfl rfl ?_
      exact ih (n + 1) f2 M2 (by omega) hr hM2 g2 hs2 hF12
theorem r_toEmpty (hM : x_Mdl z f M) (hA : r_is M A) (ho : a_ok A) (h : r_ends z f post (s_teR A a b)) : Y E 12 mX6_toEmpty [.ref 59, .int a, .int b] z f 0 0 post := by
  refine Y.intro gX6_toEmpty (lv := [(0, .ref 59), (1, .int a), (2, .int b)]) rfl (Nat.le_of_ble_eq_true rfl) ?_
  obtain ⟨b1, b2, b3, b4, b5, b6, b7, b8, b9⟩ := id hA
  refine x_aload_n (pc' := 1) rfl rfl rfl ?_
  refine x_iload_n (pc' := 2) rfl rfl rfl ?_
  refine x_cV1i (d := 2) (pc' := 5) rfl rfl sX6_103 gX6_isBowl (hM.1) ⟨Nat.le_of_ble_eq_true rfl, Nat.le_of_ble_eq_true rfl⟩ (Nat.le_of_ble_eq_true rfl) ⟨Nat.le_of_ble_eq_true rfl, Nat.le_of_ble_eq_true rfl⟩ ?_
  refine r_bowl hM hA ho (fun d1 => ⟨_, rfl, ?_⟩) (fun d1 => ⟨_, rfl, ?_⟩)
  · rw [show s_teR A a b = _ from if_pos d1] at h
    refine x_if_ne (tgt := 14) (pc' := 8) rfl rfl rfl (fun _ => ?_) (fun c5 => absurd c5 ((by decide)))
    refine x_iload_n (pc' := 15) rfl rfl rfl ?_
    refine x_i2l (pc' := 16) rfl rfl ?_
    refine x_lconst (pc' := 17) rfl rfl lconst_0 ?_
    refine x_lconst (pc' := 18) rfl rfl lconst_1 ?_
    refine x_cS3i (d := 1) (pc' := 21) rfl rfl sX6_63 gX6_in ⟨Nat.le_of_ble_eq_true rfl, Nat.le_of_ble_eq_true rfl⟩ (Nat.le_of_ble_eq_true rfl) ⟨Nat.le_of_ble_eq_true rfl, Nat.le_of_ble_eq_true rfl⟩ ?_
    refine r_in (a := b) (lo := 0) (hi := 1) (by decide) (by decide) (fun d2 => ⟨_, rfl, ?_⟩) (fun d2 => ⟨_, rfl, ?_⟩)
    · rw [if_neg d2] at h
      obtain ⟨k, hk, hk2, rfl, hcl⟩ := q_in_k d1
      rw [hcl] at h
      refine x_if_ne (tgt := 31) (pc' := 24) rfl rfl rfl (fun _ => ?_) (fun c21 => absurd c21 ((by decide)))
      refine x_iconst (pc' := 32) rfl rfl iconst_0 ?_
      refine x_istore_n (pc' := 33) (lv' := [(3, _), (0, _), (1, _), (2, _)]) rfl rfl (Nat.le_of_ble_eq_true rfl) rfl ?_
      exact r_teL hk ho f M hA _ h 6 0 f M (by decide) rfl hM b1 m_sk.rf x_fr.rf
    · rw [if_pos d2] at h
      refine x_if_ne (tgt := 31) (pc' := 24) rfl rfl rfl (fun c21 => absurd (rfl) c21) (fun _ => ?_)
      refine x_aload_n (pc' := 25) rfl rfl rfl ?_
      refine x_bipush (pc' := 27) rfl rfl bipush_m2 ?_
      refine x_cV1i (d := 1) (pc' := 30) rfl rfl sX6_110 gX6_refuse (hM.1) ⟨Nat.le_of_ble_eq_true rfl, Nat.le_of_ble_eq_true rfl⟩ (Nat.le_of_ble_eq_true rfl) ⟨Nat.le_of_ble_eq_true rfl, Nat.le_of_ble_eq_true rfl⟩ ?_
      refine r_refuse (k := 1) (by decide) (by decide) hM hA (fun f1 M1 hM1 hA1 hF1 => ⟨_, rfl, ?_⟩)
      exact x_ireturn rfl rfl rfl (Nat.le_of_ble_eq_true rfl) (Nat.le_of_ble_eq_true rfl) (h _ _ hM1 hA1 hF1)
  · rw [show s_teR A a b = _ from if_neg d1] at h
    refine x_if_ne (tgt := 14) (pc' := 8) rfl rfl rfl (fun c5 => absurd (rfl) c5) (fun _ => ?_)
    refine x_aload_n (pc' := 9) rfl rfl rfl ?_
    refine x_iconst (pc' := 10) rfl rfl iconst_m1 ?_
    refine x_cV1i (d := 1) (pc' := 13) rfl rfl sX6_110 gX6_refuse (hM.1) ⟨Nat.le_of_ble_eq_true rfl, Nat.le_of_ble_eq_true rfl⟩ (Nat.le_of_ble_eq_true rfl) ⟨Nat.le_of_ble_eq_true rfl, Nat.le_of_ble_eq_true rfl⟩ ?_
    refine r_refuse (k := 0) (by decide) (by decide) hM hA (fun f1 M1 hM1 hA1 hF1 => ⟨_, rfl, ?_⟩)
    exact x_ireturn rfl rfl rfl (Nat.le_of_ble_eq_true rfl) (Nat.le_of_ble_eq_true rfl) (h _ _ hM1 hA1 hF1)
end PR
end
section
-- == 68.waysR
/-! The reference counts ways. -/
def q_su (w : Nat → Int64) (k lo : Nat) : Nat → Int64
  | 0 => 0
  | j + 1 => q_su w k lo j + w (k - (lo + j))
def q_w1 (w : Nat → Int64) (lo hi k : Nat) : Int64 := q_su w k lo (min hi k + 1 - lo)
def q_fw (g : q_G) (b : Nat) : Nat := if g_κ g b = 2 then 1000 else q_from (g_κ g b) (g_f g)
def q_lo (g : q_G) (rw : Nat → Nat) (b : Nat) : Nat := if rw b = 1 then q_fw g b else 0
def q_hi (g : q_G) (rw : Nat → Nat) (b : Nat) : Nat := if rw b = 0 ∧ q_fw g b ≤ 20 then q_fw g b - 1 else 20
def q_wy (g : q_G) (rw : Nat → Nat) : Nat → Nat → Int64
  | 0, k => if k = 0 then 1 else 0
  | b + 1, k => q_w1 (q_wy g rw b) (q_lo g rw b) (q_hi g rw b) k
def q_cap (x : Int64) : Int32 := if 1000000000 < x then 1000000000 else x.toInt32
theorem q_fw_in {C : Nat} {g : q_G} {b : Nat} (h : g_ok C g) : 1 ≤ q_fw g b ∧ q_fw g b ≤ 1000 := by
  have h1 := h.2.1.1
  have h2 := h.2.1.2
  unfold q_fw q_from
  repeat' split
  all_goals omega
theorem q_hi_20 {C : Nat} {g : q_G} {rw : Nat → Nat} {b : Nat} (h : g_ok C g) : q_hi g rw b ≤ 20 := by
  unfold q_hi
  split <;> omega
theorem q_lo_in {C : Nat} {g : q_G} {rw : Nat → Nat} {b : Nat} (h : g_ok C g) : q_lo g rw b ≤ 1000 := by
  have := (q_fw_in (b := b) h).2
  unfold q_lo
  split <;> omega
def q_cpL (k : Nat) (n o : Nat → Int64) : Nat → Int64 := fun j => if j < k then n j else o j
theorem q_cpL_0 (n o : Nat → Int64) : q_cpL 0 n o = o := by
  funext j
  exact if_neg (Nat.not_lt_zero j)
theorem q_cpL_s (k : Nat) (n o : Nat → Int64) : vp_updL (q_cpL k n o) k (n k) = q_cpL (k + 1) n o := by
  funext j
  unfold vp_updL q_cpL
  by_cases h : j = k
  · rw [if_pos h, if_pos (by omega), h]
  · rw [if_neg h]
    by_cases h2 : j < k
    · rw [if_pos h2, if_pos (by omega)]
    · rw [if_neg h2, if_neg (by omega)]
theorem x_ul_ul (X : Nat → Nat → Int64) (j : Nat) (g h : Nat → Int64) : x_ul (x_ul X j g) j h = x_ul X j h := by
  funext i
  unfold x_ul
  split <;> rfl
theorem x_ul_id (X : Nat → Nat → Int64) (j : Nat) : x_ul X j (X j) = X := by
  funext i
  unfold x_ul
  split
  · rename_i h
    rw [h]
  · rfl
theorem u_uu (F : Nat → Int32) (b : Nat) (u v : Int32) : upd (upd F b u) b v = upd F b v := by
  funext i
  unfold upd
  split <;> rfl
theorem u_id {F : Nat → Int32} {b : Nat} {v : Int32} (h : F b = v) : upd F b v = F := by
  funext i
  unfold upd
  split
  · rename_i e
    rw [e, h]
  · rfl
abbrev q_isR (A : q_A) : Prop := a_rc A = g_n (a_g A) ∧ ∀ i, i < a_rc A → a_rf A i ≤ 2
section WR
variable {E : x_E} {z : Nat} {f : x_H} {M M0 : x_N} {A : q_A} {post : Option Value → x_H → Prop} {g : q_G} {C : Nat} {a b : Int32} {w nw : Nat → Int64} {rw' : Nat → Nat}
theorem r_wI0 {n : Int32} (f0 : x_H) (M0 : x_N) (K : ∀ f' : x_H, x_Mdl z f' (M0.1, M0.2.1, x_ul M0.2.2 0 (q_cpL 41 (fun k => if k = 0 then 1 else 0) (M0.2.2 0))) → x_fr (fun q => q < 59) f0 f' → X E (x_rm 3 0 0) mX6_waysOf (x_QM E z 0 0 post) 29 [(2, .int (nI 41)), (0, .ref 59), (1, .int n)] [] z f' 0 0) : ∀ (m i : Nat) (f : x_H), i + m = 41 → x_Mdl z f (M0.1, M0.2.1, x_ul M0.2.2 0 (q_cpL i (fun k => if k = 0 then 1 else 0) (M0.2.2 0))) → x_fr (fun q => q < 59) f0 f → X E (x_rm 3 0 0) mX6_waysOf (x_QM E z 0 0 post) 2 [(2, .int (nI i)), (0, .ref 59), (1, .int n)] [] z f 0 0 := by
  intro m
  induction m with
  | zero =>
    intro i f hi hM hF
    have hi2 : i = 41 := by omega
    subst hi2
    refine x_iload_n (pc' := 3) rfl rfl rfl ?_
    refine x_bipush (pc' := 5) rfl rfl bipush_40 ?_
    refine x_icmp_gt (tgt := 29) (pc' := 8) rfl rfl rfl (fun _ => ?_) (fun c5 => absurd ((by decide : (40 : Int32) < nI 41)) c5)
    exact K _ hM hF
  | succ m ih =>
    intro i f hi hM hF
    have hcl : (nI i).toNatClampNeg = i := nI_clamp (by omega)
    have e9 : x_ul (x_ul M0.2.2 0 (q_cpL i (fun k => if k = 0 then 1 else 0) (M0.2.2 0))) 0 (vp_updL (q_cpL i (fun k => if k = 0 then 1 else 0) (M0.2.2 0)) (nI i).toNatClampNeg (if i = 0 then 1 else 0)) = x_ul M0.2.2 0 (q_cpL (i + 1) (fun k => if k = 0 then 1 else 0) (M0.2.2 0)) := by rw [x_ul_ul, hcl, ← q_cpL_s]
    have h9 := fun f => ih (i + 1) f (by omega)
    rw [← e9] at h9
    refine x_iload_n (pc' := 3) rfl rfl rfl ?_
    refine x_bipush (pc' := 5) rfl rfl bipush_40 ?_
    refine x_icmp_gt (tgt := 29) (pc' := 8) rfl rfl rfl (fun c5 => absurd c5 ((nI_nlt (a := 40) (b := i) (by omega) (by decide)))) (fun _ => ?_)
    refine x_aload_n (pc' := 9) rfl rfl rfl ?_
    refine x_get (pc' := 12) rfl rfl rfl (hM.1) rfl ?_
    refine x_iload_n (pc' := 13) rfl rfl rfl ?_
    refine x_iload_n (pc' := 14) rfl rfl rfl ?_
    by_cases d : i = 0
    · rw [if_pos d] at h9
      refine x_if_ne (tgt := 21) (pc' := 17) rfl rfl rfl (fun q => absurd (by rw [d]; rfl) q) (fun _ => ?_)
      refine x_lconst (pc' := 18) rfl rfl lconst_1 ?_
      refine x_goto (tgt := 22) rfl rfl ?_
      refine x_lastore (pc' := 23) rfl rfl (hM.2.2 0 (by decide)) (vp_in_nI (n := i) (N := 41) (by omega) (by decide)) (fun f1 e1 => ?_)
      have hM1 := hM.lng 0 (by decide) e1
      have hF1 := hF.up e1 (by decide)
      refine x_iinc (pc' := 26) (lv' := [(2, _), (0, _), (1, _)]) rfl rfl (Nat.le_of_ble_eq_true rfl) rfl (nI_1 i) rfl ?_
      refine x_goto (tgt := 2) rfl rfl ?_
      exact h9 _ hM1 hF1
    · rw [if_neg d] at h9
      refine x_if_ne (tgt := 21) (pc' := 17) rfl rfl rfl (fun _ => ?_) (fun q => absurd q (nI_ne0 (by omega) (by omega)))
      refine x_lconst (pc' := 22) rfl rfl lconst_0 ?_
      refine x_lastore (pc' := 23) rfl rfl (hM.2.2 0 (by decide)) (vp_in_nI (n := i) (N := 41) (by omega) (by decide)) (fun f2 e2 => ?_)
      have hM1 := hM.lng 0 (by decide) e2
      have hF1 := hF.up e2 (by decide)
      refine x_iinc (pc' := 26) (lv' := [(2, _), (0, _), (1, _)]) rfl rfl (Nat.le_of_ble_eq_true rfl) rfl (nI_1 i) rfl ?_
      refine x_goto (tgt := 2) rfl rfl ?_
      exact h9 _ hM1 hF1
theorem r_wV {n k lo hi a3 a2 : Nat} (hk : k ≤ 40) (hlo : lo ≤ 1000) (hhi : hi ≤ 20) (hM : x_Mdl z f M) (hw : ∀ j, j ≤ 40 → M.2.2 0 j = w j) (K : ∀ v : Int32, X E (x_rm 3 0 0) mX6_waysOf (x_QM E z 0 0 post) 144 [(9, .int v), (7, .long (q_w1 w lo hi k)), (6, .int (nI k)), (5, .int (nI hi)), (4, .int (nI lo)), (3, .int (nI a3)), (2, .int (nI a2)), (0, .ref 59), (1, .int (nI n))] [] z f 0 0) : ∀ (m j : Nat), j + m = min hi k + 1 - lo → X E (x_rm 3 0 0) mX6_waysOf (x_QM E z 0 0 post) 109 [(9, .int (nI (lo + j))), (7, .long (q_su w k lo j)), (6, .int (nI k)), (5, .int (nI hi)), (4, .int (nI lo)), (3, .int (nI a3)), (2, .int (nI a2)), (0, .ref 59), (1, .int (nI n))] [] z f 0 0 := by
  intro m
  induction m with
  | zero =>
    intro j hj
    have hj2 : j = min hi k + 1 - lo := by omega
    have K' := K (nI (lo + j))
    unfold q_w1 at K'
    rw [← hj2] at K'
    by_cases d : hi < lo + j
    ·
      refine x_iload (pc' := 111) rfl rfl rfl ?_
      refine x_iload (pc' := 113) rfl rfl rfl ?_
      refine x_icmp_gt (tgt := 144) (pc' := 116) rfl rfl rfl (fun _ => ?_) (fun c113 => absurd ((nI_lt d (by omega))) c113)
      exact K'
    ·
      refine x_iload (pc' := 111) rfl rfl rfl ?_
      refine x_iload (pc' := 113) rfl rfl rfl ?_
      refine x_icmp_gt (tgt := 144) (pc' := 116) rfl rfl rfl (fun c113 => absurd c113 ((nI_nlt (by omega) (by omega)))) (fun _ => ?_)
      refine x_iload (pc' := 118) rfl rfl rfl ?_
      refine x_iload (pc' := 120) rfl rfl rfl ?_
      refine x_icmp_gt (tgt := 144) (pc' := 123) rfl rfl rfl (fun _ => ?_) (fun c120 => absurd ((nI_lt (by omega) (by omega))) c120)
      exact K'
  | succ m ih =>
    intro j hj
    have e1 : M.2.2 0 (nI (k - (lo + j))).toNatClampNeg = w (k - (lo + j)) := by rw [nI_clamp (by omega), hw _ (by omega)]
    refine x_iload (pc' := 111) rfl rfl rfl ?_
    refine x_iload (pc' := 113) rfl rfl rfl ?_
    refine x_icmp_gt (tgt := 144) (pc' := 116) rfl rfl rfl (fun c113 => absurd c113 ((nI_nlt (by omega) (by omega)))) (fun _ => ?_)
    refine x_iload (pc' := 118) rfl rfl rfl ?_
    refine x_iload (pc' := 120) rfl rfl rfl ?_
    refine x_icmp_gt (tgt := 144) (pc' := 123) rfl rfl rfl (fun c120 => absurd c120 ((nI_nlt (by omega) (by omega)))) (fun _ => ?_)
    refine x_lload (pc' := 125) rfl rfl rfl ?_
    refine x_aload_n (pc' := 126) rfl rfl rfl ?_
    refine x_get (pc' := 129) rfl rfl rfl (hM.1) rfl ?_
    refine x_iload (pc' := 131) rfl rfl rfl ?_
    refine x_iload (pc' := 133) rfl rfl rfl ?_
    refine x_isub (pc' := 134) rfl rfl ?_
    refine x_eqi (pk_sub (by omega)) ?_
    refine x_laload (pc' := 135) rfl rfl (hM.2.2 0 (by decide)) (vp_in_nI (n := k - (lo + j)) (N := 41) (by omega) (by decide)) ?_
    refine x_eql e1 ?_
    refine x_ladd (pc' := 136) rfl rfl ?_
    refine x_lstore (pc' := 138) (lv' := [(7, _), (9, _), (6, _), (5, _), (4, _), (3, _), (2, _), (0, _), (1, _)]) rfl rfl (Nat.le_of_ble_eq_true rfl) rfl ?_
    refine x_iinc (pc' := 141) (lv' := [(9, _), (7, _), (6, _), (5, _), (4, _), (3, _), (2, _), (0, _), (1, _)]) rfl rfl (Nat.le_of_ble_eq_true rfl) rfl (nI_1 _) rfl ?_
    refine x_goto (tgt := 109) rfl rfl ?_
    exact ih (j + 1) (by omega)
theorem r_wK {n lo hi a3 a2 : Nat} (hlo : lo ≤ 1000) (hhi : hi ≤ 20) (f0 : x_H) (M0 : x_N) (hw : ∀ j, j ≤ 40 → M0.2.2 0 j = w j) (K : ∀ f' : x_H, x_Mdl z f' (M0.1, M0.2.1, x_ul M0.2.2 1 (q_cpL 41 (q_w1 w lo hi) (M0.2.2 1))) → x_fr (fun q => q < 59) f0 f' → X E (x_rm 3 0 0) mX6_waysOf (x_QM E z 0 0 post) 159 [(6, .int (nI 41)), (5, .int (nI hi)), (4, .int (nI lo)), (3, .int (nI a3)), (2, .int (nI a2)), (0, .ref 59), (1, .int (nI n))] [] z f' 0 0) : ∀ (m k : Nat) (f : x_H), k + m = 41 → x_Mdl z f (M0.1, M0.2.1, x_ul M0.2.2 1 (q_cpL k (q_w1 w lo hi) (M0.2.2 1))) → x_fr (fun q => q < 59) f0 f → X E (x_rm 3 0 0) mX6_waysOf (x_QM E z 0 0 post) 95 [(6, .int (nI k)), (5, .int (nI hi)), (4, .int (nI lo)), (3, .int (nI a3)), (2, .int (nI a2)), (0, .ref 59), (1, .int (nI n))] [] z f 0 0 := by
  intro m
  induction m with
  | zero =>
    intro k f hk hM hF
    have hk2 : k = 41 := by omega
    subst hk2
    refine x_iload (pc' := 97) rfl rfl rfl ?_
    refine x_bipush (pc' := 99) rfl rfl bipush_40 ?_
    refine x_icmp_gt (tgt := 159) (pc' := 102) rfl rfl rfl (fun _ => ?_) (fun c99 => absurd ((by decide : (40 : Int32) < nI 41)) c99)
    exact K _ hM hF
  | succ m ih =>
    intro k f hk hM hF
    have hcl : (nI k).toNatClampNeg = k := nI_clamp (by omega)
    have e9 : x_ul (x_ul M0.2.2 1 (q_cpL k (q_w1 w lo hi) (M0.2.2 1))) 1 (vp_updL (q_cpL k (q_w1 w lo hi) (M0.2.2 1)) (nI k).toNatClampNeg (q_w1 w lo hi k)) = x_ul M0.2.2 1 (q_cpL (k + 1) (q_w1 w lo hi) (M0.2.2 1)) := by rw [x_ul_ul, hcl, q_cpL_s]
    have h9 := fun f => ih (k + 1) f (by omega)
    rw [← e9] at h9
    refine x_iload (pc' := 97) rfl rfl rfl ?_
    refine x_bipush (pc' := 99) rfl rfl bipush_40 ?_
    refine x_icmp_gt (tgt := 159) (pc' := 102) rfl rfl rfl (fun c99 => absurd c99 ((nI_nlt (a := 40) (b := k) (by omega) (by decide)))) (fun _ => ?_)
    refine x_lconst (pc' := 103) rfl rfl lconst_0 ?_
    refine x_lstore (pc' := 105) (lv' := [(7, _), (6, _), (5, _), (4, _), (3, _), (2, _), (0, _), (1, _)]) rfl rfl (Nat.le_of_ble_eq_true rfl) rfl ?_
    refine x_iload (pc' := 107) rfl rfl rfl ?_
    refine x_istore (pc' := 109) (lv' := [(9, _), (7, _), (6, _), (5, _), (4, _), (3, _), (2, _), (0, _), (1, _)]) rfl rfl (Nat.le_of_ble_eq_true rfl) rfl ?_
    refine r_wV (w := w) (by omega) hlo hhi hM hw (fun v => ?_) (min hi k + 1 - lo) 0 (by omega)
    refine x_aload_n (pc' := 145) rfl rfl rfl ?_
    refine x_get (pc' := 148) rfl rfl rfl (hM.1) rfl ?_
    refine x_iload (pc' := 150) rfl rfl rfl ?_
    refine x_lload (pc' := 152) rfl rfl rfl ?_
    refine x_lastore (pc' := 153) rfl rfl (hM.2.2 1 (by decide)) (vp_in_nI (n := k) (N := 41) (by omega) (by decide)) (fun f1 e1 => ?_)
    have hM1 := hM.lng 1 (by decide) e1
    have hF1 := hF.up e1 (by decide)
    refine x_iinc (pc' := 156) (lv' := [(6, _), (9, _), (7, _), (5, _), (4, _), (3, _), (2, _), (0, _), (1, _)]) rfl rfl (Nat.le_of_ble_eq_true rfl) rfl (nI_1 k) rfl ?_
    refine x_goto (tgt := 95) rfl rfl ?_
    refine x_lvp [0, 3, 4, 5, 6, 7, 8] rfl ?_
    exact h9 _ hM1 hF1
theorem r_wC {n lo hi a3 a2 : Nat} (f0 : x_H) (M0 : x_N) (K : ∀ f' : x_H, x_Mdl z f' (M0.1, M0.2.1, x_ul M0.2.2 0 (q_cpL 41 (M0.2.2 1) (M0.2.2 0))) → x_fr (fun q => q < 59) f0 f' → X E (x_rm 3 0 0) mX6_waysOf (x_QM E z 0 0 post) 189 [(6, .int (nI 41)), (5, .int (nI hi)), (4, .int (nI lo)), (3, .int (nI a3)), (2, .int (nI a2)), (0, .ref 59), (1, .int (nI n))] [] z f' 0 0) : ∀ (m k : Nat) (f : x_H), k + m = 41 → x_Mdl z f (M0.1, M0.2.1, x_ul M0.2.2 0 (q_cpL k (M0.2.2 1) (M0.2.2 0))) → x_fr (fun q => q < 59) f0 f → X E (x_rm 3 0 0) mX6_waysOf (x_QM E z 0 0 post) 162 [(6, .int (nI k)), (5, .int (nI hi)), (4, .int (nI lo)), (3, .int (nI a3)), (2, .int (nI a2)), (0, .ref 59), (1, .int (nI n))] [] z f 0 0 := by
  intro m
  induction m with
  | zero =>
    intro k f hk hM hF
    have hk2 : k = 41 := by omega
    subst hk2
    refine x_iload (pc' := 164) rfl rfl rfl ?_
    refine x_bipush (pc' := 166) rfl rfl bipush_40 ?_
    refine x_icmp_gt (tgt := 189) (pc' := 169) rfl rfl rfl (fun _ => ?_) (fun c166 => absurd ((by decide : (40 : Int32) < nI 41)) c166)
    exact K _ hM hF
  | succ m ih =>
    intro k f hk hM hF
    have hcl : (nI k).toNatClampNeg = k := nI_clamp (by omega)
    have e9 : x_ul (x_ul M0.2.2 0 (q_cpL k (M0.2.2 1) (M0.2.2 0))) 0 (vp_updL (q_cpL k (M0.2.2 1) (M0.2.2 0)) (nI k).toNatClampNeg (M0.2.2 1 k)) = x_ul M0.2.2 0 (q_cpL (k + 1) (M0.2.2 1) (M0.2.2 0)) := by rw [x_ul_ul, hcl, q_cpL_s]
    have h9 := fun f => ih (k + 1) f (by omega)
    rw [← e9] at h9
    refine x_iload (pc' := 164) rfl rfl rfl ?_
    refine x_bipush (pc' := 166) rfl rfl bipush_40 ?_
    refine x_icmp_gt (tgt := 189) (pc' := 169) rfl rfl rfl (fun c166 => absurd c166 ((nI_nlt (a := 40) (b := k) (by omega) (by decide)))) (fun _ => ?_)
    refine x_aload_n (pc' := 170) rfl rfl rfl ?_
    refine x_get (pc' := 173) rfl rfl rfl (hM.1) rfl ?_
    refine x_iload (pc' := 175) rfl rfl rfl ?_
    refine x_aload_n (pc' := 176) rfl rfl rfl ?_
    refine x_get (pc' := 179) rfl rfl rfl (hM.1) rfl ?_
    refine x_iload (pc' := 181) rfl rfl rfl ?_
    refine x_laload (pc' := 182) rfl rfl (hM.2.2 1 (by decide)) (vp_in_nI (n := k) (N := 41) (by omega) (by decide)) ?_
    refine x_eql (show M0.2.2 1 (nI k).toNatClampNeg = M0.2.2 1 k from by rw [hcl]) ?_
    refine x_lastore (pc' := 183) rfl rfl (hM.2.2 0 (by decide)) (vp_in_nI (n := k) (N := 41) (by omega) (by decide)) (fun f1 e1 => ?_)
    have hM1 := hM.lng 0 (by decide) e1
    have hF1 := hF.up e1 (by decide)
    refine x_iinc (pc' := 186) (lv' := [(6, _), (5, _), (4, _), (3, _), (2, _), (0, _), (1, _)]) rfl rfl (Nat.le_of_ble_eq_true rfl) rfl (nI_1 k) rfl ?_
    refine x_goto (tgt := 162) rfl rfl ?_
    exact h9 _ hM1 hF1
theorem q_fwI {g : q_G} {b : Nat} : (if g_κ g b = 2 then (1000 : Int32) else nI (q_from (g_κ g b) (g_f g))) = nI (q_fw g b) := by
  unfold q_fw
  split <;> rfl
theorem r_wB {n : Nat} (hn : n ≤ 40) (hg : g_ok C g) (f0 : x_H) (M0 : x_N) (hm : m_is M0 g) (hrw : M0.2.1 5 = fun i => nI (rw' i)) (hr9 : ∀ i, rw' i ≤ 9) (h : ∀ (f' : x_H) (W : Nat → Nat → Int64), x_Mdl z f' (M0.1, M0.2.1, W) → x_fr (fun q => q < 59) f0 f' → post (some (.int (q_cap (q_wy g rw' (g_n g) n)))) f') : ∀ (m b : Nat) (f : x_H) (W : Nat → Nat → Int64), b + m = g_n g → x_Mdl z f (M0.1, M0.2.1, W) → (∀ j, j ≤ 40 → W 0 j = q_wy g rw' b j) → x_fr (fun q => q < 59) f0 f → X E (x_rm 3 0 0) mX6_waysOf (x_QM E z 0 0 post) 31 [(2, .int (nI b)), (0, .ref 59), (1, .int (nI n))] [] z f 0 0 := by
  have hn9 := hg.1
  intro m
  induction m with
  | zero =>
    intro b f W hb hM hW hF
    have hb2 : b = g_n g := by omega
    subst hb2
    have e1 : W 0 (nI n).toNatClampNeg = q_wy g rw' (g_n g) n := by rw [nI_clamp (by omega), hW n hn]
    unfold q_cap at h
    refine x_iload_n (pc' := 32) rfl rfl rfl ?_
    refine x_aload_n (pc' := 33) rfl rfl rfl ?_
    refine x_get (pc' := 36) rfl rfl rfl (hM.1) rfl ?_
    refine x_eqi hm.2.2.2.1 ?_
    refine x_icmp_ge (tgt := 195) (pc' := 39) rfl rfl rfl (fun _ => ?_) (fun c36 => absurd ((Int32.le_refl _)) c36)
    refine x_aload_n (pc' := 196) rfl rfl rfl ?_
    refine x_get (pc' := 199) rfl rfl rfl (hM.1) rfl ?_
    refine x_iload_n (pc' := 200) rfl rfl rfl ?_
    refine x_laload (pc' := 201) rfl rfl (hM.2.2 0 (by decide)) (vp_in_nI (n := n) (N := 41) (by omega) (by decide)) ?_
    refine x_eql e1 ?_
    refine x_ldc2 (pc' := 204) rfl rfl rfl ?_
    refine x_lcmp (pc' := 205) rfl rfl ?_
    by_cases d : 1000000000 < q_wy g rw' (g_n g) n
    · rw [if_pos d] at h
      refine x_if_le (tgt := 213) (pc' := 208) rfl rfl rfl (fun q => absurd (lg_gt.mpr d) (Int32.not_lt.mpr q)) (fun _ => ?_)
      refine x_ldc (pc' := 210) rfl rfl rfl ?_
      refine x_goto (tgt := 220) rfl rfl ?_
      exact x_ireturn rfl rfl rfl (Nat.le_of_ble_eq_true rfl) (Nat.le_of_ble_eq_true rfl) (h _ _ hM hF)
    · rw [if_neg d] at h
      refine x_if_le (tgt := 213) (pc' := 208) rfl rfl rfl (fun _ => ?_) (fun q => absurd (lg_gt.mp (Int32.not_le.mp q)) d)
      refine x_aload_n (pc' := 214) rfl rfl rfl ?_
      refine x_get (pc' := 217) rfl rfl rfl (hM.1) rfl ?_
      refine x_iload_n (pc' := 218) rfl rfl rfl ?_
      refine x_laload (pc' := 219) rfl rfl (hM.2.2 0 (by decide)) (vp_in_nI (n := n) (N := 41) (by omega) (by decide)) ?_
      refine x_eql e1 ?_
      refine x_l2i (pc' := 220) rfl rfl ?_
      exact x_ireturn rfl rfl rfl (Nat.le_of_ble_eq_true rfl) (Nat.le_of_ble_eq_true rfl) (h _ _ hM hF)
  | succ m ih =>
    intro b f W hb hM hW hF
    have hκ := hg.2.2.2.2.1 b
    have hfu := hg.2.1
    have hfw := q_fw_in (b := b) hg
    have hlo := q_lo_in (rw := rw') (b := b) hg
    have hhi := q_hi_20 (rw := rw') (b := b) hg
    have hr := hr9 b
    have hcl : (nI b).toNatClampNeg = b := nI_clamp (by omega)
    have eκ : M0.2.1 0 (nI b).toNatClampNeg = nI (g_κ g b) := by rw [hcl, hm.1]
    have er : M0.2.1 5 (nI b).toNatClampNeg = nI (rw' b) := by rw [hcl, hrw]
    refine x_iload_n (pc' := 32) rfl rfl rfl ?_
    refine x_aload_n (pc' := 33) rfl rfl rfl ?_
    refine x_get (pc' := 36) rfl rfl rfl (hM.1) rfl ?_
    refine x_eqi hm.2.2.2.1 ?_
    refine x_icmp_ge (tgt := 195) (pc' := 39) rfl rfl rfl (fun c36 => absurd c36 ((nI_ge (by omega) (by omega)))) (fun _ => ?_)
    refine x_aload_n (pc' := 40) rfl rfl rfl ?_
    refine x_aload_n (pc' := 41) rfl rfl rfl ?_
    refine x_get (pc' := 44) rfl rfl rfl (hM.1) rfl ?_
    refine x_iload_n (pc' := 45) rfl rfl rfl ?_
    refine x_iaload (pc' := 46) rfl rfl (hM.2.1 0 (by decide)) (vp_in_nI (n := b) (N := 9) (by omega) (by decide)) ?_
    refine x_eqi eκ ?_
    refine x_cV1i (d := 1) (pc' := 49) rfl rfl sX6_93 gX6_soundsFrom (hM.1) ⟨Nat.le_of_ble_eq_true rfl, Nat.le_of_ble_eq_true rfl⟩ (Nat.le_of_ble_eq_true rfl) ⟨Nat.le_of_ble_eq_true rfl, Nat.le_of_ble_eq_true rfl⟩ ?_
    refine m_sounds1 hM hm.2.2.2.2.1 (by omega) hκ ⟨_, rfl, ?_⟩
    rw [q_fwI]
    refine x_istore_n (pc' := 50) (lv' := [(3, _), (2, _), (0, _), (1, _)]) rfl rfl (Nat.le_of_ble_eq_true rfl) rfl ?_
    have K95 : X E (x_rm 3 0 0) mX6_waysOf (x_QM E z 0 0 post) 95 [(6, .int (nI 0)), (5, .int (nI (q_hi g rw' b))), (4, .int (nI (q_lo g rw' b))), (3, .int (nI (q_fw g b))), (2, .int (nI b)), (0, .ref 59), (1, .int (nI n))] [] z f 0 0 := by
      refine r_wK (w := q_wy g rw' b) hlo hhi f (M0.1, M0.2.1, W) hW (fun f1 hM1 hF1 => ?_) 41 0 f (by decide) (by rw [q_cpL_0, x_ul_id]; exact hM) x_fr.rf
      refine x_iconst (pc' := 160) rfl rfl iconst_0 ?_
      refine x_istore (pc' := 162) (lv' := [(6, _), (5, _), (4, _), (3, _), (2, _), (0, _), (1, _)]) rfl rfl (Nat.le_of_ble_eq_true rfl) rfl ?_
      refine r_wC f1 (M0.1, M0.2.1, x_ul W 1 (q_cpL 41 (q_w1 (q_wy g rw' b) (q_lo g rw' b) (q_hi g rw' b)) (W 1))) (fun f2 hM2 hF2 => ?_) 41 0 f1 (by decide) (by rw [q_cpL_0, x_ul_id]; exact hM1) x_fr.rf
      refine x_iinc (pc' := 192) (lv' := [(2, _), (6, _), (5, _), (4, _), (3, _), (0, _), (1, _)]) rfl rfl (Nat.le_of_ble_eq_true rfl) rfl (nI_1 b) rfl ?_
      refine x_goto (tgt := 31) rfl rfl ?_
      refine x_lvp [0, 5, 6] rfl ?_
      refine ih (b + 1) f2 _ (by omega) hM2 (fun j hj => ?_) ((hF.trans hF1).trans hF2)
      show q_cpL 41 (q_cpL 41 (q_w1 (q_wy g rw' b) (q_lo g rw' b) (q_hi g rw' b)) (W 1)) _ j = _
      unfold q_cpL
      rw [if_pos (by omega), if_pos (by omega)]
      rfl
    refine x_aload_n (pc' := 51) rfl rfl rfl ?_
    refine x_get (pc' := 54) rfl rfl rfl (hM.1) rfl ?_
    refine x_iload_n (pc' := 55) rfl rfl rfl ?_
    refine x_iaload (pc' := 56) rfl rfl (hM.2.1 5 (by decide)) (vp_in_nI (n := b) (N := 12) (by omega) (by decide)) ?_
    refine x_eqi er ?_
    refine x_iconst (pc' := 57) rfl rfl iconst_1 ?_
    by_cases d : rw' b = 1
    · have elo : nI (q_fw g b) = nI (q_lo g rw' b) := by unfold q_lo; rw [if_pos d]
      refine x_icmp_ne (tgt := 64) (pc' := 60) rfl rfl rfl (fun q => absurd (by rw [d]; rfl) q) (fun _ => ?_)
      refine x_iload_n (pc' := 61) rfl rfl rfl ?_
      refine x_goto (tgt := 65) rfl rfl ?_
      refine x_eqi elo ?_
      refine x_istore (pc' := 67) (lv' := [(4, _), (3, _), (2, _), (0, _), (1, _)]) rfl rfl (Nat.le_of_ble_eq_true rfl) rfl ?_
      refine x_aload_n (pc' := 68) rfl rfl rfl ?_
      refine x_get (pc' := 71) rfl rfl rfl (hM.1) rfl ?_
      refine x_iload_n (pc' := 72) rfl rfl rfl ?_
      refine x_iaload (pc' := 73) rfl rfl (hM.2.1 5 (by decide)) (vp_in_nI (n := b) (N := 12) (by omega) (by decide)) ?_
      refine x_eqi er ?_
      by_cases d5 : rw' b = 0
      · refine x_if_ne (tgt := 88) (pc' := 76) rfl rfl rfl (fun q => absurd (by rw [d5]; rfl) q) (fun _ => ?_)
        refine x_iload_n (pc' := 77) rfl rfl rfl ?_
        refine x_bipush (pc' := 79) rfl rfl bipush_20 ?_
        by_cases d6 : q_fw g b ≤ 20
        · have ehi : nI (q_fw g b - 1) = nI (q_hi g rw' b) := by unfold q_hi; rw [if_pos ⟨d5, d6⟩]
          refine x_icmp_gt (tgt := 88) (pc' := 82) rfl rfl rfl (fun q => absurd q (nI_nlt (a := 20) d6 (by decide))) (fun _ => ?_)
          refine x_iload_n (pc' := 83) rfl rfl rfl ?_
          refine x_iconst (pc' := 84) rfl rfl iconst_1 ?_
          refine x_isub (pc' := 85) rfl rfl ?_
          refine x_eqi (show nI (q_fw g b) - 1 = nI (q_fw g b - 1) from pk_sub (b := 1) hfw.1) ?_
          refine x_goto (tgt := 90) rfl rfl ?_
          refine x_eqi ehi ?_
          refine x_istore (pc' := 92) (lv' := [(5, _), (4, _), (3, _), (2, _), (0, _), (1, _)]) rfl rfl (Nat.le_of_ble_eq_true rfl) rfl ?_
          refine x_iconst (pc' := 93) rfl rfl iconst_0 ?_
          refine x_istore (pc' := 95) (lv' := [(6, _), (5, _), (4, _), (3, _), (2, _), (0, _), (1, _)]) rfl rfl (Nat.le_of_ble_eq_true rfl) rfl ?_
          exact K95
        · have ehi : 20 = nI (q_hi g rw' b) := by unfold q_hi; rw [if_neg (fun q => d6 q.2)]; rfl
          refine x_icmp_gt (tgt := 88) (pc' := 82) rfl rfl rfl (fun _ => ?_) (fun q => absurd (nI_lt (a := 20) (by omega) (by omega)) q)
          refine x_bipush (pc' := 90) rfl rfl bipush_20 ?_
          refine x_eqi ehi ?_
          refine x_istore (pc' := 92) (lv' := [(5, _), (4, _), (3, _), (2, _), (0, _), (1, _)]) rfl rfl (Nat.le_of_ble_eq_true rfl) rfl ?_
          refine x_iconst (pc' := 93) rfl rfl iconst_0 ?_
          refine x_istore (pc' := 95) (lv' := [(6, _), (5, _), (4, _), (3, _), (2, _), (0, _), (1, _)]) rfl rfl (Nat.le_of_ble_eq_true rfl) rfl ?_
          exact K95
      · have ehi : 20 = nI (q_hi g rw' b) := by unfold q_hi; rw [if_neg (fun q => d5 q.1)]; rfl
        refine x_if_ne (tgt := 88) (pc' := 76) rfl rfl rfl (fun _ => ?_) (fun q => absurd q (nI_ne0 (by omega) (by omega)))
        refine x_bipush (pc' := 90) rfl rfl bipush_20 ?_
        refine x_eqi ehi ?_
        refine x_istore (pc' := 92) (lv' := [(5, _), (4, _), (3, _), (2, _), (0, _), (1, _)]) rfl rfl (Nat.le_of_ble_eq_true rfl) rfl ?_
        refine x_iconst (pc' := 93) rfl rfl iconst_0 ?_
        refine x_istore (pc' := 95) (lv' := [(6, _), (5, _), (4, _), (3, _), (2, _), (0, _), (1, _)]) rfl rfl (Nat.le_of_ble_eq_true rfl) rfl ?_
        exact K95
    · have elo : 0 = nI (q_lo g rw' b) := by unfold q_lo; rw [if_neg d]; rfl
      refine x_icmp_ne (tgt := 64) (pc' := 60) rfl rfl rfl (fun _ => ?_) (fun q => absurd ((nI_eq (b := 1) (by omega) (by decide)).mp q) d)
      refine x_iconst (pc' := 65) rfl rfl iconst_0 ?_
      refine x_eqi elo ?_
      refine x_istore (pc' := 67) (lv' := [(4, _), (3, _), (2, _), (0, _), (1, _)]) rfl rfl (Nat.le_of_ble_eq_true rfl) rfl ?_
      refine x_aload_n (pc' := 68) rfl rfl rfl ?_
      refine x_get (pc' := 71) rfl rfl rfl (hM.1) rfl ?_
      refine x_iload_n (pc' := 72) rfl rfl rfl ?_
      refine x_iaload (pc' := 73) rfl rfl (hM.2.1 5 (by decide)) (vp_in_nI (n := b) (N := 12) (by omega) (by decide)) ?_
      refine x_eqi er ?_
      by_cases d5 : rw' b = 0
      · refine x_if_ne (tgt := 88) (pc' := 76) rfl rfl rfl (fun q => absurd (by rw [d5]; rfl) q) (fun _ => ?_)
        refine x_iload_n (pc' := 77) rfl rfl rfl ?_
        refine x_bipush (pc' := 79) rfl rfl bipush_20 ?_
        by_cases d6 : q_fw g b ≤ 20
        · have ehi : nI (q_fw g b - 1) = nI (q_hi g rw' b) := by unfold q_hi; rw [if_pos ⟨d5, d6⟩]
          refine x_icmp_gt (tgt := 88) (pc' := 82) rfl rfl rfl (fun q => absurd q (nI_nlt (a := 20) d6 (by decide))) (fun _ => ?_)
          refine x_iload_n (pc' := 83) rfl rfl rfl ?_
          refine x_iconst (pc' := 84) rfl rfl iconst_1 ?_
          refine x_isub (pc' := 85) rfl rfl ?_
          refine x_eqi (show nI (q_fw g b) - 1 = nI (q_fw g b - 1) from pk_sub (b := 1) hfw.1) ?_
          refine x_goto (tgt := 90) rfl rfl ?_
          refine x_eqi ehi ?_
          refine x_istore (pc' := 92) (lv' := [(5, _), (4, _), (3, _), (2, _), (0, _), (1, _)]) rfl rfl (Nat.le_of_ble_eq_true rfl) rfl ?_
          refine x_iconst (pc' := 93) rfl rfl iconst_0 ?_
          refine x_istore (pc' := 95) (lv' := [(6, _), (5, _), (4, _), (3, _), (2, _), (0, _), (1, _)]) rfl rfl (Nat.le_of_ble_eq_true rfl) rfl ?_
          exact K95
        · have ehi : 20 = nI (q_hi g rw' b) := by unfold q_hi; rw [if_neg (fun q => d6 q.2)]; rfl
          refine x_icmp_gt (tgt := 88) (pc' := 82) rfl rfl rfl (fun _ => ?_) (fun q => absurd (nI_lt (a := 20) (by omega) (by omega)) q)
          refine x_bipush (pc' := 90) rfl rfl bipush_20 ?_
          refine x_eqi ehi ?_
          refine x_istore (pc' := 92) (lv' := [(5, _), (4, _), (3, _), (2, _), (0, _), (1, _)]) rfl rfl (Nat.le_of_ble_eq_true rfl) rfl ?_
          refine x_iconst (pc' := 93) rfl rfl iconst_0 ?_
          refine x_istore (pc' := 95) (lv' := [(6, _), (5, _), (4, _), (3, _), (2, _), (0, _), (1, _)]) rfl rfl (Nat.le_of_ble_eq_true rfl) rfl ?_
          exact K95
      · have ehi : 20 = nI (q_hi g rw' b) := by unfold q_hi; rw [if_neg (fun q => d5 q.1)]; rfl
        refine x_if_ne (tgt := 88) (pc' := 76) rfl rfl rfl (fun _ => ?_) (fun q => absurd q (nI_ne0 (by omega) (by omega)))
        refine x_bipush (pc' := 90) rfl rfl bipush_20 ?_
        refine x_eqi ehi ?_
        refine x_istore (pc' := 92) (lv' := [(5, _), (4, _), (3, _), (2, _), (0, _), (1, _)]) rfl rfl (Nat.le_of_ble_eq_true rfl) rfl ?_
        refine x_iconst (pc' := 93) rfl rfl iconst_0 ?_
        refine x_istore (pc' := 95) (lv' := [(6, _), (5, _), (4, _), (3, _), (2, _), (0, _), (1, _)]) rfl rfl (Nat.le_of_ble_eq_true rfl) rfl ?_
        exact K95
theorem m_waysOf {n : Nat} (hn : n ≤ 40) (hM : x_Mdl z f M) (hm : m_is M g) (hg : g_ok C g) (hrw : M.2.1 5 = fun i => nI (rw' i)) (hr9 : ∀ i, rw' i ≤ 9) (h : ∀ (f' : x_H) (W : Nat → Nat → Int64), x_Mdl z f' (M.1, M.2.1, W) → x_fr (fun q => q < 59) f f' → post (some (.int (q_cap (q_wy g rw' (g_n g) n)))) f') : Y E 3 mX6_waysOf [.ref 59, .int (nI n)] z f 0 0 post := by
  refine Y.intro gX6_waysOf (lv := [(0, .ref 59), (1, .int (nI n))]) rfl (Nat.le_of_ble_eq_true rfl) ?_
  refine x_iconst (pc' := 1) rfl rfl iconst_0 ?_
  refine x_istore_n (pc' := 2) (lv' := [(2, _), (0, _), (1, _)]) rfl rfl (Nat.le_of_ble_eq_true rfl) rfl ?_
  refine r_wI0 f M (fun f1 hM1 hF1 => ?_) 41 0 f (by decide) (by rw [q_cpL_0, x_ul_id]; exact hM) x_fr.rf
  refine x_iconst (pc' := 30) rfl rfl iconst_0 ?_
  refine x_istore_n (pc' := 31) (lv' := [(2, _), (0, _), (1, _)]) rfl rfl (Nat.le_of_ble_eq_true rfl) rfl ?_
  exact r_wB hn hg f M hm hrw hr9 h (g_n g) 0 f1 _ (by omega) hM1 (fun j hj => by rw [show x_ul M.2.2 0 (q_cpL 41 (fun k => if k = 0 then (1 : Int64) else 0) (M.2.2 0)) 0 = q_cpL 41 (fun k => if k = 0 then (1 : Int64) else 0) (M.2.2 0) from rfl]; unfold q_cpL; rw [if_pos (by omega)]; rfl) hF1
theorem m_isRL (hM : x_Mdl z f M) (hA : r_is M A) (ho : a_ok A) (h1 : (∀ i, i < a_rc A → a_rf A i ≤ 2) → post (some (.int 1)) f) (h0 : ¬ (∀ i, i < a_rc A → a_rf A i ≤ 2) → post (some (.int 0)) f) : ∀ (m i : Nat), i + m = a_rc A → (∀ j, j < i → a_rf A j ≤ 2) → X E (x_rm 1 0 0) mX6_isRow (x_QM E z 0 0 post) 15 [(1, .int (nI i)), (0, .ref 59)] [] z f 0 0 := by
  obtain ⟨b1, b2, b3, b4, b5, b6, b7, b8, b9⟩ := id hA
  have hrc := ho.2.2.2.2.2.1
  intro m
  induction m with
  | zero =>
    intro i hi hj
    have hi2 : i = a_rc A := by omega
    subst hi2
    refine x_iload_n (pc' := 16) rfl rfl rfl ?_
    refine x_aload_n (pc' := 17) rfl rfl rfl ?_
    refine x_get (pc' := 20) rfl rfl rfl (hM.1) rfl ?_
    refine x_eqi b7 ?_
    refine x_icmp_ge (tgt := 41) (pc' := 23) rfl rfl rfl (fun _ => ?_) (fun c20 => absurd ((Int32.le_refl _)) c20)
    refine x_iconst (pc' := 42) rfl rfl iconst_1 ?_
    exact x_ireturn rfl rfl rfl (Nat.le_of_ble_eq_true rfl) (Nat.le_of_ble_eq_true rfl) (h1 hj)
  | succ m ih =>
    intro i hi hj
    have h9 := ho.2.2.2.2.2.2 i
    have er : M.2.1 5 (nI i).toNatClampNeg = nI (a_rf A i) := by rw [nI_clamp (by omega), b8]
    refine x_iload_n (pc' := 16) rfl rfl rfl ?_
    refine x_aload_n (pc' := 17) rfl rfl rfl ?_
    refine x_get (pc' := 20) rfl rfl rfl (hM.1) rfl ?_
    refine x_eqi b7 ?_
    refine x_icmp_ge (tgt := 41) (pc' := 23) rfl rfl rfl (fun c20 => absurd c20 ((nI_ge (by omega) (by omega)))) (fun _ => ?_)
    refine x_aload_n (pc' := 24) rfl rfl rfl ?_
    refine x_get (pc' := 27) rfl rfl rfl (hM.1) rfl ?_
    refine x_iload_n (pc' := 28) rfl rfl rfl ?_
    refine x_iaload (pc' := 29) rfl rfl (hM.2.1 5 (by decide)) (vp_in_nI (n := i) (N := 12) (by omega) (by decide)) ?_
    refine x_eqi er ?_
    refine x_iconst (pc' := 30) rfl rfl iconst_2 ?_
    by_cases d : a_rf A i ≤ 2
    · refine x_icmp_le (tgt := 35) (pc' := 33) rfl rfl rfl (fun _ => ?_) (fun q => absurd (nI_le (b := 2) d (by decide)) q)
      refine x_iinc (pc' := 38) (lv' := [(1, _), (0, _)]) rfl rfl (Nat.le_of_ble_eq_true rfl) rfl (nI_1 i) rfl ?_
      refine x_goto (tgt := 15) rfl rfl ?_
      exact ih (i + 1) (by omega) (fun j hj2 => by
        by_cases e : j = i
        · rw [e]
          exact d
        · exact hj j (by omega))
    · refine x_icmp_le (tgt := 35) (pc' := 33) rfl rfl rfl (fun q => absurd q (nI_ge (a := 2) (by omega) (by omega))) (fun _ => ?_)
      refine x_iconst (pc' := 34) rfl rfl iconst_0 ?_
      exact x_ireturn rfl rfl rfl (Nat.le_of_ble_eq_true rfl) (Nat.le_of_ble_eq_true rfl) (h0 (fun q => d (q i (by omega))))
theorem m_isR (hM : x_Mdl z f M) (hA : r_is M A) (ho : a_ok A) (h1 : q_isR A → post (some (.int 1)) f) (h0 : ¬ q_isR A → post (some (.int 0)) f) : Y E 1 mX6_isRow [.ref 59] z f 0 0 post := by
  refine Y.intro gX6_isRow (lv := [(0, .ref 59)]) rfl (Nat.le_of_ble_eq_true rfl) ?_
  obtain ⟨b1, b2, b3, b4, b5, b6, b7, b8, b9⟩ := id hA
  have hrc := ho.2.2.2.2.2.1
  have hn9 := ho.1.1
  refine x_aload_n (pc' := 1) rfl rfl rfl ?_
  refine x_get (pc' := 4) rfl rfl rfl (hM.1) rfl ?_
  refine x_eqi b7 ?_
  refine x_aload_n (pc' := 5) rfl rfl rfl ?_
  refine x_get (pc' := 8) rfl rfl rfl (hM.1) rfl ?_
  refine x_eqi b1.2.2.2.1 ?_
  by_cases d : a_rc A = g_n (a_g A)
  · refine x_icmp_eq (tgt := 13) (pc' := 11) rfl rfl rfl (fun _ => ?_) (fun q => absurd (by rw [d]) q)
    refine x_iconst (pc' := 14) rfl rfl iconst_0 ?_
    refine x_istore_n (pc' := 15) (lv' := [(1, _), (0, _)]) rfl rfl (Nat.le_of_ble_eq_true rfl) rfl ?_
    exact m_isRL hM hA ho (fun q => h1 ⟨d, q⟩) (fun q => h0 (fun k => q k.2)) (a_rc A) 0 (by omega) (fun j hj => absurd hj (Nat.not_lt_zero j))
  · refine x_icmp_eq (tgt := 13) (pc' := 11) rfl rfl rfl (fun q => absurd ((nI_eq (by omega) (by omega)).mp q) d) (fun _ => ?_)
    refine x_iconst (pc' := 12) rfl rfl iconst_0 ?_
    exact x_ireturn rfl rfl rfl (Nat.le_of_ble_eq_true rfl) (Nat.le_of_ble_eq_true rfl) (h0 (fun q => d q.1))
def s_soR (A : q_A) (a : Int32) : q_A × Int32 := if a < 0 then (s_no A 4, -4) else if 40 < a then (s_no A 6, -6) else if q_isR A then (A, q_cap (q_wy (a_g A) (a_rf A) (g_n (a_g A)) a.toNatClampNeg)) else (s_no A 3, -3)
theorem r_sounds (hM : x_Mdl z f M) (hA : r_is M A) (ho : a_ok A) (h : r_ends z f post (s_soR A a)) : Y E 9 mX6_sounds [.ref 59, .int a] z f 0 0 post := by
  refine Y.intro gX6_sounds (lv := [(0, .ref 59), (1, .int a)]) rfl (Nat.le_of_ble_eq_true rfl) ?_
  obtain ⟨b1, b2, b3, b4, b5, b6, b7, b8, b9⟩ := id hA
  refine x_iload_n (pc' := 1) rfl rfl rfl ?_
  refine x_if_ge (tgt := 11) (pc' := 4) rfl rfl rfl (fun c1 => ?_) (fun c1 => ?_)
  · have d1 : ¬ a < 0 := Int32.not_lt.mpr c1
    refine x_iload_n (pc' := 12) rfl rfl rfl ?_
    refine x_bipush (pc' := 14) rfl rfl bipush_40 ?_
    refine x_icmp_le (tgt := 24) (pc' := 17) rfl rfl rfl (fun c14 => ?_) (fun c14 => ?_)
    · have d2 : ¬ 40 < a := Int32.not_lt.mpr c14
      rw [show s_soR A a = _ from (if_neg d1).trans (if_neg d2)] at h
      refine x_aload_n (pc' := 25) rfl rfl rfl ?_
      refine x_cV0i (d := 1) (pc' := 28) rfl rfl sX6_208 gX6_isRow (hM.1) ⟨Nat.le_of_ble_eq_true rfl, Nat.le_of_ble_eq_true rfl⟩ (Nat.le_of_ble_eq_true rfl) ⟨Nat.le_of_ble_eq_true rfl, Nat.le_of_ble_eq_true rfl⟩ ?_
      refine m_isR hM hA ho (fun d3 => ⟨_, rfl, ?_⟩) (fun d3 => ⟨_, rfl, ?_⟩)
      · rw [if_pos d3] at h
        obtain ⟨n, hn, rfl⟩ := nI_of2 (n := 40) (M := 40) rfl d1 (Int32.not_lt.mp d2)
        rw [nI_clamp (by omega)] at h
        refine x_if_eq (tgt := 39) (pc' := 31) rfl rfl rfl (fun c28 => absurd c28 ((by decide))) (fun _ => ?_)
        refine x_aload_n (pc' := 32) rfl rfl rfl ?_
        refine x_iload_n (pc' := 33) rfl rfl rfl ?_
        refine x_cV1i (d := 3) (pc' := 36) rfl rfl sX6_212 gX6_waysOf (hM.1) ⟨Nat.le_of_ble_eq_true rfl, Nat.le_of_ble_eq_true rfl⟩ (Nat.le_of_ble_eq_true rfl) ⟨Nat.le_of_ble_eq_true rfl, Nat.le_of_ble_eq_true rfl⟩ ?_
        refine m_waysOf (C := 99) hn hM b1 ho.1 b8 ho.2.2.2.2.2.2 (fun f1 W hM1 hF1 => ⟨_, rfl, ?_⟩)
        refine x_goto (tgt := 45) rfl rfl ?_
        exact x_ireturn rfl rfl rfl (Nat.le_of_ble_eq_true rfl) (Nat.le_of_ble_eq_true rfl) (h _ _ hM1 hA hF1)
      · rw [if_neg d3] at h
        refine x_if_eq (tgt := 39) (pc' := 31) rfl rfl rfl (fun _ => ?_) (fun c28 => absurd (rfl) c28)
        refine x_aload_n (pc' := 40) rfl rfl rfl ?_
        refine x_bipush (pc' := 42) rfl rfl bipush_m3 ?_
        refine x_cV1i (d := 1) (pc' := 45) rfl rfl sX6_110 gX6_refuse (hM.1) ⟨Nat.le_of_ble_eq_true rfl, Nat.le_of_ble_eq_true rfl⟩ (Nat.le_of_ble_eq_true rfl) ⟨Nat.le_of_ble_eq_true rfl, Nat.le_of_ble_eq_true rfl⟩ ?_
        refine r_refuse (k := 2) (by decide) (by decide) hM hA (fun f1 M1 hM1 hA1 hF1 => ⟨_, rfl, ?_⟩)
        exact x_ireturn rfl rfl rfl (Nat.le_of_ble_eq_true rfl) (Nat.le_of_ble_eq_true rfl) (h _ _ hM1 hA1 hF1)
    · rw [show s_soR A a = _ from (if_neg d1).trans (if_pos (Int32.not_le.mp c14))] at h
      refine x_aload_n (pc' := 18) rfl rfl rfl ?_
      refine x_bipush (pc' := 20) rfl rfl bipush_m6 ?_
      refine x_cV1i (d := 1) (pc' := 23) rfl rfl sX6_110 gX6_refuse (hM.1) ⟨Nat.le_of_ble_eq_true rfl, Nat.le_of_ble_eq_true rfl⟩ (Nat.le_of_ble_eq_true rfl) ⟨Nat.le_of_ble_eq_true rfl, Nat.le_of_ble_eq_true rfl⟩ ?_
      refine r_refuse (k := 5) (by decide) (by decide) hM hA (fun f1 M1 hM1 hA1 hF1 => ⟨_, rfl, ?_⟩)
      exact x_ireturn rfl rfl rfl (Nat.le_of_ble_eq_true rfl) (Nat.le_of_ble_eq_true rfl) (h _ _ hM1 hA1 hF1)
  · rw [show s_soR A a = _ from if_pos (Int32.not_le.mp c1)] at h
    refine x_aload_n (pc' := 5) rfl rfl rfl ?_
    refine x_bipush (pc' := 7) rfl rfl bipush_m4 ?_
    refine x_cV1i (d := 1) (pc' := 10) rfl rfl sX6_110 gX6_refuse (hM.1) ⟨Nat.le_of_ble_eq_true rfl, Nat.le_of_ble_eq_true rfl⟩ (Nat.le_of_ble_eq_true rfl) ⟨Nat.le_of_ble_eq_true rfl, Nat.le_of_ble_eq_true rfl⟩ ?_
    refine r_refuse (k := 3) (by decide) (by decide) hM hA (fun f1 M1 hM1 hA1 hF1 => ⟨_, rfl, ?_⟩)
    exact x_ireturn rfl rfl rfl (Nat.le_of_ble_eq_true rfl) (Nat.le_of_ble_eq_true rfl) (h _ _ hM1 hA1 hF1)
def q_neV (g : q_G) (rw : Nat → Nat) (n b : Nat) : Int32 := if q_cap (q_wy g (q_up rw b 0) (g_n g) n) < q_cap (q_wy g (q_up rw b 1) (g_n g) n) then q_cap (q_wy g (q_up rw b 0) (g_n g) n) else q_cap (q_wy g (q_up rw b 1) (g_n g) n)
def q_ne (V : Nat → Int32) (rw : Nat → Nat) : Nat → Int32 × Int32
  | 0 => (-1, -9)
  | b + 1 => if rw b = 2 ∧ (q_ne V rw b).1 < V b then (V b, nI b) else q_ne V rw b
def s_neR (A : q_A) (a : Int32) : q_A × Int32 := if a < 0 then (s_no A 4, -4) else if 40 < a then (s_no A 6, -6) else if q_isR A then (A, (q_ne (q_neV (a_g A) (a_rf A) a.toNatClampNeg) (a_rf A) (g_n (a_g A))).2) else (s_no A 3, -3)
theorem r_neL {n : Nat} (hn : n ≤ 40) (ho : a_ok A) (f0 : x_H) (M0 : x_N) (hA : r_is M0 A) (h : r_ends z f0 post (A, (q_ne (q_neV (a_g A) (a_rf A) n) (a_rf A) (g_n (a_g A))).2)) : ∀ (m b : Nat) (f : x_H) (W : Nat → Nat → Int64), b + m = g_n (a_g A) → x_Mdl z f (M0.1, M0.2.1, W) → x_fr (fun q => q < 59) f0 f → X E (x_rm 9 0 0) mX6_next (x_QM E z 0 0 post) 46 [(4, .int (nI b)), (3, .int (q_ne (q_neV (a_g A) (a_rf A) n) (a_rf A) b).1), (2, .int (q_ne (q_neV (a_g A) (a_rf A) n) (a_rf A) b).2), (0, .ref 59), (1, .int (nI n))] [] z f 0 0 := by
  obtain ⟨b1, b2, b3, b4, b5, b6, b7, b8, b9⟩ := id hA
  have hn9 := ho.1.1
  have hr9 := ho.2.2.2.2.2.2
  intro m
  induction m with
  | zero =>
    intro b f W hb hM hF
    have hb2 : b = g_n (a_g A) := by omega
    subst hb2
    refine x_iload (pc' := 48) rfl rfl rfl ?_
    refine x_aload_n (pc' := 49) rfl rfl rfl ?_
    refine x_get (pc' := 52) rfl rfl rfl (hM.1) rfl ?_
    refine x_eqi b1.2.2.2.1 ?_
    refine x_icmp_ge (tgt := 138) (pc' := 55) rfl rfl rfl (fun _ => ?_) (fun c52 => absurd ((Int32.le_refl _)) c52)
    refine x_iload_n (pc' := 139) rfl rfl rfl ?_
    exact x_ireturn rfl rfl rfl (Nat.le_of_ble_eq_true rfl) (Nat.le_of_ble_eq_true rfl) (h _ _ hM hA hF)
  | succ m ih =>
    intro b f W hb hM hF
    have eq1 : q_ne (q_neV (a_g A) (a_rf A) n) (a_rf A) (b + 1) = if a_rf A b = 2 ∧ (q_ne (q_neV (a_g A) (a_rf A) n) (a_rf A) b).1 < q_neV (a_g A) (a_rf A) n b then (q_neV (a_g A) (a_rf A) n b, nI b) else q_ne (q_neV (a_g A) (a_rf A) n) (a_rf A) b := rfl
    have h9 := fun f W => ih (b + 1) f W (by omega)
    generalize q_ne (q_neV (a_g A) (a_rf A) n) (a_rf A) (b + 1) = s1 at eq1 h9
    generalize q_ne (q_neV (a_g A) (a_rf A) n) (a_rf A) b = s0 at eq1 ⊢
    have hrb := hr9 b
    have hcl : (nI b).toNatClampNeg = b := nI_clamp (by omega)
    have er : M0.2.1 5 (nI b).toNatClampNeg = nI (a_rf A b) := by rw [hcl, b8]
    refine x_iload (pc' := 48) rfl rfl rfl ?_
    refine x_aload_n (pc' := 49) rfl rfl rfl ?_
    refine x_get (pc' := 52) rfl rfl rfl (hM.1) rfl ?_
    refine x_eqi b1.2.2.2.1 ?_
    refine x_icmp_ge (tgt := 138) (pc' := 55) rfl rfl rfl (fun c52 => absurd c52 ((nI_ge (by omega) (by omega)))) (fun _ => ?_)
    refine x_aload_n (pc' := 56) rfl rfl rfl ?_
    refine x_get (pc' := 59) rfl rfl rfl (hM.1) rfl ?_
    refine x_iload (pc' := 61) rfl rfl rfl ?_
    refine x_iaload (pc' := 62) rfl rfl (hM.2.1 5 (by decide)) (vp_in_nI (n := b) (N := 12) (by omega) (by decide)) ?_
    refine x_eqi er ?_
    refine x_iconst (pc' := 63) rfl rfl iconst_2 ?_
    by_cases d : a_rf A b = 2
    · refine x_icmp_ne (tgt := 132) (pc' := 66) rfl rfl rfl (fun q => absurd (by rw [d]; rfl) q) (fun _ => ?_)
      refine x_aload_n (pc' := 67) rfl rfl rfl ?_
      refine x_get (pc' := 70) rfl rfl rfl (hM.1) rfl ?_
      refine x_iload (pc' := 72) rfl rfl rfl ?_
      refine x_iconst (pc' := 73) rfl rfl iconst_0 ?_
      refine x_iastore (pc' := 74) rfl rfl (hM.2.1 5 (by decide)) (vp_in_nI (n := b) (N := 12) (by omega) (by decide)) (fun f1 e1 => ?_)
      have hM1 := hM.arr 5 (by decide) e1
      have hF1 := hF.trans (r_fr0 e1 (by decide))
      have e15 : upd (M0.2.1 5) (nI b).toNatClampNeg 0 = fun i => nI (q_up (a_rf A) b 0 i) := by rw [hcl, b8]; exact q_up_I _ _ _
      refine x_aload_n (pc' := 75) rfl rfl rfl ?_
      refine x_iload_n (pc' := 76) rfl rfl rfl ?_
      refine x_cV1i (d := 3) (pc' := 79) rfl rfl sX6_212 gX6_waysOf (hM1.1) ⟨Nat.le_of_ble_eq_true rfl, Nat.le_of_ble_eq_true rfl⟩ (Nat.le_of_ble_eq_true rfl) ⟨Nat.le_of_ble_eq_true rfl, Nat.le_of_ble_eq_true rfl⟩ ?_
      refine m_waysOf (C := 99) (rw' := q_up (a_rf A) b 0) hn hM1 b1 ho.1 e15 (q_up_le hr9 (by decide)) (fun f2 W2 hM2 hF2 => ⟨_, rfl, ?_⟩)
      refine x_istore (pc' := 81) (lv' := [(5, _), (4, _), (3, _), (2, _), (0, _), (1, _)]) rfl rfl (Nat.le_of_ble_eq_true rfl) rfl ?_
      refine x_aload_n (pc' := 82) rfl rfl rfl ?_
      refine x_get (pc' := 85) rfl rfl rfl (hM2.1) rfl ?_
      refine x_iload (pc' := 87) rfl rfl rfl ?_
      refine x_iconst (pc' := 88) rfl rfl iconst_1 ?_
      refine x_iastore (pc' := 89) rfl rfl (hM2.2.1 5 (by decide)) (vp_in_nI (n := b) (N := 12) (by omega) (by decide)) (fun f2 e2 => ?_)
      have hM3 := hM2.arr 5 (by decide) e2
      have hF3 := (hF1.trans hF2).trans (r_fr0 e2 (by decide))
      rw [x_ua_ua] at hM3
      have e35 : upd (upd (M0.2.1 5) (nI b).toNatClampNeg 0) (nI b).toNatClampNeg 1 = fun i => nI (q_up (a_rf A) b 1 i) := by rw [hcl, u_uu, b8]; exact q_up_I _ _ _
      refine x_aload_n (pc' := 90) rfl rfl rfl ?_
      refine x_iload_n (pc' := 91) rfl rfl rfl ?_
      refine x_cV1i (d := 3) (pc' := 94) rfl rfl sX6_212 gX6_waysOf (hM3.1) ⟨Nat.le_of_ble_eq_true rfl, Nat.le_of_ble_eq_true rfl⟩ (Nat.le_of_ble_eq_true rfl) ⟨Nat.le_of_ble_eq_true rfl, Nat.le_of_ble_eq_true rfl⟩ ?_
      refine m_waysOf (C := 99) (rw' := q_up (a_rf A) b 1) hn hM3 b1 ho.1 e35 (q_up_le hr9 (by decide)) (fun f4 W4 hM4 hF4 => ⟨_, rfl, ?_⟩)
      refine x_istore (pc' := 96) (lv' := [(6, _), (5, _), (4, _), (3, _), (2, _), (0, _), (1, _)]) rfl rfl (Nat.le_of_ble_eq_true rfl) rfl ?_
      refine x_aload_n (pc' := 97) rfl rfl rfl ?_
      refine x_get (pc' := 100) rfl rfl rfl (hM4.1) rfl ?_
      refine x_iload (pc' := 102) rfl rfl rfl ?_
      refine x_iconst (pc' := 103) rfl rfl iconst_2 ?_
      refine x_iastore (pc' := 104) rfl rfl (hM4.2.1 5 (by decide)) (vp_in_nI (n := b) (N := 12) (by omega) (by decide)) (fun f3 e3 => ?_)
      have hM5 := hM4.arr 5 (by decide) e3
      have hF5 := (hF3.trans hF4).trans (r_fr0 e3 (by decide))
      rw [x_ua_ua] at hM5
      have e55 : x_ua M0.2.1 5 (upd (upd (upd (M0.2.1 5) (nI b).toNatClampNeg 0) (nI b).toNatClampNeg 1) (nI b).toNatClampNeg 2) = M0.2.1 := by rw [hcl, u_uu, u_uu, u_id (show M0.2.1 5 b = 2 from by rw [b8]; show nI (a_rf A b) = 2; rw [d]; rfl), x_ua_id]
      have hM6 : x_Mdl z f3 (M0.1, M0.2.1, W4) := by rw [← e55]; exact hM5
      have hv : ∀ vv, q_neV (a_g A) (a_rf A) n b = vv → X E (x_rm 9 0 0) mX6_next (x_QM E z 0 0 post) 118 [(6, .int (q_cap (q_wy (a_g A) (q_up (a_rf A) b 1) (g_n (a_g A)) n))), (5, .int (q_cap (q_wy (a_g A) (q_up (a_rf A) b 0) (g_n (a_g A)) n))), (4, .int (nI b)), (3, .int s0.1), (2, .int s0.2), (0, .ref 59), (1, .int (nI n))] [.int vv] z f3 0 0 := by
        intro vv ev
        rw [ev] at eq1
        refine x_istore (pc' := 120) (lv' := [(7, _), (6, _), (5, _), (4, _), (3, _), (2, _), (0, _), (1, _)]) rfl rfl (Nat.le_of_ble_eq_true rfl) rfl ?_
        refine x_iload (pc' := 122) rfl rfl rfl ?_
        refine x_iload_n (pc' := 123) rfl rfl rfl ?_
        by_cases d8 : s0.1 < vv
        · rw [if_pos ⟨d, d8⟩] at eq1
          rw [eq1] at h9
          refine x_icmp_le (tgt := 132) (pc' := 126) rfl rfl rfl (fun q => absurd q (Int32.not_le.mpr d8)) (fun _ => ?_)
          refine x_iload (pc' := 128) rfl rfl rfl ?_
          refine x_istore_n (pc' := 129) (lv' := [(2, _), (7, _), (6, _), (5, _), (4, _), (3, _), (0, _), (1, _)]) rfl rfl (Nat.le_of_ble_eq_true rfl) rfl ?_
          refine x_iload (pc' := 131) rfl rfl rfl ?_
          refine x_istore_n (pc' := 132) (lv' := [(3, _), (2, _), (7, _), (6, _), (5, _), (4, _), (0, _), (1, _)]) rfl rfl (Nat.le_of_ble_eq_true rfl) rfl ?_
          refine x_iinc (pc' := 135) (lv' := [(4, _), (3, _), (2, _), (7, _), (6, _), (5, _), (0, _), (1, _)]) rfl rfl (Nat.le_of_ble_eq_true rfl) rfl (nI_1 b) rfl ?_
          refine x_goto (tgt := 46) rfl rfl ?_
          refine x_lvp [0, 1, 2, 6, 7] rfl ?_
          exact h9 _ _ hM6 hF5
        · rw [if_neg (fun q => d8 q.2)] at eq1
          rw [eq1] at h9
          refine x_icmp_le (tgt := 132) (pc' := 126) rfl rfl rfl (fun _ => ?_) (fun q => absurd (Int32.not_lt.mp d8) q)
          refine x_iinc (pc' := 135) (lv' := [(4, _), (7, _), (6, _), (5, _), (3, _), (2, _), (0, _), (1, _)]) rfl rfl (Nat.le_of_ble_eq_true rfl) rfl (nI_1 b) rfl ?_
          refine x_goto (tgt := 46) rfl rfl ?_
          refine x_lvp [0, 4, 5, 6, 7] rfl ?_
          exact h9 _ _ hM6 hF5
      refine x_iload (pc' := 106) rfl rfl rfl ?_
      refine x_iload (pc' := 108) rfl rfl rfl ?_
      refine x_icmp_ge (tgt := 116) (pc' := 111) rfl rfl rfl (fun c108 => ?_) (fun c108 => ?_)
      · refine x_iload (pc' := 118) rfl rfl rfl ?_
        exact hv _ (if_neg (Int32.not_lt.mpr c108))
      · refine x_iload (pc' := 113) rfl rfl rfl ?_
        refine x_goto (tgt := 118) rfl rfl ?_
        exact hv _ (if_pos (Int32.not_le.mp c108))
    · rw [if_neg (fun q => d q.1)] at eq1
      rw [eq1] at h9
      refine x_icmp_ne (tgt := 132) (pc' := 66) rfl rfl rfl (fun _ => ?_) (fun q => absurd ((nI_eq (b := 2) (by omega) (by decide)).mp q) d)
      refine x_iinc (pc' := 135) (lv' := [(4, _), (3, _), (2, _), (0, _), (1, _)]) rfl rfl (Nat.le_of_ble_eq_true rfl) rfl (nI_1 b) rfl ?_
      refine x_goto (tgt := 46) rfl rfl ?_
      exact h9 f W hM hF
theorem r_next (hM : x_Mdl z f M) (hA : r_is M A) (ho : a_ok A) (h : r_ends z f post (s_neR A a)) : Y E 9 mX6_next [.ref 59, .int a] z f 0 0 post := by
  refine Y.intro gX6_next (lv := [(0, .ref 59), (1, .int a)]) rfl (Nat.le_of_ble_eq_true rfl) ?_
  refine x_iload_n (pc' := 1) rfl rfl rfl ?_
  refine x_if_ge (tgt := 11) (pc' := 4) rfl rfl rfl (fun c1 => ?_) (fun c1 => ?_)
  · have d1 : ¬ a < 0 := Int32.not_lt.mpr c1
    refine x_iload_n (pc' := 12) rfl rfl rfl ?_
    refine x_bipush (pc' := 14) rfl rfl bipush_40 ?_
    refine x_icmp_le (tgt := 24) (pc' := 17) rfl rfl rfl (fun c14 => ?_) (fun c14 => ?_)
    · have d2 : ¬ 40 < a := Int32.not_lt.mpr c14
      rw [show s_neR A a = _ from (if_neg d1).trans (if_neg d2)] at h
      refine x_aload_n (pc' := 25) rfl rfl rfl ?_
      refine x_cV0i (d := 1) (pc' := 28) rfl rfl sX6_208 gX6_isRow (hM.1) ⟨Nat.le_of_ble_eq_true rfl, Nat.le_of_ble_eq_true rfl⟩ (Nat.le_of_ble_eq_true rfl) ⟨Nat.le_of_ble_eq_true rfl, Nat.le_of_ble_eq_true rfl⟩ ?_
      refine m_isR hM hA ho (fun d3 => ⟨_, rfl, ?_⟩) (fun d3 => ⟨_, rfl, ?_⟩)
      · rw [if_pos d3] at h
        obtain ⟨n, hn, rfl⟩ := nI_of2 (n := 40) (M := 40) rfl d1 (Int32.not_lt.mp d2)
        rw [nI_clamp (by omega)] at h
        refine x_if_ne (tgt := 38) (pc' := 31) rfl rfl rfl (fun _ => ?_) (fun c28 => absurd c28 ((by decide)))
        refine x_bipush (pc' := 40) rfl rfl bipush_m9 ?_
        refine x_istore_n (pc' := 41) (lv' := [(2, _), (0, _), (1, _)]) rfl rfl (Nat.le_of_ble_eq_true rfl) rfl ?_
        refine x_iconst (pc' := 42) rfl rfl iconst_m1 ?_
        refine x_istore_n (pc' := 43) (lv' := [(3, _), (2, _), (0, _), (1, _)]) rfl rfl (Nat.le_of_ble_eq_true rfl) rfl ?_
        refine x_iconst (pc' := 44) rfl rfl iconst_0 ?_
        refine x_istore (pc' := 46) (lv' := [(4, _), (3, _), (2, _), (0, _), (1, _)]) rfl rfl (Nat.le_of_ble_eq_true rfl) rfl ?_
        exact r_neL hn ho f M hA h (g_n (a_g A)) 0 f M.2.2 (by omega) hM x_fr.rf
      · rw [if_neg d3] at h
        refine x_if_ne (tgt := 38) (pc' := 31) rfl rfl rfl (fun c28 => absurd (rfl) c28) (fun _ => ?_)
        refine x_aload_n (pc' := 32) rfl rfl rfl ?_
        refine x_bipush (pc' := 34) rfl rfl bipush_m3 ?_
        refine x_cV1i (d := 1) (pc' := 37) rfl rfl sX6_110 gX6_refuse (hM.1) ⟨Nat.le_of_ble_eq_true rfl, Nat.le_of_ble_eq_true rfl⟩ (Nat.le_of_ble_eq_true rfl) ⟨Nat.le_of_ble_eq_true rfl, Nat.le_of_ble_eq_true rfl⟩ ?_
        refine r_refuse (k := 2) (by decide) (by decide) hM hA (fun f1 M1 hM1 hA1 hF1 => ⟨_, rfl, ?_⟩)
        exact x_ireturn rfl rfl rfl (Nat.le_of_ble_eq_true rfl) (Nat.le_of_ble_eq_true rfl) (h _ _ hM1 hA1 hF1)
    · rw [show s_neR A a = _ from (if_neg d1).trans (if_pos (Int32.not_le.mp c14))] at h
      refine x_aload_n (pc' := 18) rfl rfl rfl ?_
      refine x_bipush (pc' := 20) rfl rfl bipush_m6 ?_
      refine x_cV1i (d := 1) (pc' := 23) rfl rfl sX6_110 gX6_refuse (hM.1) ⟨Nat.le_of_ble_eq_true rfl, Nat.le_of_ble_eq_true rfl⟩ (Nat.le_of_ble_eq_true rfl) ⟨Nat.le_of_ble_eq_true rfl, Nat.le_of_ble_eq_true rfl⟩ ?_
      refine r_refuse (k := 5) (by decide) (by decide) hM hA (fun f1 M1 hM1 hA1 hF1 => ⟨_, rfl, ?_⟩)
      exact x_ireturn rfl rfl rfl (Nat.le_of_ble_eq_true rfl) (Nat.le_of_ble_eq_true rfl) (h _ _ hM1 hA1 hF1)
  · rw [show s_neR A a = _ from if_pos (Int32.not_le.mp c1)] at h
    refine x_aload_n (pc' := 5) rfl rfl rfl ?_
    refine x_bipush (pc' := 7) rfl rfl bipush_m4 ?_
    refine x_cV1i (d := 1) (pc' := 10) rfl rfl sX6_110 gX6_refuse (hM.1) ⟨Nat.le_of_ble_eq_true rfl, Nat.le_of_ble_eq_true rfl⟩ (Nat.le_of_ble_eq_true rfl) ⟨Nat.le_of_ble_eq_true rfl, Nat.le_of_ble_eq_true rfl⟩ ?_
    refine r_refuse (k := 3) (by decide) (by decide) hM hA (fun f1 M1 hM1 hA1 hF1 => ⟨_, rfl, ?_⟩)
    exact x_ireturn rfl rfl rfl (Nat.le_of_ble_eq_true rfl) (Nat.le_of_ble_eq_true rfl) (h _ _ hM1 hA1 hF1)
end WR
end
section
-- == 70.ahead
/-! The class thinks ahead. -/
def g_tk (g : q_G) (b : Nat) : Int32 := if q_tk1 (g_v g b).1 (g_π g (g_t g)) (g_v g b).2.2.2 = true then 1 else 0
def q_al (V : Nat → Int32 → Int32) (c : Nat → Bool) (en : Int32) : Nat → Nat → Int32 × Int32 → Int32 × Int32
  | 0, _, r => r
  | m + 1, b, r => if r.2 = -9 ∨ r.1 < en then (if c b = true ∧ (r.1 < V b r.1 ∨ r.2 = -9) then q_al V c en m (b + 1) (V b r.1, nI b) else q_al V c en m (b + 1) r) else r
def q_en (k : Nat) (hi : Int32) : Int32 := if nI (k + 2) / 2 < hi then nI (k + 2) / 2 else hi
def q_ab : Nat → q_G → Int32 → Int32 → Int32 × Int32
  | 0, _, _, _ => (0, -9)
  | k + 1, g, lo, hi => (if (q_al (fun b mo => g_tk g b - (q_ab k (g_mv g b) (g_tk g b - hi) (g_tk g b - mo)).1) (fun b => decide (g_can g b)) (q_en k hi) (g_n g) 0 (lo - 1, -9)).2 = -9 then 0 else (q_al (fun b mo => g_tk g b - (q_ab k (g_mv g b) (g_tk g b - hi) (g_tk g b - mo)).1) (fun b => decide (g_can g b)) (q_en k hi) (g_n g) 0 (lo - 1, -9)).1, (q_al (fun b mo => g_tk g b - (q_ab k (g_mv g b) (g_tk g b - hi) (g_tk g b - mo)).1) (fun b => decide (g_can g b)) (q_en k hi) (g_n g) 0 (lo - 1, -9)).2)
abbrev q_aV (k : Nat) (g : q_G) (hi : Int32) : Nat → Int32 → Int32 := fun b mo => g_tk g b - (q_ab k (g_mv g b) (g_tk g b - hi) (g_tk g b - mo)).1
/-- what stays while the class thinks from a line on -/
def c_ln (S S' : x_S) (i : Nat) : Prop := S'.1 = S.1 ∧ (∀ j, j ≤ 6 + i → S'.2.1 j = S.2.1 j) ∧ (∀ j, j ≠ 1 → S'.2.2.1 j = S.2.2.1 j) ∧ (∀ j, j < i → S'.2.2.1 1 j = S.2.2.1 1 j) ∧ S'.2.2.2 = S.2.2.2
theorem c_ln.rf {S : x_S} {i : Nat} : c_ln S S i := ⟨rfl, fun _ _ => rfl, fun _ _ => rfl, fun _ _ => rfl, rfl⟩
theorem c_ln.trans {S S1 S2 : x_S} {i j : Nat} (h : c_ln S S1 i) (h2 : c_ln S1 S2 j) (hj : i ≤ j) : c_ln S S2 i := ⟨h2.1.trans h.1, fun t ht => (h2.2.1 t (by omega)).trans (h.2.1 t ht), fun t ht => (h2.2.2.1 t ht).trans (h.2.2.1 t ht), fun t ht => (h2.2.2.2.1 t (by omega)).trans (h.2.2.2.1 t ht), h2.2.2.2.2.trans h.2.2.2.2⟩
theorem c_ln.tab {S : x_S} {i : Nat} (T : x_T) : c_ln S (S.1, x_ut S.2.1 (7 + i) T, S.2.2.1, S.2.2.2) i := ⟨rfl, fun j hj => if_neg (by omega), fun _ _ => rfl, fun _ _ => rfl, rfl⟩
theorem c_ln.arr {S : x_S} {i : Nat} (v : Int32) : c_ln S (S.1, S.2.1, x_ua S.2.2.1 1 (upd (S.2.2.1 1) i v), S.2.2.2) i := ⟨rfl, fun _ _ => rfl, fun j hj => if_neg hj, fun j hj => (show upd (S.2.2.1 1) i v j = S.2.2.1 1 j from pk_un (by omega)), rfl⟩
theorem x_tp_l {i : Nat} (h : i < 5) : x_tp (6 + i) = 22 + 4 * i := by
  rcases (show i = 0 ∨ i = 1 ∨ i = 2 ∨ i = 3 ∨ i = 4 by omega) with rfl | rfl | rfl | rfl | rfl <;> rfl
theorem x_tp_m {i : Nat} (h : i < 4) : x_tp (7 + i) = 22 + 4 * (i + 1) := by
  rcases (show i = 0 ∨ i = 1 ∨ i = 2 ∨ i = 3 by omega) with rfl | rfl | rfl | rfl <;> rfl
theorem x_line_at {i : Nat} (h : i < 5) : x_line (nI i).toNatClampNeg = some (22 + 4 * i) := by
  rw [nI_clamp (by omega)]
  exact if_pos h
section AH
variable {E : x_E} {z : Nat} {f : x_H} {S S0 : x_S} {A : q_A} {post : Option Value → x_H → Prop} {g : q_G} {C : Nat} {a b : Int32}
theorem c_gaL {k i : Nat} {lo hi : Int32} (hik : i + k + 1 ≤ 4) (hC : 99 ≤ C) (hC2 : C ≤ 100) (hg : g_ok C g)
    (IH : ∀ (g : q_G) (lo hi : Int32) (f : x_H) (S : x_S) (post : Option Value → x_H → Prop), x_Sys z f S → t_is (S.2.1 (6 + (i + 1))) g → g_ok C g → (∀ (f' : x_H) (S' : x_S), x_Sys z f' S' → c_ln S S' (i + 1) → (k ≠ 0 → S'.2.2.1 1 (i + 1) = (q_ab k g lo hi).2) → x_fr (fun q => 59 ≤ q) f f' → post (some (.int (q_ab k g lo hi).1)) f') → Y E (k + 5) mX0_gainOf [.ref 20, .ref 21, .int (nI (i + 1)), .int (nI k), .int lo, .int hi] z f 0 0 post)
    (f0 : x_H) (S0 : x_S) (R : Int32 × Int32)
    (h : ∀ (f' : x_H) (S' : x_S), x_Sys z f' S' → c_ln S0 S' i → S'.2.2.1 1 i = R.2 → x_fr (fun q => 59 ≤ q) f0 f' → post (some (.int (if R.2 = -9 then 0 else R.1))) f') :
    ∀ (m b : Nat) (r : Int32 × Int32) (f : x_H) (S : x_S), b + m = g_n g → q_al (q_aV k g hi) (fun b => decide (g_can g b)) (q_en k hi) m b r = R → x_Sys z f S → t_is (S.2.1 (6 + i)) g → c_ln S0 S i → S.2.2.1 1 i = r.2 → x_fr (fun q => 59 ≤ q) f0 f → X E (x_rm (k + 6) 0 0) mX0_gainOf (x_QM E z 0 0 post) 62 [(10, .int (nI b)), (9, .int r.1), (8, .int (q_en k hi)), (7, .ref (22 + 4 * (i + 1))), (6, .ref (22 + 4 * i)), (0, .ref 20), (1, .ref 21), (2, .int (nI i)), (3, .int (nI (k + 1))), (4, .int lo), (5, .int hi)] [] z f 0 0 := by
  have hn9 := hg.1
  have e6 := x_tp_l (i := i) (by omega)
  have e7 := x_tp_m (i := i) (by omega)
  have fin : ∀ (v : Int32) (f : x_H) (S : x_S), x_Sys z f S → c_ln S0 S i → S.2.2.1 1 i = R.2 → x_fr (fun q => 59 ≤ q) f0 f → X E (x_rm (k + 6) 0 0) mX0_gainOf (x_QM E z 0 0 post) 174 [(10, .int v), (9, .int R.1), (8, .int (q_en k hi)), (7, .ref (22 + 4 * (i + 1))), (6, .ref (22 + 4 * i)), (0, .ref 20), (1, .ref 21), (2, .int (nI i)), (3, .int (nI (k + 1))), (4, .int lo), (5, .int hi)] [] z f 0 0 := by
    intro v f S hS hl hch hF
    have ec : S.2.2.1 1 (nI i).toNatClampNeg = R.2 := by rw [nI_clamp (by omega)]; exact hch
    have h9 := h f S hS hl hch hF
    refine x_aload_n (pc' := 175) rfl rfl rfl ?_
    refine x_iload_n (pc' := 176) rfl rfl rfl ?_
    refine x_iaload (pc' := 177) rfl rfl (hS.2.2.1 1 (by decide)) (vp_in_nI (n := i) (N := 5) (by omega) (by decide)) ?_
    refine x_eqi ec ?_
    refine x_bipush (pc' := 179) rfl rfl bipush_m9 ?_
    by_cases d : R.2 = -9
    · rw [if_pos d] at h9
      refine x_icmp_ne (tgt := 186) (pc' := 182) rfl rfl rfl (fun q => absurd d q) (fun _ => ?_)
      refine x_iconst (pc' := 183) rfl rfl iconst_0 ?_
      refine x_goto (tgt := 188) rfl rfl ?_
      exact x_ireturn rfl rfl rfl (Nat.le_of_ble_eq_true rfl) (Nat.le_of_ble_eq_true rfl) (h9)
    · rw [if_neg d] at h9
      refine x_icmp_ne (tgt := 186) (pc' := 182) rfl rfl rfl (fun _ => ?_) (fun q => absurd q d)
      refine x_iload (pc' := 188) rfl rfl rfl ?_
      exact x_ireturn rfl rfl rfl (Nat.le_of_ble_eq_true rfl) (Nat.le_of_ble_eq_true rfl) (h9)
  intro m
  induction m with
  | zero =>
    intro b r f S hb hR hS ht hl hch hF
    have hb2 : b = g_n g := by omega
    subst hb2
    have hR2 : r = R := hR
    subst hR2
    have hTi := hS.2.1 (6 + i) (by omega)
    rw [e6] at hTi
    refine x_iload (pc' := 64) rfl rfl rfl ?_
    refine x_aload (pc' := 66) rfl rfl rfl ?_
    refine x_get (pc' := 69) rfl rfl rfl (hTi.1) rfl ?_
    refine x_eqi ht.2.2.2.1 ?_
    refine x_icmp_ge (tgt := 174) (pc' := 72) rfl rfl rfl (fun _ => ?_) (fun c69 => absurd ((Int32.le_refl _)) c69)
    exact fin _ f S hS hl hch hF
  | succ m ih =>
    intro b r f S hb hR hS ht hl hch hF
    replace hR : (if r.2 = -9 ∨ r.1 < q_en k hi then (if decide (g_can g b) = true ∧ (r.1 < q_aV k g hi b r.1 ∨ r.2 = -9) then q_al (q_aV k g hi) (fun b => decide (g_can g b)) (q_en k hi) m (b + 1) (q_aV k g hi b r.1, nI b) else q_al (q_aV k g hi) (fun b => decide (g_can g b)) (q_en k hi) m (b + 1) r) else r) = R := hR
    have hTi := hS.2.1 (6 + i) (by omega)
    rw [e6] at hTi
    have hTo := hS.2.1 (7 + i) (by omega)
    rw [e7] at hTo
    have hcl : (nI i).toNatClampNeg = i := nI_clamp (by omega)
    have ec : S.2.2.1 1 (nI i).toNatClampNeg = r.2 := by rw [hcl]; exact hch
    refine x_iload (pc' := 64) rfl rfl rfl ?_
    refine x_aload (pc' := 66) rfl rfl rfl ?_
    refine x_get (pc' := 69) rfl rfl rfl (hTi.1) rfl ?_
    refine x_eqi ht.2.2.2.1 ?_
    refine x_icmp_ge (tgt := 174) (pc' := 72) rfl rfl rfl (fun c69 => absurd c69 ((nI_ge (by omega) (by omega)))) (fun _ => ?_)
    refine x_aload_n (pc' := 73) rfl rfl rfl ?_
    refine x_iload_n (pc' := 74) rfl rfl rfl ?_
    refine x_iaload (pc' := 75) rfl rfl (hS.2.2.1 1 (by decide)) (vp_in_nI (n := i) (N := 5) (by omega) (by decide)) ?_
    refine x_eqi ec ?_
    refine x_bipush (pc' := 77) rfl rfl bipush_m9 ?_
    by_cases d0 : r.2 = -9 ∨ r.1 < q_en k hi
    · rw [if_pos d0] at hR
      have K87 : X E (x_rm (k + 6) 0 0) mX0_gainOf (x_QM E z 0 0 post) 87 [(10, .int (nI b)), (9, .int r.1), (8, .int (q_en k hi)), (7, .ref (22 + 4 * (i + 1))), (6, .ref (22 + 4 * i)), (0, .ref 20), (1, .ref 21), (2, .int (nI i)), (3, .int (nI (k + 1))), (4, .int lo), (5, .int hi)] [] z f 0 0 := by
        refine x_aload (pc' := 89) rfl rfl rfl ?_
        refine x_iload (pc' := 91) rfl rfl rfl ?_
        refine x_cV1i (d := 2) (pc' := 94) rfl rfl sX0_44 gX3_canMove (hTi.1) (x_room (by omega) (Nat.le_of_ble_eq_true rfl)) (Nat.le_of_ble_eq_true rfl) ⟨Nat.le_of_ble_eq_true rfl, Nat.le_of_ble_eq_true rfl⟩ ?_
        refine w_can hTi ht hg hC2 (by omega) (fun d2 => ⟨_, rfl, ?_⟩) (fun d2 => ⟨_, rfl, ?_⟩)
        · refine x_if_eq (tgt := 168) (pc' := 97) rfl rfl rfl (fun c94 => absurd c94 ((by decide))) (fun _ => ?_)
          refine x_aload (pc' := 99) rfl rfl rfl ?_
          refine x_aload (pc' := 101) rfl rfl rfl ?_
          refine x_cV1v (d := 1) (pc' := 104) rfl rfl sX0_22 gX3_copyFrom (hTo.1) (x_room (by omega) (Nat.le_of_ble_eq_true rfl)) (Nat.le_of_ble_eq_true rfl) ⟨Nat.le_of_ble_eq_true rfl, Nat.le_of_ble_eq_true rfl⟩ ?_
          refine w_copyFrom hTo hTi (by omega) (fun f1 hT1 hF1 => ⟨rfl, ?_⟩)
          have hS1 := hS.tab (7 + i) (by omega) (by rw [e7]; exact hT1) (by rw [e7]; exact hF1)
          refine x_aload (pc' := 106) rfl rfl rfl ?_
          refine x_iload (pc' := 108) rfl rfl rfl ?_
          refine x_cV1v (d := 4) (pc' := 111) rfl rfl sX0_48 gX3_makeMove (hT1.1) (x_room (by omega) (Nat.le_of_ble_eq_true rfl)) (Nat.le_of_ble_eq_true rfl) ⟨Nat.le_of_ble_eq_true rfl, Nat.le_of_ble_eq_true rfl⟩ ?_
          refine w_move hT1 (x_cp_is ht) hg hC2 d2.2.1 (fun f2 T2 hT2 g2 u4 u5 u6 u7 u8 hF2 => ⟨rfl, ?_⟩)
          have hS2 := hS1.tab (7 + i) (by omega) (by rw [e7]; exact hT2) (by rw [e7]; exact hF2)
          have ok2 := g_mv_ok hg hC hC2 d2.2.1
          rw [x_ut_ut] at hS2
          have hF12 : x_fr (fun q => 59 ≤ q) f f2 := (c_fr0 (j := 7 + i) (by omega) (by rw [e7]; exact hF1)).trans (c_fr0 (j := 7 + i) (by omega) (by rw [e7]; exact hF2))
          refine x_aload (pc' := 113) rfl rfl rfl ?_
          refine x_get (pc' := 116) rfl rfl rfl (hT2.1) rfl ?_
          refine x_eqi (show T2.2.2.2 8 = g_tk g b from u8) ?_
          refine x_istore (pc' := 118) (lv' := [(11, _), (10, _), (9, _), (8, _), (7, _), (6, _), (0, _), (1, _), (2, _), (3, _), (4, _), (5, _)]) rfl rfl (Nat.le_of_ble_eq_true rfl) rfl ?_
          refine x_iload (pc' := 120) rfl rfl rfl ?_
          refine x_aload_n (pc' := 121) rfl rfl rfl ?_
          refine x_aload_n (pc' := 122) rfl rfl rfl ?_
          refine x_iload_n (pc' := 123) rfl rfl rfl ?_
          refine x_iconst (pc' := 124) rfl rfl iconst_1 ?_
          refine x_iadd (pc' := 125) rfl rfl ?_
          refine x_eqi (nI_1 i) ?_
          refine x_iload_n (pc' := 126) rfl rfl rfl ?_
          refine x_iconst (pc' := 127) rfl rfl iconst_1 ?_
          refine x_isub (pc' := 128) rfl rfl ?_
          refine x_eqi (nI_pred k) ?_
          refine x_iload (pc' := 130) rfl rfl rfl ?_
          refine x_iload (pc' := 132) rfl rfl rfl ?_
          refine x_isub (pc' := 133) rfl rfl ?_
          refine x_iload (pc' := 135) rfl rfl rfl ?_
          refine x_iload (pc' := 137) rfl rfl rfl ?_
          refine x_isub (pc' := 138) rfl rfl ?_
          refine x_cS6i (d := (k + 5)) (pc' := 141) rfl rfl sX0_26 gX0_gainOf (x_room (by omega) (Nat.le_of_ble_eq_true rfl)) (Nat.le_of_ble_eq_true rfl) ⟨Nat.le_of_ble_eq_true rfl, Nat.le_of_ble_eq_true rfl⟩ ?_
          refine IH (g_mv g b) _ _ f2 (S.1, x_ut S.2.1 (7 + i) T2, S.2.2.1, S.2.2.2) _ hS2 (by rw [show 6 + (i + 1) = 7 + i by omega]; show t_is (if 7 + i = 7 + i then T2 else _) _; rw [if_pos rfl]; exact g2) ok2 (fun f3 S3 hS3 l3 c3 hF3 => ⟨_, rfl, ?_⟩)
          have l03 : c_ln S0 S3 i := (hl.trans (c_ln.tab T2) (Nat.le_refl i)).trans l3 (by omega)
          have l13 : c_ln S S3 i := (c_ln.tab T2).trans l3 (by omega)
          have hF03 := (hF.trans hF12).trans hF3
          have ch3 : S3.2.2.1 1 i = r.2 := (l3.2.2.2.1 i (by omega)).trans hch
          have ht3 : t_is (S3.2.1 (6 + i)) g := by rw [l13.2.1 (6 + i) (Nat.le_refl _)]; exact ht
          refine x_isub (pc' := 142) rfl rfl ?_
          refine x_eqi (show _ = q_aV k g hi b r.1 from rfl) ?_
          refine x_istore (pc' := 144) (lv' := [(12, _), (11, _), (10, _), (9, _), (8, _), (7, _), (6, _), (0, _), (1, _), (2, _), (3, _), (4, _), (5, _)]) rfl rfl (Nat.le_of_ble_eq_true rfl) rfl ?_
          refine x_iload (pc' := 146) rfl rfl rfl ?_
          refine x_iload (pc' := 148) rfl rfl rfl ?_
          by_cases d3 : r.1 < q_aV k g hi b r.1 ∨ r.2 = -9
          · rw [if_pos ⟨decide_eq_true d2, d3⟩] at hR
            have K159 : X E (x_rm (k + 6) 0 0) mX0_gainOf (x_QM E z 0 0 post) 159 [(12, .int (q_aV k g hi b r.1)), (11, .int (g_tk g b)), (10, .int (nI b)), (9, .int r.1), (8, .int (q_en k hi)), (7, .ref (22 + 4 * (i + 1))), (6, .ref (22 + 4 * i)), (0, .ref 20), (1, .ref 21), (2, .int (nI i)), (3, .int (nI (k + 1))), (4, .int lo), (5, .int hi)] [] z f3 0 0 := by
              refine x_iload (pc' := 161) rfl rfl rfl ?_
              refine x_istore (pc' := 163) (lv' := [(9, _), (12, _), (11, _), (10, _), (8, _), (7, _), (6, _), (0, _), (1, _), (2, _), (3, _), (4, _), (5, _)]) rfl rfl (Nat.le_of_ble_eq_true rfl) rfl ?_
              refine x_aload_n (pc' := 164) rfl rfl rfl ?_
              refine x_iload_n (pc' := 165) rfl rfl rfl ?_
              refine x_iload (pc' := 167) rfl rfl rfl ?_
              refine x_iastore (pc' := 168) rfl rfl (hS3.2.2.1 1 (by decide)) (vp_in_nI (n := i) (N := 5) (by omega) (by decide)) (fun f1 e1 => ?_)
              have hS4 := hS3.arr 1 (by decide) e1
              have hF4 : x_fr (fun q => 59 ≤ q) f3 f1 := (x_fr.rf (P := fun q => 59 ≤ q)).up e1 (by decide)
              rw [hcl] at hS4
              refine x_iinc (pc' := 171) (lv' := [(10, _), (9, _), (12, _), (11, _), (8, _), (7, _), (6, _), (0, _), (1, _), (2, _), (3, _), (4, _), (5, _)]) rfl rfl (Nat.le_of_ble_eq_true rfl) rfl (nI_1 b) rfl ?_
              refine x_goto (tgt := 62) rfl rfl ?_
              refine x_lvp [0, 1, 4, 5, 6, 7, 8, 9, 10, 11, 12] rfl ?_
              exact ih (b + 1) (q_aV k g hi b r.1, nI b) _ (S3.1, S3.2.1, x_ua S3.2.2.1 1 (upd (S3.2.2.1 1) i (nI b)), S3.2.2.2) (by omega) hR hS4 ht3 (l03.trans (c_ln.arr (nI b)) (Nat.le_refl i)) pk_us (hF03.trans hF4)
            refine x_icmp_gt (tgt := 159) (pc' := 151) rfl rfl rfl (fun q => K159) (fun q => ?_)
            refine x_aload_n (pc' := 152) rfl rfl rfl ?_
            refine x_iload_n (pc' := 153) rfl rfl rfl ?_
            refine x_iaload (pc' := 154) rfl rfl (hS3.2.2.1 1 (by decide)) (vp_in_nI (n := i) (N := 5) (by omega) (by decide)) ?_
            refine x_eqi (show S3.2.2.1 1 (nI i).toNatClampNeg = r.2 from by rw [hcl]; exact ch3) ?_
            refine x_bipush (pc' := 156) rfl rfl bipush_m9 ?_
            refine x_icmp_ne (tgt := 168) (pc' := 159) rfl rfl rfl (fun c156 => absurd ((d3.resolve_left q)) c156) (fun _ => ?_)
            exact K159
          · rw [if_neg (fun q => d3 q.2)] at hR
            refine x_icmp_gt (tgt := 159) (pc' := 151) rfl rfl rfl (fun q => absurd (Or.inl q) d3) (fun q => ?_)
            refine x_aload_n (pc' := 152) rfl rfl rfl ?_
            refine x_iload_n (pc' := 153) rfl rfl rfl ?_
            refine x_iaload (pc' := 154) rfl rfl (hS3.2.2.1 1 (by decide)) (vp_in_nI (n := i) (N := 5) (by omega) (by decide)) ?_
            refine x_eqi (show S3.2.2.1 1 (nI i).toNatClampNeg = r.2 from by rw [hcl]; exact ch3) ?_
            refine x_bipush (pc' := 156) rfl rfl bipush_m9 ?_
            refine x_icmp_ne (tgt := 168) (pc' := 159) rfl rfl rfl (fun _ => ?_) (fun c156 => absurd c156 ((fun q => d3 (Or.inr q))))
            refine x_iinc (pc' := 171) (lv' := [(10, _), (12, _), (11, _), (9, _), (8, _), (7, _), (6, _), (0, _), (1, _), (2, _), (3, _), (4, _), (5, _)]) rfl rfl (Nat.le_of_ble_eq_true rfl) rfl (nI_1 b) rfl ?_
            refine x_goto (tgt := 62) rfl rfl ?_
            refine x_lvp [0, 3, 4, 5, 6, 7, 8, 9, 10, 11, 12] rfl ?_
            exact ih (b + 1) r f3 S3 (by omega) hR hS3 ht3 l03 ch3 hF03
        · rw [if_neg (fun q => d2 (of_decide_eq_true q.1))] at hR
          refine x_if_eq (tgt := 168) (pc' := 97) rfl rfl rfl (fun _ => ?_) (fun c94 => absurd (rfl) c94)
          refine x_iinc (pc' := 171) (lv' := [(10, _), (9, _), (8, _), (7, _), (6, _), (0, _), (1, _), (2, _), (3, _), (4, _), (5, _)]) rfl rfl (Nat.le_of_ble_eq_true rfl) rfl (nI_1 b) rfl ?_
          refine x_goto (tgt := 62) rfl rfl ?_
          exact ih (b + 1) r f S (by omega) hR hS ht hl hch hF
      refine x_icmp_eq (tgt := 87) (pc' := 80) rfl rfl rfl (fun q => K87) (fun q => ?_)
      have d1 := d0.resolve_left q
      refine x_iload (pc' := 82) rfl rfl rfl ?_
      refine x_iload (pc' := 84) rfl rfl rfl ?_
      refine x_icmp_ge (tgt := 174) (pc' := 87) rfl rfl rfl (fun c84 => absurd c84 ((Int32.not_le.mpr d1))) (fun _ => ?_)
      exact K87
    · rw [if_neg d0] at hR
      subst hR
      refine x_icmp_eq (tgt := 87) (pc' := 80) rfl rfl rfl (fun q => absurd (Or.inl q) d0) (fun q => ?_)
      refine x_iload (pc' := 82) rfl rfl rfl ?_
      refine x_iload (pc' := 84) rfl rfl rfl ?_
      refine x_icmp_ge (tgt := 174) (pc' := 87) rfl rfl rfl (fun _ => ?_) (fun c84 => absurd ((Int32.not_lt.mp (fun q => d0 (Or.inr q)))) c84)
      exact fin _ f S hS hl hch hF
theorem c_gainOf (hC : 99 ≤ C) (hC2 : C ≤ 100) : ∀ (k i : Nat) (g : q_G) (lo hi : Int32) (f : x_H) (S : x_S) (post : Option Value → x_H → Prop), i + k ≤ 4 → x_Sys z f S → t_is (S.2.1 (6 + i)) g → g_ok C g → (∀ (f' : x_H) (S' : x_S), x_Sys z f' S' → c_ln S S' i → (k ≠ 0 → S'.2.2.1 1 i = (q_ab k g lo hi).2) → x_fr (fun q => 59 ≤ q) f f' → post (some (.int (q_ab k g lo hi).1)) f') → Y E (k + 5) mX0_gainOf [.ref 20, .ref 21, .int (nI i), .int (nI k), .int lo, .int hi] z f 0 0 post := by
  intro k
  induction k with
  | zero =>
    intro i g lo hi f S post hik hS ht hg h
    refine Y.intro gX0_gainOf (lv := [(0, .ref 20), (1, .ref 21), (2, .int (nI i)), (3, .int (nI 0)), (4, .int lo), (5, .int hi)]) rfl (Nat.le_of_ble_eq_true rfl) ?_
    refine x_iload_n (pc' := 1) rfl rfl rfl ?_
    refine x_if_le (tgt := 22) (pc' := 4) rfl rfl rfl (fun _ => ?_) (fun c1 => absurd ((by decide : nI 0 ≤ 0)) c1)
    refine x_iconst (pc' := 23) rfl rfl iconst_0 ?_
    exact x_ireturn rfl rfl rfl (Nat.le_of_ble_eq_true rfl) (Nat.le_of_ble_eq_true rfl) (h _ _ hS c_ln.rf (fun q => absurd rfl q) x_fr.rf)
  | succ k IH =>
    intro i g lo hi f S post hik hS ht hg h
    have hcl : (nI i).toNatClampNeg = i := nI_clamp (by omega)
    refine Y.intro gX0_gainOf (lv := [(0, .ref 20), (1, .ref 21), (2, .int (nI i)), (3, .int (nI (k + 1))), (4, .int lo), (5, .int hi)]) rfl (Nat.le_of_ble_eq_true rfl) ?_
    refine x_iload_n (pc' := 1) rfl rfl rfl ?_
    refine x_if_le (tgt := 22) (pc' := 4) rfl rfl rfl (fun c1 => absurd c1 ((nI_nle (by omega) (by omega)))) (fun _ => ?_)
    refine x_iload_n (pc' := 5) rfl rfl rfl ?_
    refine x_if_lt (tgt := 22) (pc' := 8) rfl rfl rfl (fun c5 => absurd c5 ((nI_pos (by omega)))) (fun _ => ?_)
    refine x_iload_n (pc' := 9) rfl rfl rfl ?_
    refine x_iconst (pc' := 10) rfl rfl iconst_1 ?_
    refine x_iadd (pc' := 11) rfl rfl ?_
    refine x_eqi (nI_1 i) ?_
    refine x_aload_n (pc' := 12) rfl rfl rfl ?_
    refine x_alen (pc' := 13) rfl rfl (hS.li) ?_
    refine x_icmp_ge (tgt := 22) (pc' := 16) rfl rfl rfl (fun c13 => absurd c13 ((show ¬ nI 5 ≤ nI (i + 1) from nI_ge (by omega) (by decide)))) (fun _ => ?_)
    refine x_iload_n (pc' := 17) rfl rfl rfl ?_
    refine x_aload_n (pc' := 18) rfl rfl rfl ?_
    refine x_alen (pc' := 19) rfl rfl (hS.2.2.1 1 (by decide)) ?_
    refine x_icmp_lt (tgt := 24) (pc' := 22) rfl rfl rfl (fun _ => ?_) (fun c19 => absurd ((show nI i < nI 5 from nI_lt (by omega) (by decide))) c19)
    refine x_aload_n (pc' := 25) rfl rfl rfl ?_
    refine x_iload_n (pc' := 26) rfl rfl rfl ?_
    refine x_aaload (pc' := 27) rfl rfl (hS.li) (vp_in_nI (n := i) (N := 5) (by omega) (by decide)) (x_line_at (i := i) (by omega)) ?_
    refine x_astore (pc' := 29) (lv' := [(6, _), (0, _), (1, _), (2, _), (3, _), (4, _), (5, _)]) rfl rfl (Nat.le_of_ble_eq_true rfl) rfl ?_
    refine x_aload_n (pc' := 30) rfl rfl rfl ?_
    refine x_iload_n (pc' := 31) rfl rfl rfl ?_
    refine x_iconst (pc' := 32) rfl rfl iconst_1 ?_
    refine x_iadd (pc' := 33) rfl rfl ?_
    refine x_eqi (nI_1 i) ?_
    refine x_aaload (pc' := 34) rfl rfl (hS.li) (vp_in_nI (n := i + 1) (N := 5) (by omega) (by decide)) (x_line_at (i := i + 1) (by omega)) ?_
    refine x_astore (pc' := 36) (lv' := [(7, _), (6, _), (0, _), (1, _), (2, _), (3, _), (4, _), (5, _)]) rfl rfl (Nat.le_of_ble_eq_true rfl) rfl ?_
    refine x_iload (pc' := 38) rfl rfl rfl ?_
    refine x_iload_n (pc' := 39) rfl rfl rfl ?_
    refine x_iconst (pc' := 40) rfl rfl iconst_1 ?_
    refine x_iadd (pc' := 41) rfl rfl ?_
    refine x_eqi (nI_1 (k + 1)) ?_
    refine x_iconst (pc' := 42) rfl rfl iconst_2 ?_
    refine x_idiv (pc' := 43) rfl rfl (by decide) ?_
    refine x_mmin (pc' := 46) rfl rfl sX0_34 (x_room (by omega) (Nat.le_of_ble_eq_true rfl)) (Nat.le_of_ble_eq_true rfl) (Nat.le_of_ble_eq_true rfl) (Nat.le_of_ble_eq_true rfl) ?_
    refine x_istore (pc' := 48) (lv' := [(8, _), (7, _), (6, _), (0, _), (1, _), (2, _), (3, _), (4, _), (5, _)]) rfl rfl (Nat.le_of_ble_eq_true rfl) rfl ?_
    refine x_iload (pc' := 50) rfl rfl rfl ?_
    refine x_iconst (pc' := 51) rfl rfl iconst_1 ?_
    refine x_isub (pc' := 52) rfl rfl ?_
    refine x_istore (pc' := 54) (lv' := [(9, _), (8, _), (7, _), (6, _), (0, _), (1, _), (2, _), (3, _), (4, _), (5, _)]) rfl rfl (Nat.le_of_ble_eq_true rfl) rfl ?_
    refine x_aload_n (pc' := 55) rfl rfl rfl ?_
    refine x_iload_n (pc' := 56) rfl rfl rfl ?_
    refine x_bipush (pc' := 58) rfl rfl bipush_m9 ?_
    refine x_iastore (pc' := 59) rfl rfl (hS.2.2.1 1 (by decide)) (vp_in_nI (n := i) (N := 5) (by omega) (by decide)) (fun f1 e1 => ?_)
    have hS1 := hS.arr 1 (by decide) e1
    have hF1 : x_fr (fun q => 59 ≤ q) f f1 := (x_fr.rf (P := fun q => 59 ≤ q)).up e1 (by decide)
    rw [hcl] at hS1
    refine x_iconst (pc' := 60) rfl rfl iconst_0 ?_
    refine x_istore (pc' := 62) (lv' := [(10, _), (9, _), (8, _), (7, _), (6, _), (0, _), (1, _), (2, _), (3, _), (4, _), (5, _)]) rfl rfl (Nat.le_of_ble_eq_true rfl) rfl ?_
    exact c_gaL hik hC hC2 hg (fun g lo hi f S post a1 a2 a3 a4 => IH (i + 1) g lo hi f S post (by omega) a1 a2 a3 a4) f S _ (fun f' S' b1 b2 b3 b4 => h f' S' b1 b2 (fun _ => b3) b4) (g_n g) 0 (lo - 1, -9) _ (S.1, S.2.1, x_ua S.2.2.1 1 (upd (S.2.2.1 1) i (-9)), S.2.2.2) (by omega) rfl hS1 ht (c_ln.arr (-9)) pk_us hF1
end AH
end
section
-- == 71.classE
/-! The class: best, worth, price, sold, change, fair. -/
abbrev q_gI (n : Nat) (g : q_G) : Int32 := (q_ab n g (-nI n) (nI n)).1
def c_gf (S S' : x_S) : Prop := S'.1 = S.1 ∧ (∀ j, j ≤ 5 → S'.2.1 j = S.2.1 j) ∧ (∀ j, j ≠ 1 → S'.2.2.1 j = S.2.2.1 j) ∧ S'.2.2.2 = S.2.2.2
theorem c_gf.rf {S : x_S} : c_gf S S := ⟨rfl, fun _ _ => rfl, fun _ _ => rfl, rfl⟩
theorem c_gf.trans {S S1 S2 : x_S} (h : c_gf S S1) (h2 : c_gf S1 S2) : c_gf S S2 := ⟨h2.1.trans h.1, fun j hj => (h2.2.1 j hj).trans (h.2.1 j hj), fun j hj => (h2.2.2.1 j hj).trans (h.2.2.1 j hj), h2.2.2.2.trans h.2.2.2⟩
theorem c_gf.sc {S S' : x_S} (h : c_gf S S') : c_sc S S' := ⟨h.2.1 0 (by decide), h.2.1 1 (by decide), by rw [h.1], by rw [h.1], by rw [h.1], h.2.2.1 0 (by decide), h.2.2.1 5 (by decide), h.2.2.1 6 (by decide)⟩
def s_bestC (A : q_A) (a : Int32) : q_A × Int32 := if a < 1 then (s_no A 4, -4) else if 4 < a then (s_no A 6, -6) else (A, (q_ab a.toNatClampNeg (a_g A) (-nI a.toNatClampNeg) (nI a.toNatClampNeg)).2)
def s_worthC (A : q_A) (a : Int32) : q_A × Int32 := if a < 1 then (s_no A 4, 1000000000 - (-4)) else if 4 < a then (s_no A 6, 1000000000 - (-6)) else (A, q_gI a.toNatClampNeg (a_g A))
def s_priceC (A : q_A) (a : Int32) : q_A × Int32 := if q_in (g_n (a_g A)) a then (A, q_gI 2 (g_bm (a_g A) a.toNatClampNeg (g_β (a_g A) a.toNatClampNeg + 1)) - q_gI 2 (a_g A)) else (s_no A 1, 1000000000 - (-1))
def s_soldC (A : q_A) (a : Int32) : q_A × Int32 := if q_in (g_n (a_g A)) a then (if g_β (a_g A) a.toNatClampNeg = 0 then (s_no A 3, 1000000000 - (-3)) else (A, q_gI 2 (g_bm (a_g A) a.toNatClampNeg (g_β (a_g A) a.toNatClampNeg - 1)) - q_gI 2 (a_g A))) else (s_no A 1, 1000000000 - (-1))
section CE
variable {E : x_E} {z : Nat} {f : x_H} {S S0 : x_S} {A : q_A} {post : Option Value → x_H → Prop} {g : q_G} {C : Nat} {a b : Int32}
theorem c_gainFor {n j : Nat} (hn : n ≤ 4) (hC : 99 ≤ C) (hC2 : C ≤ 100) (hj : j ≤ 5) (hS : x_Sys z f S) (ht : t_is (S.2.1 j) g) (hg : g_ok C g) (h : ∀ (f' : x_H) (S' : x_S), x_Sys z f' S' → c_gf S S' → (n ≠ 0 → S'.2.2.1 1 0 = (q_ab n g (-nI n) (nI n)).2) → x_fr (fun q => 59 ≤ q) f f' → post (some (.int (q_gI n g))) f') : Y E 10 mX0_gainFor [.ref 19, .ref (x_tp j), .int (nI n)] z f 0 0 post := by
  refine Y.intro gX0_gainFor (lv := [(0, .ref 19), (1, .ref (x_tp j)), (2, .int (nI n))]) rfl (Nat.le_of_ble_eq_true rfl) ?_
  have hT6 : x_t z f 22 (S.2.1 6) := hS.2.1 6 (by decide)
  refine x_aload_n (pc' := 1) rfl rfl rfl ?_
  refine x_get (pc' := 4) rfl rfl rfl (hS.ah) rfl ?_
  refine x_iconst (pc' := 5) rfl rfl iconst_0 ?_
  refine x_aaload (pc' := 6) rfl rfl (hS.li) (vp_in_nI (n := 0) (N := 5) (by decide) (by decide)) ((rfl : x_line (Int32.toNatClampNeg 0) = some 22)) ?_
  refine x_aload_n (pc' := 7) rfl rfl rfl ?_
  refine x_cV1v (d := 1) (pc' := 10) rfl rfl sX0_22 gX3_copyFrom (hT6.1) (x_room (by omega) (Nat.le_of_ble_eq_true rfl)) (Nat.le_of_ble_eq_true rfl) ⟨Nat.le_of_ble_eq_true rfl, Nat.le_of_ble_eq_true rfl⟩ ?_
  refine w_copyFrom hT6 (hS.2.1 j (by omega)) (((x_pos3 6 (by decide)).1 j (by omega) (by omega)).symm) (fun f1 hT1 hF1 => ⟨rfl, ?_⟩)
  have hS1 := hS.tab 6 (by decide) hT1 hF1
  refine x_aload_n (pc' := 11) rfl rfl rfl ?_
  refine x_get (pc' := 14) rfl rfl rfl (hS1.ah) rfl ?_
  refine x_aload_n (pc' := 15) rfl rfl rfl ?_
  refine x_get (pc' := 18) rfl rfl rfl (hS1.ah) rfl ?_
  refine x_iconst (pc' := 19) rfl rfl iconst_0 ?_
  refine x_iload_n (pc' := 20) rfl rfl rfl ?_
  refine x_iload_n (pc' := 21) rfl rfl rfl ?_
  refine x_ineg (pc' := 22) rfl rfl ?_
  refine x_iload_n (pc' := 23) rfl rfl rfl ?_
  refine x_cS6i (d := (n + 5)) (pc' := 26) rfl rfl sX0_26 gX0_gainOf (x_room (by omega) (Nat.le_of_ble_eq_true rfl)) (Nat.le_of_ble_eq_true rfl) ⟨Nat.le_of_ble_eq_true rfl, Nat.le_of_ble_eq_true rfl⟩ ?_
  refine c_gainOf hC hC2 n 0 g (-nI n) (nI n) f1 _ _ (by omega) hS1 (x_cp_is ht) hg (fun f2 S2 hS2 l2 ch2 hF2 => ⟨_, rfl, ?_⟩)
  exact x_ireturn rfl rfl rfl (Nat.le_of_ble_eq_true rfl) (Nat.le_of_ble_eq_true rfl) ((h _ _ hS2 ⟨l2.1, fun i hi => (l2.2.1 i (by omega)).trans (if_neg (by omega)), l2.2.2.1, l2.2.2.2.2⟩ ch2 ((c_fr0 (j := 6) (by decide) hF1).trans hF2)))
theorem c_bowlFor {n : Nat} (hn : n ≤ 4) (h1 : 1 ≤ n) (hS : x_Sys z f S) (ht : t_is (S.2.1 0) g) (hg : g_ok 99 g) (h : ∀ (f' : x_H) (S' : x_S), x_Sys z f' S' → c_gf S S' → x_fr (fun q => 59 ≤ q) f f' → post (some (.int (q_ab n g (-nI n) (nI n)).2)) f') : Y E 11 mX0_bowlFor [.ref 19, .ref 1, .int (nI n)] z f 0 0 post := by
  refine Y.intro gX0_bowlFor (lv := [(0, .ref 19), (1, .ref 1), (2, .int (nI n))]) rfl (Nat.le_of_ble_eq_true rfl) ?_
  refine x_aload_n (pc' := 1) rfl rfl rfl ?_
  refine x_aload_n (pc' := 2) rfl rfl rfl ?_
  refine x_iload_n (pc' := 3) rfl rfl rfl ?_
  refine x_cV2i (d := 10) (pc' := 6) rfl rfl sX0_30 gX0_gainFor (hS.ah) ⟨Nat.le_of_ble_eq_true rfl, Nat.le_of_ble_eq_true rfl⟩ (Nat.le_of_ble_eq_true rfl) ⟨Nat.le_of_ble_eq_true rfl, Nat.le_of_ble_eq_true rfl⟩ ?_
  refine c_gainFor (j := 0) (C := 99) hn (by decide) (by decide) (by decide) hS ht hg (fun f1 S1 hS1 l1 ch1 hF1 => ⟨_, rfl, ?_⟩)
  refine x_pop (pc' := 7) rfl rfl rfl ?_
  refine x_aload_n (pc' := 8) rfl rfl rfl ?_
  refine x_get (pc' := 11) rfl rfl rfl (hS1.ah) rfl ?_
  refine x_iconst (pc' := 12) rfl rfl iconst_0 ?_
  refine x_iaload (pc' := 13) rfl rfl (hS1.2.2.1 1 (by decide)) (vp_in_nI (n := 0) (N := 5) (by decide) (by decide)) ?_
  refine x_eqi (show S1.2.2.1 1 (Int32.toNatClampNeg 0) = (q_ab n g (-nI n) (nI n)).2 from ch1 (by omega)) ?_
  exact x_ireturn rfl rfl rfl (Nat.le_of_ble_eq_true rfl) (Nat.le_of_ble_eq_true rfl) (h _ _ hS1 l1 hF1)
theorem c_best (hS : x_Sys z f S) (hA : c_is S A) (ho : a_ok A) (h : c_ends z f post (s_bestC A a)) : Y E 13 mX5_best [.ref 0, .int a] z f 0 0 post := by
  refine Y.intro gX5_best (lv := [(0, .ref 0), (1, .int a)]) rfl (Nat.le_of_ble_eq_true rfl) ?_
  refine x_iload_n (pc' := 1) rfl rfl rfl ?_
  refine x_iconst (pc' := 2) rfl rfl iconst_1 ?_
  refine x_icmp_ge (tgt := 12) (pc' := 5) rfl rfl rfl (fun c2 => ?_) (fun c2 => ?_)
  · have d1 : ¬ a < 1 := Int32.not_lt.mpr c2
    refine x_iload_n (pc' := 13) rfl rfl rfl ?_
    refine x_iconst (pc' := 14) rfl rfl iconst_4 ?_
    by_cases d2 : 4 < a
    · rw [show s_bestC A a = _ from (if_neg d1).trans (if_pos d2)] at h
      refine x_icmp_le (tgt := 24) (pc' := 17) rfl rfl rfl (fun q => absurd d2 (Int32.not_lt.mpr q)) (fun _ => ?_)
      refine x_aload_n (pc' := 18) rfl rfl rfl ?_
      refine x_bipush (pc' := 20) rfl rfl bipush_m6 ?_
      refine x_cV1i (d := 1) (pc' := 23) rfl rfl sX5_68 gX5_refuse (hS.1) ⟨Nat.le_of_ble_eq_true rfl, Nat.le_of_ble_eq_true rfl⟩ (Nat.le_of_ble_eq_true rfl) ⟨Nat.le_of_ble_eq_true rfl, Nat.le_of_ble_eq_true rfl⟩ ?_
      refine c_refuse (k := 6) (by decide) (by decide) hS hA (fun f1 S1 hS1 hA1 hF1 => ⟨_, rfl, ?_⟩)
      exact x_ireturn rfl rfl rfl (Nat.le_of_ble_eq_true rfl) (Nat.le_of_ble_eq_true rfl) (h _ _ hS1 hA1 hF1)
    · rw [show s_bestC A a = _ from (if_neg d1).trans (if_neg d2)] at h
      refine x_icmp_le (tgt := 24) (pc' := 17) rfl rfl rfl (fun _ => ?_) (fun q => absurd (Int32.not_lt.mp d2) q)
      obtain ⟨n, hn, rfl⟩ := nI_of2 (n := 4) (M := 4) rfl (fun q => d1 (Int32.lt_trans q (by decide))) (Int32.not_lt.mp d2)
      have hn1 : 1 ≤ n := Nat.pos_of_ne_zero (fun q => d1 (by rw [q]; decide))
      rw [nI_clamp (by omega)] at h
      refine x_aload_n (pc' := 25) rfl rfl rfl ?_
      refine x_get (pc' := 28) rfl rfl rfl (hS.1) rfl ?_
      refine x_aload_n (pc' := 29) rfl rfl rfl ?_
      refine x_get (pc' := 32) rfl rfl rfl (hS.1) rfl ?_
      refine x_iload_n (pc' := 33) rfl rfl rfl ?_
      refine x_cV2i (d := 11) (pc' := 36) rfl rfl sX5_148 gX0_bowlFor (hS.ah) ⟨Nat.le_of_ble_eq_true rfl, Nat.le_of_ble_eq_true rfl⟩ (Nat.le_of_ble_eq_true rfl) ⟨Nat.le_of_ble_eq_true rfl, Nat.le_of_ble_eq_true rfl⟩ ?_
      refine c_bowlFor hn hn1 hS hA.1 ho.1 (fun f1 S1 hS1 l1 hF1 => ⟨_, rfl, ?_⟩)
      exact x_ireturn rfl rfl rfl (Nat.le_of_ble_eq_true rfl) (Nat.le_of_ble_eq_true rfl) (h _ _ hS1 (hA.sc l1.sc) hF1)
  · rw [show s_bestC A a = _ from if_pos (Int32.not_le.mp c2)] at h
    refine x_aload_n (pc' := 6) rfl rfl rfl ?_
    refine x_bipush (pc' := 8) rfl rfl bipush_m4 ?_
    refine x_cV1i (d := 1) (pc' := 11) rfl rfl sX5_68 gX5_refuse (hS.1) ⟨Nat.le_of_ble_eq_true rfl, Nat.le_of_ble_eq_true rfl⟩ (Nat.le_of_ble_eq_true rfl) ⟨Nat.le_of_ble_eq_true rfl, Nat.le_of_ble_eq_true rfl⟩ ?_
    refine c_refuse (k := 4) (by decide) (by decide) hS hA (fun f1 S1 hS1 hA1 hF1 => ⟨_, rfl, ?_⟩)
    exact x_ireturn rfl rfl rfl (Nat.le_of_ble_eq_true rfl) (Nat.le_of_ble_eq_true rfl) (h _ _ hS1 hA1 hF1)
theorem c_worth (hS : x_Sys z f S) (hA : c_is S A) (ho : a_ok A) (h : c_ends z f post (s_worthC A a)) : Y E 13 mX5_worth [.ref 0, .int a] z f 0 0 post := by
  refine Y.intro gX5_worth (lv := [(0, .ref 0), (1, .int a)]) rfl (Nat.le_of_ble_eq_true rfl) ?_
  refine x_iload_n (pc' := 1) rfl rfl rfl ?_
  refine x_iconst (pc' := 2) rfl rfl iconst_1 ?_
  refine x_icmp_ge (tgt := 12) (pc' := 5) rfl rfl rfl (fun c2 => ?_) (fun c2 => ?_)
  · have d1 : ¬ a < 1 := Int32.not_lt.mpr c2
    refine x_iload_n (pc' := 13) rfl rfl rfl ?_
    refine x_iconst (pc' := 14) rfl rfl iconst_4 ?_
    by_cases d2 : 4 < a
    · rw [show s_worthC A a = _ from (if_neg d1).trans (if_pos d2)] at h
      refine x_icmp_le (tgt := 24) (pc' := 17) rfl rfl rfl (fun q => absurd d2 (Int32.not_lt.mpr q)) (fun _ => ?_)
      refine x_aload_n (pc' := 18) rfl rfl rfl ?_
      refine x_bipush (pc' := 20) rfl rfl bipush_m6 ?_
      refine x_cV1i (d := 2) (pc' := 23) rfl rfl sX5_152 gX5_refuseFar (hS.1) ⟨Nat.le_of_ble_eq_true rfl, Nat.le_of_ble_eq_true rfl⟩ (Nat.le_of_ble_eq_true rfl) ⟨Nat.le_of_ble_eq_true rfl, Nat.le_of_ble_eq_true rfl⟩ ?_
      refine c_refuseFar (k := 6) (by decide) (by decide) hS hA (fun f1 S1 hS1 hA1 hF1 => ⟨_, rfl, ?_⟩)
      exact x_ireturn rfl rfl rfl (Nat.le_of_ble_eq_true rfl) (Nat.le_of_ble_eq_true rfl) (h _ _ hS1 hA1 hF1)
    · rw [show s_worthC A a = _ from (if_neg d1).trans (if_neg d2)] at h
      refine x_icmp_le (tgt := 24) (pc' := 17) rfl rfl rfl (fun _ => ?_) (fun q => absurd (Int32.not_lt.mp d2) q)
      obtain ⟨n, hn, rfl⟩ := nI_of2 (n := 4) (M := 4) rfl (fun q => d1 (Int32.lt_trans q (by decide))) (Int32.not_lt.mp d2)
      rw [nI_clamp (by omega)] at h
      refine x_aload_n (pc' := 25) rfl rfl rfl ?_
      refine x_get (pc' := 28) rfl rfl rfl (hS.1) rfl ?_
      refine x_aload_n (pc' := 29) rfl rfl rfl ?_
      refine x_get (pc' := 32) rfl rfl rfl (hS.1) rfl ?_
      refine x_iload_n (pc' := 33) rfl rfl rfl ?_
      refine x_cV2i (d := 10) (pc' := 36) rfl rfl sX5_155 gX0_gainFor (hS.ah) ⟨Nat.le_of_ble_eq_true rfl, Nat.le_of_ble_eq_true rfl⟩ (Nat.le_of_ble_eq_true rfl) ⟨Nat.le_of_ble_eq_true rfl, Nat.le_of_ble_eq_true rfl⟩ ?_
      refine c_gainFor (j := 0) (C := 99) hn (by decide) (by decide) (by decide) hS hA.1 ho.1 (fun f1 S1 hS1 l1 ch1 hF1 => ⟨_, rfl, ?_⟩)
      exact x_ireturn rfl rfl rfl (Nat.le_of_ble_eq_true rfl) (Nat.le_of_ble_eq_true rfl) (h _ _ hS1 (hA.sc l1.sc) hF1)
  · rw [show s_worthC A a = _ from if_pos (Int32.not_le.mp c2)] at h
    refine x_aload_n (pc' := 6) rfl rfl rfl ?_
    refine x_bipush (pc' := 8) rfl rfl bipush_m4 ?_
    refine x_cV1i (d := 2) (pc' := 11) rfl rfl sX5_152 gX5_refuseFar (hS.1) ⟨Nat.le_of_ble_eq_true rfl, Nat.le_of_ble_eq_true rfl⟩ (Nat.le_of_ble_eq_true rfl) ⟨Nat.le_of_ble_eq_true rfl, Nat.le_of_ble_eq_true rfl⟩ ?_
    refine c_refuseFar (k := 4) (by decide) (by decide) hS hA (fun f1 S1 hS1 hA1 hF1 => ⟨_, rfl, ?_⟩)
    exact x_ireturn rfl rfl rfl (Nat.le_of_ble_eq_true rfl) (Nat.le_of_ble_eq_true rfl) (h _ _ hS1 hA1 hF1)
theorem t_is_bm {T : x_T} {b v : Nat} (h : t_is T g) (hb : b < 2 ^ 31) : t_is (T.1, upd T.2.1 (nI b).toNatClampNeg (nI v), T.2.2.1, T.2.2.2) (g_bm g b v) := by
  refine ⟨h.1, ?_, h.2.2⟩
  show upd T.2.1 (nI b).toNatClampNeg (nI v) = _
  rw [nI_clamp hb, h.2.1, q_up_I]
  rfl
theorem c_wc {b v : Nat} {w : Int32} (hb : b < g_n (a_g A)) (hw : nI (g_β (a_g A) b) + w = nI v) (hv : v ≤ 100) (hS : x_Sys z f S) (hA : c_is S A) (ho : a_ok A) (h : ∀ (f' : x_H) (S' : x_S), x_Sys z f' S' → c_is S' A → x_fr (fun q => 59 ≤ q) f f' → post (some (.int (q_gI 2 (g_bm (a_g A) b v) - q_gI 2 (a_g A)))) f') : Y E 12 mX5_worthChange [.ref 0, .int (nI b), .int w] z f 0 0 post := by
  refine Y.intro gX5_worthChange (lv := [(0, .ref 0), (1, .int (nI b)), (2, .int w)]) rfl (Nat.le_of_ble_eq_true rfl) ?_
  have hn9 := ho.1.1
  have ht := hA.1
  have hT0 : x_t z f 1 (S.2.1 0) := hS.2.1 0 (by decide)
  have hT2 : x_t z f 9 (S.2.1 2) := hS.2.1 2 (by decide)
  have hcl : (nI b).toNatClampNeg = b := nI_clamp (by omega)
  refine x_aload_n (pc' := 1) rfl rfl rfl ?_
  refine x_get (pc' := 4) rfl rfl rfl (hS.1) rfl ?_
  refine x_aload_n (pc' := 5) rfl rfl rfl ?_
  refine x_get (pc' := 8) rfl rfl rfl (hS.1) rfl ?_
  refine x_cV1v (d := 1) (pc' := 11) rfl rfl sX5_79 gX3_copyFrom (hT2.1) ⟨Nat.le_of_ble_eq_true rfl, Nat.le_of_ble_eq_true rfl⟩ (Nat.le_of_ble_eq_true rfl) ⟨Nat.le_of_ble_eq_true rfl, Nat.le_of_ble_eq_true rfl⟩ ?_
  refine w_copyFrom hT2 hT0 (by decide) (fun f1 hT1 hF1 => ⟨rfl, ?_⟩)
  have hS1 := hS.tab 2 (by decide) hT1 hF1
  have hA1 := c_tr (T := x_cp (S.2.1 2) (S.2.1 0)) hA
  have hF1' : x_fr (fun q => 59 ≤ q) f f1 := c_fr0 (j := 2) (by decide) hF1
  have hT01 : x_t z f1 1 (S.2.1 0) := hS1.2.1 0 (by decide)
  refine x_aload_n (pc' := 12) rfl rfl rfl ?_
  refine x_get (pc' := 15) rfl rfl rfl (hS1.1) rfl ?_
  refine x_iload_n (pc' := 16) rfl rfl rfl ?_
  refine x_aload_n (pc' := 17) rfl rfl rfl ?_
  refine x_get (pc' := 20) rfl rfl rfl (hS1.1) rfl ?_
  refine x_iload_n (pc' := 21) rfl rfl rfl ?_
  refine x_cV1i (d := 2) (pc' := 24) rfl rfl sX5_96 gX3_beansOf (hT01.1) ⟨Nat.le_of_ble_eq_true rfl, Nat.le_of_ble_eq_true rfl⟩ (Nat.le_of_ble_eq_true rfl) ⟨Nat.le_of_ble_eq_true rfl, Nat.le_of_ble_eq_true rfl⟩ ?_
  refine w_beansOf hT01 (fun q => ⟨_, rfl, ?_⟩) (fun q => absurd (t_has_nI ht.2.2.2.1 hn9 hb) q)
  refine x_eqi (show (S.2.1 0).2.1 (nI b).toNatClampNeg = nI (g_β (a_g A) b) from by rw [hcl, ht.2.1]) ?_
  refine x_iload_n (pc' := 25) rfl rfl rfl ?_
  refine x_iadd (pc' := 26) rfl rfl ?_
  refine x_eqi hw ?_
  refine x_cV2v (d := 2) (pc' := 29) rfl rfl sX5_105 gX3_lay (hT1.1) ⟨Nat.le_of_ble_eq_true rfl, Nat.le_of_ble_eq_true rfl⟩ (Nat.le_of_ble_eq_true rfl) ⟨Nat.le_of_ble_eq_true rfl, Nat.le_of_ble_eq_true rfl⟩ ?_
  refine w_lay hT1 (fun q f2 hT2' hF2 => ⟨rfl, ?_⟩) (fun q => absurd (t_has_nI ht.2.2.2.1 hn9 hb) q)
  have hS2 := hS1.tt (j := 2) (by decide) hT2' hF2
  have g2 := t_is_bm (T := x_cp (S.2.1 2) (S.2.1 0)) (b := b) (v := v) (x_cp_is ht) (by omega)
  have hF2' : x_fr (fun q => 59 ≤ q) f f2 := hF1'.trans (c_fr0 (j := 2) (by decide) hF2)
  refine x_aload_n (pc' := 30) rfl rfl rfl ?_
  refine x_get (pc' := 33) rfl rfl rfl (hS2.1) rfl ?_
  refine x_aload_n (pc' := 34) rfl rfl rfl ?_
  refine x_get (pc' := 37) rfl rfl rfl (hS2.1) rfl ?_
  refine x_iconst (pc' := 38) rfl rfl iconst_2 ?_
  refine x_cV2i (d := 10) (pc' := 41) rfl rfl sX5_155 gX0_gainFor (hS2.ah) ⟨Nat.le_of_ble_eq_true rfl, Nat.le_of_ble_eq_true rfl⟩ (Nat.le_of_ble_eq_true rfl) ⟨Nat.le_of_ble_eq_true rfl, Nat.le_of_ble_eq_true rfl⟩ ?_
  refine c_gainFor (n := 2) (j := 2) (C := 100) (by decide) (by decide) (by decide) (by decide) hS2 g2 (g_bm_ok ho.1 hb (by decide) hv) (fun f3 S3 hS3 l3 ch3 hF3 => ⟨_, rfl, ?_⟩)
  have hA3 : c_is S3 A := (c_tr hA).sc l3.sc
  refine x_aload_n (pc' := 42) rfl rfl rfl ?_
  refine x_get (pc' := 45) rfl rfl rfl (hS3.1) rfl ?_
  refine x_aload_n (pc' := 46) rfl rfl rfl ?_
  refine x_get (pc' := 49) rfl rfl rfl (hS3.1) rfl ?_
  refine x_iconst (pc' := 50) rfl rfl iconst_2 ?_
  refine x_cV2i (d := 10) (pc' := 53) rfl rfl sX5_155 gX0_gainFor (hS3.ah) ⟨Nat.le_of_ble_eq_true rfl, Nat.le_of_ble_eq_true rfl⟩ (Nat.le_of_ble_eq_true rfl) ⟨Nat.le_of_ble_eq_true rfl, Nat.le_of_ble_eq_true rfl⟩ ?_
  refine c_gainFor (n := 2) (j := 0) (C := 99) (by decide) (by decide) (by decide) (by decide) hS3 hA3.1 ho.1 (fun f4 S4 hS4 l4 ch4 hF4 => ⟨_, rfl, ?_⟩)
  refine x_isub (pc' := 54) rfl rfl ?_
  exact x_ireturn rfl rfl rfl (Nat.le_of_ble_eq_true rfl) (Nat.le_of_ble_eq_true rfl) (h _ _ hS4 (hA3.sc l4.sc) ((hF2'.trans hF3).trans hF4))
theorem c_price (hS : x_Sys z f S) (hA : c_is S A) (ho : a_ok A) (h : c_ends z f post (s_priceC A a)) : Y E 14 mX5_price [.ref 0, .int a] z f 0 0 post := by
  refine Y.intro gX5_price (lv := [(0, .ref 0), (1, .int a)]) rfl (Nat.le_of_ble_eq_true rfl) ?_
  have hn9 := ho.1.1
  refine x_aload_n (pc' := 1) rfl rfl rfl ?_
  refine x_get (pc' := 4) rfl rfl rfl (hS.1) rfl ?_
  refine x_iload_n (pc' := 5) rfl rfl rfl ?_
  refine x_cV1i (d := 1) (pc' := 8) rfl rfl sX5_90 gX3_has ((hS.2.1 0 (by decide)).1) ⟨Nat.le_of_ble_eq_true rfl, Nat.le_of_ble_eq_true rfl⟩ (Nat.le_of_ble_eq_true rfl) ⟨Nat.le_of_ble_eq_true rfl, Nat.le_of_ble_eq_true rfl⟩ ?_
  refine c_has hS hA ho (fun d1 => ⟨_, rfl, ?_⟩) (fun d1 => ⟨_, rfl, ?_⟩)
  · rw [show s_priceC A a = _ from if_pos d1] at h
    obtain ⟨k, hk, hk2, rfl, hcl⟩ := q_in_k d1
    rw [hcl] at h
    have hβ := ho.1.2.2.2.2.2.1 k
    refine x_if_ne (tgt := 17) (pc' := 11) rfl rfl rfl (fun _ => ?_) (fun c8 => absurd c8 ((by decide)))
    refine x_aload_n (pc' := 18) rfl rfl rfl ?_
    refine x_iload_n (pc' := 19) rfl rfl rfl ?_
    refine x_iconst (pc' := 20) rfl rfl iconst_1 ?_
    refine x_cV2i (d := 12) (pc' := 23) rfl rfl sX5_177 gX5_worthChange (hS.1) ⟨Nat.le_of_ble_eq_true rfl, Nat.le_of_ble_eq_true rfl⟩ (Nat.le_of_ble_eq_true rfl) ⟨Nat.le_of_ble_eq_true rfl, Nat.le_of_ble_eq_true rfl⟩ ?_
    refine c_wc (v := g_β (a_g A) k + 1) hk (nI_1 _) (by omega) hS hA ho (fun f1 S1 hS1 hA1 hF1 => ⟨_, rfl, ?_⟩)
    exact x_ireturn rfl rfl rfl (Nat.le_of_ble_eq_true rfl) (Nat.le_of_ble_eq_true rfl) (h _ _ hS1 hA1 hF1)
  · rw [show s_priceC A a = _ from if_neg d1] at h
    refine x_if_ne (tgt := 17) (pc' := 11) rfl rfl rfl (fun c8 => absurd (rfl) c8) (fun _ => ?_)
    refine x_aload_n (pc' := 12) rfl rfl rfl ?_
    refine x_iconst (pc' := 13) rfl rfl iconst_m1 ?_
    refine x_cV1i (d := 2) (pc' := 16) rfl rfl sX5_152 gX5_refuseFar (hS.1) ⟨Nat.le_of_ble_eq_true rfl, Nat.le_of_ble_eq_true rfl⟩ (Nat.le_of_ble_eq_true rfl) ⟨Nat.le_of_ble_eq_true rfl, Nat.le_of_ble_eq_true rfl⟩ ?_
    refine c_refuseFar (k := 1) (by decide) (by decide) hS hA (fun f1 S1 hS1 hA1 hF1 => ⟨_, rfl, ?_⟩)
    exact x_ireturn rfl rfl rfl (Nat.le_of_ble_eq_true rfl) (Nat.le_of_ble_eq_true rfl) (h _ _ hS1 hA1 hF1)
theorem c_sold (hS : x_Sys z f S) (hA : c_is S A) (ho : a_ok A) (h : c_ends z f post (s_soldC A a)) : Y E 14 mX5_sold [.ref 0, .int a] z f 0 0 post := by
  refine Y.intro gX5_sold (lv := [(0, .ref 0), (1, .int a)]) rfl (Nat.le_of_ble_eq_true rfl) ?_
  have hn9 := ho.1.1
  have ht := hA.1
  refine x_aload_n (pc' := 1) rfl rfl rfl ?_
  refine x_get (pc' := 4) rfl rfl rfl (hS.1) rfl ?_
  refine x_iload_n (pc' := 5) rfl rfl rfl ?_
  refine x_cV1i (d := 1) (pc' := 8) rfl rfl sX5_90 gX3_has ((hS.2.1 0 (by decide)).1) ⟨Nat.le_of_ble_eq_true rfl, Nat.le_of_ble_eq_true rfl⟩ (Nat.le_of_ble_eq_true rfl) ⟨Nat.le_of_ble_eq_true rfl, Nat.le_of_ble_eq_true rfl⟩ ?_
  refine c_has hS hA ho (fun d1 => ⟨_, rfl, ?_⟩) (fun d1 => ⟨_, rfl, ?_⟩)
  · rw [show s_soldC A a = _ from if_pos d1] at h
    obtain ⟨k, hk, hk2, rfl, hcl⟩ := q_in_k d1
    rw [hcl] at h
    have hβ := ho.1.2.2.2.2.2.1 k
    refine x_if_ne (tgt := 17) (pc' := 11) rfl rfl rfl (fun _ => ?_) (fun c8 => absurd c8 ((by decide)))
    refine x_aload_n (pc' := 18) rfl rfl rfl ?_
    refine x_get (pc' := 21) rfl rfl rfl (hS.1) rfl ?_
    refine x_iload_n (pc' := 22) rfl rfl rfl ?_
    refine x_cV1i (d := 2) (pc' := 25) rfl rfl sX5_96 gX3_beansOf ((hS.2.1 0 (by decide)).1) ⟨Nat.le_of_ble_eq_true rfl, Nat.le_of_ble_eq_true rfl⟩ (Nat.le_of_ble_eq_true rfl) ⟨Nat.le_of_ble_eq_true rfl, Nat.le_of_ble_eq_true rfl⟩ ?_
    refine w_beansOf (hS.2.1 0 (by decide)) (fun q => ⟨_, rfl, ?_⟩) (fun q => absurd (t_has_nI ht.2.2.2.1 hn9 hk) q)
    refine x_eqi (show (S.2.1 0).2.1 (nI k).toNatClampNeg = nI (g_β (a_g A) k) from by rw [hcl, ht.2.1]) ?_
    by_cases d2 : g_β (a_g A) k = 0
    · rw [if_pos d2] at h
      refine x_if_ne (tgt := 35) (pc' := 28) rfl rfl rfl (fun q => absurd (by rw [d2]; rfl) q) (fun _ => ?_)
      refine x_aload_n (pc' := 29) rfl rfl rfl ?_
      refine x_bipush (pc' := 31) rfl rfl bipush_m3 ?_
      refine x_cV1i (d := 2) (pc' := 34) rfl rfl sX5_152 gX5_refuseFar (hS.1) ⟨Nat.le_of_ble_eq_true rfl, Nat.le_of_ble_eq_true rfl⟩ (Nat.le_of_ble_eq_true rfl) ⟨Nat.le_of_ble_eq_true rfl, Nat.le_of_ble_eq_true rfl⟩ ?_
      refine c_refuseFar (k := 3) (by decide) (by decide) hS hA (fun f1 S1 hS1 hA1 hF1 => ⟨_, rfl, ?_⟩)
      exact x_ireturn rfl rfl rfl (Nat.le_of_ble_eq_true rfl) (Nat.le_of_ble_eq_true rfl) (h _ _ hS1 hA1 hF1)
    · rw [if_neg d2] at h
      refine x_if_ne (tgt := 35) (pc' := 28) rfl rfl rfl (fun _ => ?_) (fun q => absurd q (nI_ne0 (by omega) (by omega)))
      refine x_aload_n (pc' := 36) rfl rfl rfl ?_
      refine x_iload_n (pc' := 37) rfl rfl rfl ?_
      refine x_iconst (pc' := 38) rfl rfl iconst_m1 ?_
      refine x_cV2i (d := 12) (pc' := 41) rfl rfl sX5_177 gX5_worthChange (hS.1) ⟨Nat.le_of_ble_eq_true rfl, Nat.le_of_ble_eq_true rfl⟩ (Nat.le_of_ble_eq_true rfl) ⟨Nat.le_of_ble_eq_true rfl, Nat.le_of_ble_eq_true rfl⟩ ?_
      refine c_wc (v := g_β (a_g A) k - 1) hk (by obtain ⟨v, hv⟩ : ∃ v, g_β (a_g A) k = v + 1 := ⟨g_β (a_g A) k - 1, by omega⟩; rw [hv]; exact pk_m1 v) (by omega) hS hA ho (fun f1 S1 hS1 hA1 hF1 => ⟨_, rfl, ?_⟩)
      exact x_ireturn rfl rfl rfl (Nat.le_of_ble_eq_true rfl) (Nat.le_of_ble_eq_true rfl) (h _ _ hS1 hA1 hF1)
  · rw [show s_soldC A a = _ from if_neg d1] at h
    refine x_if_ne (tgt := 17) (pc' := 11) rfl rfl rfl (fun c8 => absurd (rfl) c8) (fun _ => ?_)
    refine x_aload_n (pc' := 12) rfl rfl rfl ?_
    refine x_iconst (pc' := 13) rfl rfl iconst_m1 ?_
    refine x_cV1i (d := 2) (pc' := 16) rfl rfl sX5_152 gX5_refuseFar (hS.1) ⟨Nat.le_of_ble_eq_true rfl, Nat.le_of_ble_eq_true rfl⟩ (Nat.le_of_ble_eq_true rfl) ⟨Nat.le_of_ble_eq_true rfl, Nat.le_of_ble_eq_true rfl⟩ ?_
    refine c_refuseFar (k := 1) (by decide) (by decide) hS hA (fun f1 S1 hS1 hA1 hF1 => ⟨_, rfl, ?_⟩)
    exact x_ireturn rfl rfl rfl (Nat.le_of_ble_eq_true rfl) (Nat.le_of_ble_eq_true rfl) (h _ _ hS1 hA1 hF1)
theorem c_chI {v : Nat} (ho : a_ok A) (hv : v < g_n (a_g A)) (f0 : x_H) (S0 : x_S) (hA : c_is S0 A) (r0 : Int32 × Int32) (K : ∀ (f' : x_H) (S' : x_S), x_Sys z f' S' → c_is S' A → x_fr (fun q => 59 ≤ q) f0 f' → X E (x_rm 14 0 0) mX5_change (x_QM E z 0 0 post) 104 [(4, .int (nI (g_n (a_g A)))), (3, .int (nI v)), (2, .int (q_c2 (fun b => q_gI 2 (g_sw (a_g A) v b)) v (g_n (a_g A) - (v + 1)) r0).1), (1, .int (q_c2 (fun b => q_gI 2 (g_sw (a_g A) v b)) v (g_n (a_g A) - (v + 1)) r0).2), (0, .ref 0)] [] z f' 0 0) :
    ∀ (m i : Nat) (f : x_H) (S : x_S), v + 1 + i + m = g_n (a_g A) → x_Sys z f S → c_is S A → x_fr (fun q => 59 ≤ q) f0 f → X E (x_rm 14 0 0) mX5_change (x_QM E z 0 0 post) 34 [(4, .int (nI (v + 1 + i))), (3, .int (nI v)), (2, .int (q_c2 (fun b => q_gI 2 (g_sw (a_g A) v b)) v i r0).1), (1, .int (q_c2 (fun b => q_gI 2 (g_sw (a_g A) v b)) v i r0).2), (0, .ref 0)] [] z f 0 0 := by
  have hn9 := ho.1.1
  intro m
  induction m with
  | zero =>
    intro i f S hi hS hA hF
    have hi2 : i = g_n (a_g A) - (v + 1) := by omega
    subst hi2
    have hi3 : v + 1 + (g_n (a_g A) - (v + 1)) = g_n (a_g A) := by omega
    rw [hi3]
    refine x_iload (pc' := 36) rfl rfl rfl ?_
    refine x_aload_n (pc' := 37) rfl rfl rfl ?_
    refine x_get (pc' := 40) rfl rfl rfl (hS.1) rfl ?_
    refine x_get (pc' := 43) rfl rfl rfl ((hS.2.1 0 (by decide)).1) rfl ?_
    refine x_eqi hA.1.2.2.2.1 ?_
    refine x_icmp_ge (tgt := 104) (pc' := 46) rfl rfl rfl (fun _ => ?_) (fun c43 => absurd ((Int32.le_refl _)) c43)
    exact K _ _ hS hA hF
  | succ m ih =>
    intro i f S hi hS hA hF
    have eq1 : q_c2 (fun b => q_gI 2 (g_sw (a_g A) v b)) v (i + 1) r0 = if (q_c2 (fun b => q_gI 2 (g_sw (a_g A) v b)) v i r0).1 < q_gI 2 (g_sw (a_g A) v (v + 1 + i)) then (q_gI 2 (g_sw (a_g A) v (v + 1 + i)), nI (10 * v + (v + 1 + i))) else q_c2 (fun b => q_gI 2 (g_sw (a_g A) v b)) v i r0 := rfl
    have h9 := fun f S => ih (i + 1) f S (by omega)
    generalize q_c2 (fun b => q_gI 2 (g_sw (a_g A) v b)) v (i + 1) r0 = s1 at eq1 h9
    generalize q_c2 (fun b => q_gI 2 (g_sw (a_g A) v b)) v i r0 = s0 at eq1 ⊢
    have hsw := g_sw_ok (v := v) (w := v + 1 + i) ho.1 hv (by omega)
    have ht := hA.1
    have hT0 : x_t z f 1 (S.2.1 0) := hS.2.1 0 (by decide)
    have hT2 : x_t z f 9 (S.2.1 2) := hS.2.1 2 (by decide)
    refine x_iload (pc' := 36) rfl rfl rfl ?_
    refine x_aload_n (pc' := 37) rfl rfl rfl ?_
    refine x_get (pc' := 40) rfl rfl rfl (hS.1) rfl ?_
    refine x_get (pc' := 43) rfl rfl rfl ((hS.2.1 0 (by decide)).1) rfl ?_
    refine x_eqi ht.2.2.2.1 ?_
    refine x_icmp_ge (tgt := 104) (pc' := 46) rfl rfl rfl (fun c43 => absurd c43 ((nI_ge (by omega) (by omega)))) (fun _ => ?_)
    refine x_aload_n (pc' := 47) rfl rfl rfl ?_
    refine x_get (pc' := 50) rfl rfl rfl (hS.1) rfl ?_
    refine x_aload_n (pc' := 51) rfl rfl rfl ?_
    refine x_get (pc' := 54) rfl rfl rfl (hS.1) rfl ?_
    refine x_cV1v (d := 1) (pc' := 57) rfl rfl sX5_79 gX3_copyFrom (hT2.1) ⟨Nat.le_of_ble_eq_true rfl, Nat.le_of_ble_eq_true rfl⟩ (Nat.le_of_ble_eq_true rfl) ⟨Nat.le_of_ble_eq_true rfl, Nat.le_of_ble_eq_true rfl⟩ ?_
    refine w_copyFrom hT2 hT0 (by decide) (fun f1 hT1 hF1 => ⟨rfl, ?_⟩)
    have hS1 := hS.tab 2 (by decide) hT1 hF1
    have hF1' := hF.trans (c_fr0 (j := 2) (by decide) hF1)
    have t1 := x_cp_is (T := S.2.1 2) ht
    refine x_aload_n (pc' := 58) rfl rfl rfl ?_
    refine x_get (pc' := 61) rfl rfl rfl (hS1.1) rfl ?_
    refine x_iload_n (pc' := 62) rfl rfl rfl ?_
    refine x_iload (pc' := 64) rfl rfl rfl ?_
    refine x_cV2v (d := 3) (pc' := 67) rfl rfl sX5_180 gX3_swapBeans (hT1.1) ⟨Nat.le_of_ble_eq_true rfl, Nat.le_of_ble_eq_true rfl⟩ (Nat.le_of_ble_eq_true rfl) ⟨Nat.le_of_ble_eq_true rfl, Nat.le_of_ble_eq_true rfl⟩ ?_
    refine w_swap (v := v) (w := v + 1 + i) hT1 t1.2.2.2.1 hn9 (by omega) (by omega) (fun f2 T2 hT2' e2 hF2 => ⟨rfl, ?_⟩)
    have hS2 := hS1.tt (j := 2) (by decide) hT2' hF2
    have hF2' := hF1'.trans (c_fr0 (j := 2) (by decide) hF2)
    have g2 : t_is T2 (g_sw (a_g A) v (v + 1 + i)) := (by rw [e2.2 hv (by omega)]; refine ⟨t1.1, ?_, t1.2.2⟩; show upd (upd (S.2.1 0).2.1 v ((S.2.1 0).2.1 (v + 1 + i))) (v + 1 + i) ((S.2.1 0).2.1 v) = _; rw [ht.2.1, q_up_I, q_up_I]; rfl)
    refine x_aload_n (pc' := 68) rfl rfl rfl ?_
    refine x_get (pc' := 71) rfl rfl rfl (hS2.1) rfl ?_
    refine x_aload_n (pc' := 72) rfl rfl rfl ?_
    refine x_get (pc' := 75) rfl rfl rfl (hS2.1) rfl ?_
    refine x_iconst (pc' := 76) rfl rfl iconst_2 ?_
    refine x_cV2i (d := 10) (pc' := 79) rfl rfl sX5_155 gX0_gainFor (hS2.ah) ⟨Nat.le_of_ble_eq_true rfl, Nat.le_of_ble_eq_true rfl⟩ (Nat.le_of_ble_eq_true rfl) ⟨Nat.le_of_ble_eq_true rfl, Nat.le_of_ble_eq_true rfl⟩ ?_
    refine c_gainFor (n := 2) (j := 2) (C := 99) (by decide) (by decide) (by decide) (by decide) hS2 g2 hsw (fun f3 S3 hS3 l3 ch3 hF3 => ⟨_, rfl, ?_⟩)
    have hA3 : c_is S3 A := (c_tr hA).sc l3.sc
    have h8 := h9 f3 S3 hS3 hA3 (hF2'.trans hF3)
    refine x_istore (pc' := 81) (lv' := [(5, _), (4, _), (3, _), (2, _), (1, _), (0, _)]) rfl rfl (Nat.le_of_ble_eq_true rfl) rfl ?_
    refine x_iload (pc' := 83) rfl rfl rfl ?_
    refine x_iload_n (pc' := 84) rfl rfl rfl ?_
    by_cases d : s0.1 < q_gI 2 (g_sw (a_g A) v (v + 1 + i))
    · rw [if_pos d] at eq1
      rw [eq1] at h8
      refine x_icmp_le (tgt := 98) (pc' := 87) rfl rfl rfl (fun q => absurd q (Int32.not_le.mpr d)) (fun _ => ?_)
      refine x_iload (pc' := 89) rfl rfl rfl ?_
      refine x_istore_n (pc' := 90) (lv' := [(2, _), (5, _), (4, _), (3, _), (1, _), (0, _)]) rfl rfl (Nat.le_of_ble_eq_true rfl) rfl ?_
      refine x_bipush (pc' := 92) rfl rfl bipush_10 ?_
      refine x_iload_n (pc' := 93) rfl rfl rfl ?_
      refine x_imul (pc' := 94) rfl rfl ?_
      refine x_eqi (show 10 * nI v = nI (10 * v) from pk_mul 10 v) ?_
      refine x_iload (pc' := 96) rfl rfl rfl ?_
      refine x_iadd (pc' := 97) rfl rfl ?_
      refine x_eqi (nI_add _ _) ?_
      refine x_istore_n (pc' := 98) (lv' := [(1, _), (2, _), (5, _), (4, _), (3, _), (0, _)]) rfl rfl (Nat.le_of_ble_eq_true rfl) rfl ?_
      refine x_iinc (pc' := 101) (lv' := [(4, _), (1, _), (2, _), (5, _), (3, _), (0, _)]) rfl rfl (Nat.le_of_ble_eq_true rfl) rfl (nI_1 _) rfl ?_
      refine x_goto (tgt := 34) rfl rfl ?_
      refine x_lvp [0, 4, 2, 1, 5] rfl ?_
      exact h8
    · rw [if_neg d] at eq1
      rw [eq1] at h8
      refine x_icmp_le (tgt := 98) (pc' := 87) rfl rfl rfl (fun _ => ?_) (fun q => absurd (Int32.not_lt.mp d) q)
      refine x_iinc (pc' := 101) (lv' := [(4, _), (5, _), (3, _), (2, _), (1, _), (0, _)]) rfl rfl (Nat.le_of_ble_eq_true rfl) rfl (nI_1 _) rfl ?_
      refine x_goto (tgt := 34) rfl rfl ?_
      refine x_lvp [0, 2, 3, 4, 5] rfl ?_
      exact h8
theorem c_chO (ho : a_ok A) (f0 : x_H) (h : c_ends z f0 post (A, q_chg (q_gI 2) (a_g A))) : ∀ (m v : Nat) (f : x_H) (S : x_S), v + m = g_n (a_g A) → x_Sys z f S → c_is S A → x_fr (fun q => 59 ≤ q) f0 f → X E (x_rm 14 0 0) mX5_change (x_QM E z 0 0 post) 18 [(3, .int (nI v)), (2, .int (q_c1 (fun a b => q_gI 2 (g_sw (a_g A) a b)) (g_n (a_g A)) (q_gI 2 (a_g A), -9) v).1), (1, .int (q_c1 (fun a b => q_gI 2 (g_sw (a_g A) a b)) (g_n (a_g A)) (q_gI 2 (a_g A), -9) v).2), (0, .ref 0)] [] z f 0 0 := by
  have hn9 := ho.1.1
  intro m
  induction m with
  | zero =>
    intro v f S hv hS hA hF
    have hv2 : v = g_n (a_g A) := by omega
    subst hv2
    refine x_iload_n (pc' := 19) rfl rfl rfl ?_
    refine x_aload_n (pc' := 20) rfl rfl rfl ?_
    refine x_get (pc' := 23) rfl rfl rfl (hS.1) rfl ?_
    refine x_get (pc' := 26) rfl rfl rfl ((hS.2.1 0 (by decide)).1) rfl ?_
    refine x_eqi hA.1.2.2.2.1 ?_
    refine x_icmp_ge (tgt := 110) (pc' := 29) rfl rfl rfl (fun _ => ?_) (fun c26 => absurd ((Int32.le_refl _)) c26)
    refine x_iload_n (pc' := 111) rfl rfl rfl ?_
    exact x_ireturn rfl rfl rfl (Nat.le_of_ble_eq_true rfl) (Nat.le_of_ble_eq_true rfl) (h _ _ hS hA hF)
  | succ m ih =>
    intro v f S hv hS hA hF
    have eq1 : q_c1 (fun a b => q_gI 2 (g_sw (a_g A) a b)) (g_n (a_g A)) (q_gI 2 (a_g A), -9) (v + 1) = q_c2 (fun b => q_gI 2 (g_sw (a_g A) v b)) v (g_n (a_g A) - (v + 1)) (q_c1 (fun a b => q_gI 2 (g_sw (a_g A) a b)) (g_n (a_g A)) (q_gI 2 (a_g A), -9) v) := rfl
    have h9 := fun f S => ih (v + 1) f S (by omega)
    rw [eq1] at h9
    refine x_iload_n (pc' := 19) rfl rfl rfl ?_
    refine x_aload_n (pc' := 20) rfl rfl rfl ?_
    refine x_get (pc' := 23) rfl rfl rfl (hS.1) rfl ?_
    refine x_get (pc' := 26) rfl rfl rfl ((hS.2.1 0 (by decide)).1) rfl ?_
    refine x_eqi hA.1.2.2.2.1 ?_
    refine x_icmp_ge (tgt := 110) (pc' := 29) rfl rfl rfl (fun c26 => absurd c26 ((nI_ge (by omega) (by omega)))) (fun _ => ?_)
    refine x_iload_n (pc' := 30) rfl rfl rfl ?_
    refine x_iconst (pc' := 31) rfl rfl iconst_1 ?_
    refine x_iadd (pc' := 32) rfl rfl ?_
    refine x_eqi (nI_1 v) ?_
    refine x_istore (pc' := 34) (lv' := [(4, _), (3, _), (2, _), (1, _), (0, _)]) rfl rfl (Nat.le_of_ble_eq_true rfl) rfl ?_
    refine c_chI ho (by omega) f S hA _ (fun f1 S1 hS1 hA1 hF1 => ?_) (g_n (a_g A) - (v + 1)) 0 f S (by omega) hS hA x_fr.rf
    refine x_iinc (pc' := 107) (lv' := [(3, _), (4, _), (2, _), (1, _), (0, _)]) rfl rfl (Nat.le_of_ble_eq_true rfl) rfl (nI_1 v) rfl ?_
    refine x_goto (tgt := 18) rfl rfl ?_
    refine x_lvp [0, 2, 3, 4] rfl ?_
    exact h9 f1 S1 hS1 hA1 (hF.trans hF1)
theorem c_change (hS : x_Sys z f S) (hA : c_is S A) (ho : a_ok A) (h : c_ends z f post (A, q_chg (q_gI 2) (a_g A))) : Y E 14 mX5_change [.ref 0] z f 0 0 post := by
  refine Y.intro gX5_change (lv := [(0, .ref 0)]) rfl (Nat.le_of_ble_eq_true rfl) ?_
  refine x_bipush (pc' := 2) rfl rfl bipush_m9 ?_
  refine x_istore_n (pc' := 3) (lv' := [(1, _), (0, _)]) rfl rfl (Nat.le_of_ble_eq_true rfl) rfl ?_
  refine x_aload_n (pc' := 4) rfl rfl rfl ?_
  refine x_get (pc' := 7) rfl rfl rfl (hS.1) rfl ?_
  refine x_aload_n (pc' := 8) rfl rfl rfl ?_
  refine x_get (pc' := 11) rfl rfl rfl (hS.1) rfl ?_
  refine x_iconst (pc' := 12) rfl rfl iconst_2 ?_
  refine x_cV2i (d := 10) (pc' := 15) rfl rfl sX5_155 gX0_gainFor (hS.ah) ⟨Nat.le_of_ble_eq_true rfl, Nat.le_of_ble_eq_true rfl⟩ (Nat.le_of_ble_eq_true rfl) ⟨Nat.le_of_ble_eq_true rfl, Nat.le_of_ble_eq_true rfl⟩ ?_
  refine c_gainFor (n := 2) (j := 0) (C := 99) (by decide) (by decide) (by decide) (by decide) hS hA.1 ho.1 (fun f1 S1 hS1 l1 ch1 hF1 => ⟨_, rfl, ?_⟩)
  refine x_istore_n (pc' := 16) (lv' := [(2, _), (1, _), (0, _)]) rfl rfl (Nat.le_of_ble_eq_true rfl) rfl ?_
  refine x_iconst (pc' := 17) rfl rfl iconst_0 ?_
  refine x_istore_n (pc' := 18) (lv' := [(3, _), (2, _), (1, _), (0, _)]) rfl rfl (Nat.le_of_ble_eq_true rfl) rfl ?_
  exact c_chO ho f h (g_n (a_g A)) 0 f1 S1 (by omega) hS1 (hA.sc l1.sc) hF1
theorem c_frI {v n : Nat} (hn : n ≤ 9) (f0 : x_H) (S0 : x_S) (β0 : Nat → Nat) (K : ∀ (f' : x_H) (T' : x_T), x_Sys z f' (S0.1, x_ut S0.2.1 2 T', S0.2.2.1, S0.2.2.2) → t_is T' (g.1, fun i => if i < n then v else β0 i, g.2.2) → x_fr (fun q => 59 ≤ q) f0 f' → X E (x_rm 14 0 0) mX5_fair (x_QM E z 0 0 post) 47 [(2, .int (nI n)), (1, .int (nI v)), (0, .ref 0)] [] z f' 0 0) (hgn : g_n g = n) : ∀ (m i : Nat) (f : x_H) (T : x_T), i + m = n → x_Sys z f (S0.1, x_ut S0.2.1 2 T, S0.2.2.1, S0.2.2.2) → t_is T (g.1, fun j => if j < i then v else β0 j, g.2.2) → x_fr (fun q => 59 ≤ q) f0 f → X E (x_rm 14 0 0) mX5_fair (x_QM E z 0 0 post) 21 [(2, .int (nI i)), (1, .int (nI v)), (0, .ref 0)] [] z f 0 0 := by
  intro m
  induction m with
  | zero =>
    intro i f T hi hS ht hF
    have hi2 : i = n := by omega
    subst hi2
    have e0 : T.2.2.2 0 = nI i := ht.2.2.2.1.trans (congrArg nI hgn)
    refine x_iload_n (pc' := 22) rfl rfl rfl ?_
    refine x_aload_n (pc' := 23) rfl rfl rfl ?_
    refine x_get (pc' := 26) rfl rfl rfl (hS.1) rfl ?_
    refine x_get (pc' := 29) rfl rfl rfl ((hS.2.1 2 (by decide)).1) rfl ?_
    refine x_eqi e0 ?_
    refine x_icmp_ge (tgt := 47) (pc' := 32) rfl rfl rfl (fun _ => ?_) (fun c29 => absurd ((Int32.le_refl _)) c29)
    exact K _ _ hS ht hF
  | succ m ih =>
    intro i f T hi hS ht hF
    have e0 : T.2.2.2 0 = nI n := ht.2.2.2.1.trans (congrArg nI hgn)
    have hT : x_t z f 9 T := hS.2.1 2 (by decide)
    have hcl : (nI i).toNatClampNeg = i := nI_clamp (by omega)
    refine x_iload_n (pc' := 22) rfl rfl rfl ?_
    refine x_aload_n (pc' := 23) rfl rfl rfl ?_
    refine x_get (pc' := 26) rfl rfl rfl (hS.1) rfl ?_
    refine x_get (pc' := 29) rfl rfl rfl (hT.1) rfl ?_
    refine x_eqi e0 ?_
    refine x_icmp_ge (tgt := 47) (pc' := 32) rfl rfl rfl (fun c29 => absurd c29 ((nI_ge (by omega) (by omega)))) (fun _ => ?_)
    refine x_aload_n (pc' := 33) rfl rfl rfl ?_
    refine x_get (pc' := 36) rfl rfl rfl (hS.1) rfl ?_
    refine x_iload_n (pc' := 37) rfl rfl rfl ?_
    refine x_iload_n (pc' := 38) rfl rfl rfl ?_
    refine x_cV2v (d := 2) (pc' := 41) rfl rfl sX5_105 gX3_lay (hT.1) ⟨Nat.le_of_ble_eq_true rfl, Nat.le_of_ble_eq_true rfl⟩ (Nat.le_of_ble_eq_true rfl) ⟨Nat.le_of_ble_eq_true rfl, Nat.le_of_ble_eq_true rfl⟩ ?_
    refine w_lay hT (fun q f1 hT1 hF1 => ⟨rfl, ?_⟩) (fun q => absurd (t_has_nI e0 hn (by omega)) q)
    refine x_iinc (pc' := 44) (lv' := [(2, _), (1, _), (0, _)]) rfl rfl (Nat.le_of_ble_eq_true rfl) rfl (nI_1 i) rfl ?_
    refine x_goto (tgt := 21) rfl rfl ?_
    refine ih (i + 1) f1 _ (by omega) (hS.tt (j := 2) (by decide) hT1 hF1) ⟨ht.1, ?_, ht.2.2⟩ (hF.trans (c_fr0 (j := 2) (by decide) hF1))
    show upd T.2.1 (nI i).toNatClampNeg (nI v) = _
    rw [hcl, ht.2.1]
    funext j
    show upd (fun j => nI (if j < i then v else β0 j)) i (nI v) j = nI (if j < i + 1 then v else β0 j)
    unfold upd
    by_cases d : j = i
    · rw [if_pos d, if_pos (by omega)]
    · rw [if_neg d]
      show nI (if j < i then v else β0 j) = nI (if j < i + 1 then v else β0 j)
      by_cases d2 : j < i
      · rw [if_pos d2, if_pos (by omega)]
      · rw [if_neg d2, if_neg (by omega)]
theorem c_frO (ho : a_ok A) (f0 : x_H) (r : Int32) (h : c_ends z f0 post (A, r)) : ∀ (m v : Nat) (f : x_H) (S : x_S), v + m = 10 → 1 ≤ v → q_fr (fun v => q_gI 2 (g_fl (a_g A) v)) m v = r → x_Sys z f S → c_is S A → x_fr (fun q => 59 ≤ q) f0 f → X E (x_rm 14 0 0) mX5_fair (x_QM E z 0 0 post) 2 [(1, .int (nI v)), (0, .ref 0)] [] z f 0 0 := by
  have hn9 := ho.1.1
  intro m
  induction m with
  | zero =>
    intro v f S hv h1 hr hS hA hF
    have hv2 : v = 10 := by omega
    subst hv2
    have hr2 : -9 = r := hr
    subst hr2
    refine x_iload_n (pc' := 3) rfl rfl rfl ?_
    refine x_bipush (pc' := 5) rfl rfl bipush_9 ?_
    refine x_icmp_gt (tgt := 70) (pc' := 8) rfl rfl rfl (fun _ => ?_) (fun c5 => absurd ((by decide : (9 : Int32) < nI 10)) c5)
    refine x_bipush (pc' := 72) rfl rfl bipush_m9 ?_
    exact x_ireturn rfl rfl rfl (Nat.le_of_ble_eq_true rfl) (Nat.le_of_ble_eq_true rfl) (h _ _ hS hA hF)
  | succ m ih =>
    intro v f S hv h1 hr hS hA hF
    replace hr : (if q_gI 2 (g_fl (a_g A) v) = 0 then nI v else q_fr (fun v => q_gI 2 (g_fl (a_g A) v)) m (v + 1)) = r := hr
    have hfl := g_fl_ok (v := v) ho.1 (by omega)
    have hT0 : x_t z f 1 (S.2.1 0) := hS.2.1 0 (by decide)
    have hT2 : x_t z f 9 (S.2.1 2) := hS.2.1 2 (by decide)
    refine x_iload_n (pc' := 3) rfl rfl rfl ?_
    refine x_bipush (pc' := 5) rfl rfl bipush_9 ?_
    refine x_icmp_gt (tgt := 70) (pc' := 8) rfl rfl rfl (fun c5 => absurd c5 ((nI_nlt (a := 9) (b := v) (by omega) (by decide)))) (fun _ => ?_)
    refine x_aload_n (pc' := 9) rfl rfl rfl ?_
    refine x_get (pc' := 12) rfl rfl rfl (hS.1) rfl ?_
    refine x_aload_n (pc' := 13) rfl rfl rfl ?_
    refine x_get (pc' := 16) rfl rfl rfl (hS.1) rfl ?_
    refine x_cV1v (d := 1) (pc' := 19) rfl rfl sX5_79 gX3_copyFrom (hT2.1) ⟨Nat.le_of_ble_eq_true rfl, Nat.le_of_ble_eq_true rfl⟩ (Nat.le_of_ble_eq_true rfl) ⟨Nat.le_of_ble_eq_true rfl, Nat.le_of_ble_eq_true rfl⟩ ?_
    refine w_copyFrom hT2 hT0 (by decide) (fun f1 hT1 hF1 => ⟨rfl, ?_⟩)
    have hS1 := hS.tab 2 (by decide) hT1 hF1
    have hF1' := hF.trans (c_fr0 (j := 2) (by decide) hF1)
    have t1 := x_cp_is (T := S.2.1 2) hA.1
    refine x_iconst (pc' := 20) rfl rfl iconst_0 ?_
    refine x_istore_n (pc' := 21) (lv' := [(2, _), (1, _), (0, _)]) rfl rfl (Nat.le_of_ble_eq_true rfl) rfl ?_
    refine c_frI (g := a_g A) hn9 f1 S (g_β (a_g A)) (fun f2 T2 hS2 g2 hF2 => ?_) rfl (g_n (a_g A)) 0 f1 _ (by omega) hS1 ⟨t1.1, t1.2.1.trans (by funext j; rw [show (fun j => if j < 0 then v else g_β (a_g A) j) = g_β (a_g A) from by funext j; rw [if_neg (Nat.not_lt_zero j)]]), t1.2.2⟩ x_fr.rf
    refine x_aload_n (pc' := 48) rfl rfl rfl ?_
    refine x_get (pc' := 51) rfl rfl rfl (hS2.1) rfl ?_
    refine x_aload_n (pc' := 52) rfl rfl rfl ?_
    refine x_get (pc' := 55) rfl rfl rfl (hS2.1) rfl ?_
    refine x_iconst (pc' := 56) rfl rfl iconst_2 ?_
    refine x_cV2i (d := 10) (pc' := 59) rfl rfl sX5_155 gX0_gainFor (hS2.ah) ⟨Nat.le_of_ble_eq_true rfl, Nat.le_of_ble_eq_true rfl⟩ (Nat.le_of_ble_eq_true rfl) ⟨Nat.le_of_ble_eq_true rfl, Nat.le_of_ble_eq_true rfl⟩ ?_
    refine c_gainFor (n := 2) (j := 2) (C := 99) (g := g_fl (a_g A) v) (by decide) (by decide) (by decide) (by decide) hS2 g2 hfl (fun f3 S3 hS3 l3 ch3 hF3 => ⟨_, rfl, ?_⟩)
    have hA3 : c_is S3 A := (c_tr hA).sc l3.sc
    have hF13 := (hF1'.trans hF2).trans hF3
    by_cases d : q_gI 2 (g_fl (a_g A) v) = 0
    · rw [if_pos d] at hr
      subst hr
      refine x_if_ne (tgt := 64) (pc' := 62) rfl rfl rfl (fun q => absurd d q) (fun _ => ?_)
      refine x_iload_n (pc' := 63) rfl rfl rfl ?_
      exact x_ireturn rfl rfl rfl (Nat.le_of_ble_eq_true rfl) (Nat.le_of_ble_eq_true rfl) (h _ _ hS3 hA3 hF13)
    · rw [if_neg d] at hr
      refine x_if_ne (tgt := 64) (pc' := 62) rfl rfl rfl (fun _ => ?_) (fun q => absurd q d)
      refine x_iinc (pc' := 67) (lv' := [(1, _), (2, _), (0, _)]) rfl rfl (Nat.le_of_ble_eq_true rfl) rfl (nI_1 v) rfl ?_
      refine x_goto (tgt := 2) rfl rfl ?_
      refine x_lvp [0, 2] rfl ?_
      exact ih (v + 1) f3 S3 (by omega) (by omega) hr hS3 hA3 hF13
theorem c_fair (hS : x_Sys z f S) (hA : c_is S A) (ho : a_ok A) (h : c_ends z f post (A, q_fr (fun v => q_gI 2 (g_fl (a_g A) v)) 9 1)) : Y E 14 mX5_fair [.ref 0] z f 0 0 post := by
  refine Y.intro gX5_fair (lv := [(0, .ref 0)]) rfl (Nat.le_of_ble_eq_true rfl) ?_
  refine x_iconst (pc' := 1) rfl rfl iconst_1 ?_
  refine x_istore_n (pc' := 2) (lv' := [(1, _), (0, _)]) rfl rfl (Nat.le_of_ble_eq_true rfl) rfl ?_
  exact c_frO ho f _ h 9 1 f S (by decide) (by decide) rfl hS hA x_fr.rf
end CE
end
section
-- == 72.waysC
/-! The class counts ways. -/
def q_fc (g : q_G) (b : Nat) : Nat := if g_κ g b = 2 then 21 else q_from (g_κ g b) (g_f g)
def q_loC (g : q_G) (rw : Nat → Nat) (b : Nat) : Nat := if rw b = 1 then q_fc g b else 0
def q_hiC (g : q_G) (rw : Nat → Nat) (b : Nat) : Nat := if rw b = 0 then min (q_fc g b - 1) 20 else 20
theorem q_fc_in {C : Nat} {g : q_G} {b : Nat} (h : g_ok C g) : 1 ≤ q_fc g b ∧ q_fc g b ≤ 21 := by
  have h1 := h.2.1.1
  have h2 := h.2.1.2
  unfold q_fc q_from
  repeat' split
  all_goals omega
theorem q_w1_C {C : Nat} {g : q_G} {rw : Nat → Nat} {b : Nat} (h : g_ok C g) (w : Nat → Int64) (k : Nat) : q_w1 w (q_loC g rw b) (q_hiC g rw b) k = q_w1 w (q_lo g rw b) (q_hi g rw b) k := by
  have h1 := h.2.1.1
  have h2 := h.2.1.2
  by_cases d : g_κ g b = 2
  · have e1 : q_fc g b = 21 := if_pos d
    have e2 : q_fw g b = 1000 := if_pos d
    unfold q_loC q_hiC q_lo q_hi
    rw [e1, e2]
    by_cases d1 : rw b = 1
    · rw [if_pos d1, if_pos d1, if_neg (by omega), if_neg (by omega)]
      unfold q_w1
      rw [show min 20 k + 1 - 21 = 0 by omega, show min 20 k + 1 - 1000 = 0 by omega]
      rfl
    · rw [if_neg d1, if_neg d1, if_neg (by omega : ¬ (rw b = 0 ∧ 1000 ≤ 20))]
      split <;> rfl
  · have e1 : q_fc g b = q_from (g_κ g b) (g_f g) := if_neg d
    have e2 : q_fw g b = q_from (g_κ g b) (g_f g) := if_neg d
    have e3 : 1 ≤ q_from (g_κ g b) (g_f g) ∧ q_from (g_κ g b) (g_f g) ≤ 18 := by
      unfold q_from
      repeat' split
      all_goals omega
    have el : q_loC g rw b = q_lo g rw b := by
      unfold q_loC q_lo
      rw [e1, e2]
    have eh : q_hiC g rw b = q_hi g rw b := by
      unfold q_hiC q_hi
      rw [e1, e2]
      by_cases d0 : rw b = 0
      · rw [if_pos d0, if_pos ⟨d0, by omega⟩]
        omega
      · rw [if_neg d0, if_neg (fun q => d0 q.1)]
    rw [el, eh]
def q_nlV (g : q_G) (rw : Nat → Nat) (n b : Nat) : Int64 := if q_wy g (q_up rw b 1) (g_n g) n < q_wy g (q_up rw b 0) (g_n g) n then q_wy g (q_up rw b 1) (g_n g) n else q_wy g (q_up rw b 0) (g_n g) n
def q_nl (V : Nat → Int64) (rw : Nat → Nat) : Nat → Int64 × Int32
  | 0 => (-1, -9)
  | b + 1 => if rw b = 2 ∧ (q_nl V rw b).1 < V b then (V b, nI b) else q_nl V rw b
def s_neC (A : q_A) (a : Int32) : q_A × Int32 := if a < 0 then (s_no A 4, -4) else if 40 < a then (s_no A 6, -6) else if q_isR A then (A, (q_nl (q_nlV (a_g A) (a_rf A) a.toNatClampNeg) (a_rf A) (g_n (a_g A))).2) else (s_no A 3, -3)
section WC
variable {E : x_E} {z : Nat} {f f' : x_H} {S S0 : x_S} {A : q_A} {post : Option Value → x_H → Prop} {g : q_G} {C : Nat} {a b : Int32} {w : Nat → Int64} {rw' : Nat → Nat}
theorem x_Sys.lngf {l : Nat → Int64} (h : x_Sys z f S) (ha : x_a z f' 55 (41, .inr (.inl l))) (hf : x_fr (fun q => q ≠ 55) f f') : x_Sys z f' (S.1, S.2.1, S.2.2.1, x_ul S.2.2.2 1 l) := by
  obtain ⟨h1, h2, h3, h4, h5, h6, h7, h8, h9⟩ := h
  obtain ⟨p1, p2, p3, p4, p5, p6, p7, p8, p9⟩ := x_pos2 1 (by decide)
  have e55 : x_lp 1 = 55 := rfl
  refine ⟨h1.fr hf (by decide), fun i hi => (h2 i hi).fr hf (fun a ha => ?_), fun i hi => (h3 i hi).fr hf (p2 i hi), fun i hi => ?_, h5.fr hf (by decide), h6.fr hf (by decide), h7.fr hf (by decide), h8.fr hf (by decide), h9.fr hf (by decide)⟩
  · have := p1 i hi
    show _ ≠ 55
    omega
  · by_cases hij : i = 1
    · subst hij
      simp only [x_ul, if_pos]
      exact ha
    · simp only [x_ul, if_neg hij]
      exact (h4 i hi).fr hf (p3 i hi hij)
theorem c_loV {k lo hi : Nat} (hk : k ≤ 40) (hlo : lo ≤ 1000) (hhi : hi ≤ 20) (hS : x_Sys z f S) (hw : ∀ j, j ≤ k → S.2.2.2 1 j = w j) (K : ∀ v : Int32, X E (x_rm 2 0 0) mX4_layOneMore (x_QM E z 0 0 post) 49 [(6, .int v), (4, .long (q_w1 w lo hi k)), (3, .int (nI k)), (0, .ref 54), (1, .int (nI lo)), (2, .int (nI hi))] [] z f 0 0) : ∀ (m j : Nat), j + m = min hi k + 1 - lo → X E (x_rm 2 0 0) mX4_layOneMore (x_QM E z 0 0 post) 17 [(6, .int (nI (lo + j))), (4, .long (q_su w k lo j)), (3, .int (nI k)), (0, .ref 54), (1, .int (nI lo)), (2, .int (nI hi))] [] z f 0 0 := by
  intro m
  induction m with
  | zero =>
    intro j hj
    have hj2 : j = min hi k + 1 - lo := by omega
    have K' := K (nI (lo + j))
    unfold q_w1 at K'
    rw [← hj2] at K'
    by_cases d : hi < lo + j
    ·
      refine x_iload (pc' := 19) rfl rfl rfl ?_
      refine x_iload_n (pc' := 20) rfl rfl rfl ?_
      refine x_icmp_gt (tgt := 49) (pc' := 23) rfl rfl rfl (fun _ => ?_) (fun c20 => absurd ((nI_lt d (by omega))) c20)
      exact K'
    ·
      refine x_iload (pc' := 19) rfl rfl rfl ?_
      refine x_iload_n (pc' := 20) rfl rfl rfl ?_
      refine x_icmp_gt (tgt := 49) (pc' := 23) rfl rfl rfl (fun c20 => absurd c20 ((nI_nlt (by omega) (by omega)))) (fun _ => ?_)
      refine x_iload (pc' := 25) rfl rfl rfl ?_
      refine x_iload_n (pc' := 26) rfl rfl rfl ?_
      refine x_icmp_gt (tgt := 49) (pc' := 29) rfl rfl rfl (fun _ => ?_) (fun c26 => absurd ((nI_lt (by omega) (by omega))) c26)
      exact K'
  | succ m ih =>
    intro j hj
    have e1 : S.2.2.2 1 (nI (k - (lo + j))).toNatClampNeg = w (k - (lo + j)) := by rw [nI_clamp (by omega), hw _ (by omega)]
    refine x_iload (pc' := 19) rfl rfl rfl ?_
    refine x_iload_n (pc' := 20) rfl rfl rfl ?_
    refine x_icmp_gt (tgt := 49) (pc' := 23) rfl rfl rfl (fun c20 => absurd c20 ((nI_nlt (by omega) (by omega)))) (fun _ => ?_)
    refine x_iload (pc' := 25) rfl rfl rfl ?_
    refine x_iload_n (pc' := 26) rfl rfl rfl ?_
    refine x_icmp_gt (tgt := 49) (pc' := 29) rfl rfl rfl (fun c26 => absurd c26 ((nI_nlt (by omega) (by omega)))) (fun _ => ?_)
    refine x_lload (pc' := 31) rfl rfl rfl ?_
    refine x_aload_n (pc' := 32) rfl rfl rfl ?_
    refine x_get (pc' := 35) rfl rfl rfl (hS.wy) rfl ?_
    refine x_iload_n (pc' := 36) rfl rfl rfl ?_
    refine x_iload (pc' := 38) rfl rfl rfl ?_
    refine x_isub (pc' := 39) rfl rfl ?_
    refine x_eqi (pk_sub (by omega)) ?_
    refine x_laload (pc' := 40) rfl rfl (hS.2.2.2.1 1 (by decide)) (vp_in_nI (n := k - (lo + j)) (N := 41) (by omega) (by decide)) ?_
    refine x_eql e1 ?_
    refine x_ladd (pc' := 41) rfl rfl ?_
    refine x_lstore (pc' := 43) (lv' := [(4, _), (6, _), (3, _), (0, _), (1, _), (2, _)]) rfl rfl (Nat.le_of_ble_eq_true rfl) rfl ?_
    refine x_iinc (pc' := 46) (lv' := [(6, _), (4, _), (3, _), (0, _), (1, _), (2, _)]) rfl rfl (Nat.le_of_ble_eq_true rfl) rfl (nI_1 _) rfl ?_
    refine x_goto (tgt := 17) rfl rfl ?_
    exact ih (j + 1) (by omega)
theorem c_loK {lo hi : Nat} (hlo : lo ≤ 1000) (hhi : hi ≤ 20) (f0 : x_H) (S0 : x_S) (h : ∀ (f' : x_H) (W : Nat → Int64), (∀ j, j ≤ 40 → W j = q_w1 w lo hi j) → x_Sys z f' (S0.1, S0.2.1, S0.2.2.1, x_ul S0.2.2.2 1 W) → x_fr (fun q => 59 ≤ q) f0 f' → post none f') : ∀ (m : Nat) (f : x_H) (W : Nat → Int64), m ≤ 41 → (∀ j, j ≤ 40 → W j = if m ≤ j then q_w1 w lo hi j else w j) → x_Sys z f (S0.1, S0.2.1, S0.2.2.1, x_ul S0.2.2.2 1 W) → x_fr (fun q => 59 ≤ q) f0 f → X E (x_rm 2 0 0) mX4_layOneMore (x_QM E z 0 0 post) 3 [(3, .int (nI m + Int32.ofInt (-1))), (0, .ref 54), (1, .int (nI lo)), (2, .int (nI hi))] [] z f 0 0 := by
  intro m
  induction m with
  | zero =>
    intro f W hm hW hS hF
    refine x_iload_n (pc' := 4) rfl rfl rfl ?_
    refine x_if_lt (tgt := 63) (pc' := 7) rfl rfl rfl (fun _ => ?_) (fun c4 => absurd ((by decide)) c4)
    exact x_return rfl rfl (Nat.le_of_ble_eq_true rfl) (Nat.le_of_ble_eq_true rfl) (h f W (fun j hj => (hW j hj).trans (if_pos (Nat.zero_le j))) hS hF)
  | succ k ih =>
    intro f W hm hW hS hF
    have hcl : (nI k).toNatClampNeg = k := nI_clamp (by omega)
    rw [show nI (k + 1) + Int32.ofInt (-1) = nI k from nI_m1 (Nat.succ_pos k)]
    refine x_iload_n (pc' := 4) rfl rfl rfl ?_
    refine x_if_lt (tgt := 63) (pc' := 7) rfl rfl rfl (fun c4 => absurd c4 ((nI_pos (by omega)))) (fun _ => ?_)
    refine x_lconst (pc' := 8) rfl rfl lconst_0 ?_
    refine x_lstore (pc' := 10) (lv' := [(4, _), (3, _), (0, _), (1, _), (2, _)]) rfl rfl (Nat.le_of_ble_eq_true rfl) rfl ?_
    refine x_iload_n (pc' := 11) rfl rfl rfl ?_
    refine x_iconst (pc' := 12) rfl rfl iconst_0 ?_
    refine x_mmax (pc' := 15) rfl rfl sX4_45 ⟨Nat.le_of_ble_eq_true rfl, Nat.le_of_ble_eq_true rfl⟩ (Nat.le_of_ble_eq_true rfl) (Nat.le_of_ble_eq_true rfl) (Nat.le_of_ble_eq_true rfl) ?_
    refine x_eqi (show (if nI lo < 0 then (0 : Int32) else nI lo) = nI lo from if_neg (nI_pos (by omega))) ?_
    refine x_istore (pc' := 17) (lv' := [(6, _), (4, _), (3, _), (0, _), (1, _), (2, _)]) rfl rfl (Nat.le_of_ble_eq_true rfl) rfl ?_
    refine c_loV (w := w) (by omega) hlo hhi hS (fun j hj => by show x_ul S0.2.2.2 1 W 1 j = w j; rw [show x_ul S0.2.2.2 1 W 1 = W from rfl, hW j (by omega), if_neg (by omega)]) (fun v => ?_) (min hi k + 1 - lo) 0 (by omega)
    refine x_aload_n (pc' := 50) rfl rfl rfl ?_
    refine x_get (pc' := 53) rfl rfl rfl (hS.wy) rfl ?_
    refine x_iload_n (pc' := 54) rfl rfl rfl ?_
    refine x_lload (pc' := 56) rfl rfl rfl ?_
    refine x_lastore (pc' := 57) rfl rfl (hS.2.2.2.1 1 (by decide)) (vp_in_nI (n := k) (N := 41) (by omega) (by decide)) (fun f1 e1 => ?_)
    have hS1 := hS.lng 1 (by decide) e1
    have hF1 := hF.up e1 (by decide)
    rw [x_ul_ul, hcl] at hS1
    refine x_iinc (pc' := 60) (lv' := [(3, _), (6, _), (4, _), (0, _), (1, _), (2, _)]) rfl rfl (Nat.le_of_ble_eq_true rfl) rfl (rfl) rfl ?_
    refine x_goto (tgt := 3) rfl rfl ?_
    refine x_lvp [0, 3, 4, 5] rfl ?_
    refine ih _ (vp_updL W k (q_w1 w lo hi k)) (by omega) (fun j hj => ?_) hS1 hF1
    unfold vp_updL
    by_cases d : j = k
    · rw [if_pos d, if_pos (by omega), d]
    · rw [if_neg d, hW j hj]
      by_cases d2 : k + 1 ≤ j
      · rw [if_pos d2, if_pos (by omega)]
      · rw [if_neg d2, if_neg (by omega)]
theorem c_layOne {lo hi : Nat} (hlo : lo ≤ 1000) (hhi : hi ≤ 20) (hS : x_Sys z f S) (hw : ∀ j, j ≤ 40 → S.2.2.2 1 j = w j) (h : ∀ (f' : x_H) (W : Nat → Int64), (∀ j, j ≤ 40 → W j = q_w1 w lo hi j) → x_Sys z f' (S.1, S.2.1, S.2.2.1, x_ul S.2.2.2 1 W) → x_fr (fun q => 59 ≤ q) f f' → post none f') : Y E 2 mX4_layOneMore [.ref 54, .int (nI lo), .int (nI hi)] z f 0 0 post := by
  refine Y.intro gX4_layOneMore (lv := [(0, .ref 54), (1, .int (nI lo)), (2, .int (nI hi))]) rfl (Nat.le_of_ble_eq_true rfl) ?_
  refine x_bipush (pc' := 2) rfl rfl bipush_40 ?_
  refine x_istore_n (pc' := 3) (lv' := [(3, _), (0, _), (1, _), (2, _)]) rfl rfl (Nat.le_of_ble_eq_true rfl) rfl ?_
  exact c_loK hlo hhi f S h 41 f (S.2.2.2 1) (by decide) (fun j hj => by rw [if_neg (by omega)]; exact hw j hj) (by rw [x_ul_id]; exact hS) x_fr.rf
theorem q_fcI {g : q_G} {b : Nat} (h : g_κ g b ≠ 2) : nI (q_from (g_κ g b) (g_f g)) = nI (q_fc g b) := by
  unfold q_fc
  rw [if_neg h]
theorem c_tlB {n q : Nat} (hq : q = 4 ∨ q = 5) (hn : n ≤ 40) (hg : g_ok C g) (f0 : x_H) (S0 : x_S) (ht : t_is (S0.2.1 0) g) (hrw : S0.2.2.1 q = fun i => nI (rw' i)) (hr9 : ∀ i, rw' i ≤ 9) (h : ∀ (f' : x_H) (W : Nat → Int64), x_Sys z f' (S0.1, S0.2.1, S0.2.2.1, x_ul S0.2.2.2 1 W) → x_fr (fun q => 59 ≤ q) f0 f' → post (some (.long (q_wy g rw' (g_n g) n))) f') : ∀ (m b : Nat) (f : x_H) (W : Nat → Int64), b + m = g_n g → x_Sys z f (S0.1, S0.2.1, S0.2.2.1, x_ul S0.2.2.2 1 W) → (∀ j, j ≤ 40 → W j = q_wy g rw' b j) → x_fr (fun q => 59 ≤ q) f0 f → X E (x_rm 3 0 0) mX4_toLay (x_QM E z 0 0 post) 30 [(4, .int (nI b)), (0, .ref 54), (1, .ref 1), (2, .ref (x_ap q)), (3, .int (nI n))] [] z f 0 0 := by
  have hn9 := hg.1
  have hq7 : q < 7 := by omega
  have eq12 : x_an q = 12 := by rcases hq with rfl | rfl <;> rfl
  intro m
  induction m with
  | zero =>
    intro b f W hb hS hW hF
    have hb2 : b = g_n g := by omega
    subst hb2
    have e1 : x_ul S0.2.2.2 1 W 1 (nI n).toNatClampNeg = q_wy g rw' (g_n g) n := by rw [nI_clamp (by omega)]; exact hW n hn
    refine x_iload (pc' := 32) rfl rfl rfl ?_
    refine x_aload_n (pc' := 33) rfl rfl rfl ?_
    refine x_get (pc' := 36) rfl rfl rfl ((hS.2.1 0 (by decide)).1) rfl ?_
    refine x_eqi ht.2.2.2.1 ?_
    refine x_icmp_ge (tgt := 123) (pc' := 39) rfl rfl rfl (fun _ => ?_) (fun c36 => absurd ((Int32.le_refl _)) c36)
    refine x_aload_n (pc' := 124) rfl rfl rfl ?_
    refine x_get (pc' := 127) rfl rfl rfl (hS.wy) rfl ?_
    refine x_iload_n (pc' := 128) rfl rfl rfl ?_
    refine x_laload (pc' := 129) rfl rfl (hS.2.2.2.1 1 (by decide)) (vp_in_nI (n := n) (N := 41) (by omega) (by decide)) ?_
    refine x_eql e1 ?_
    exact x_lreturn rfl rfl (Nat.le_of_ble_eq_true rfl) (Nat.le_of_ble_eq_true rfl) (h _ _ hS hF)
  | succ m ih =>
    intro b f W hb hS hW hF
    have hT : x_t z f 1 (S0.2.1 0) := hS.2.1 0 (by decide)
    have hκ := hg.2.2.2.2.1 b
    have hfu := hg.2.1
    have hfc := q_fc_in (b := b) hg
    have hr := hr9 b
    have hcl : (nI b).toNatClampNeg = b := nI_clamp (by omega)
    have ha := hS.2.2.1 q hq7
    rw [eq12] at ha
    have er : S0.2.2.1 q (nI b).toNatClampNeg = nI (rw' b) := by rw [hcl, hrw]
    have K109 : X E (x_rm 3 0 0) mX4_toLay (x_QM E z 0 0 post) 109 [(7, .int (nI (q_hiC g rw' b))), (6, .int (nI (q_loC g rw' b))), (5, .int (nI (q_fc g b))), (4, .int (nI b)), (0, .ref 54), (1, .ref 1), (2, .ref (x_ap q)), (3, .int (nI n))] [] z f 0 0 := by
      have hlo : q_loC g rw' b ≤ 1000 := by
        unfold q_loC
        split <;> omega
      have hhi : q_hiC g rw' b ≤ 20 := by
        unfold q_hiC
        split <;> omega
      refine x_aload_n (pc' := 110) rfl rfl rfl ?_
      refine x_iload (pc' := 112) rfl rfl rfl ?_
      refine x_iload (pc' := 114) rfl rfl rfl ?_
      refine x_cV2v (d := 2) (pc' := 117) rfl rfl sX4_41 gX4_layOneMore (hS.wy) ⟨Nat.le_of_ble_eq_true rfl, Nat.le_of_ble_eq_true rfl⟩ (Nat.le_of_ble_eq_true rfl) ⟨Nat.le_of_ble_eq_true rfl, Nat.le_of_ble_eq_true rfl⟩ ?_
      refine c_layOne (w := q_wy g rw' b) hlo hhi hS hW (fun f1 W1 hW1 hS1 hF1 => ⟨rfl, ?_⟩)
      rw [x_ul_ul] at hS1
      refine x_iinc (pc' := 120) (lv' := [(4, _), (7, _), (6, _), (5, _), (0, _), (1, _), (2, _), (3, _)]) rfl rfl (Nat.le_of_ble_eq_true rfl) rfl (nI_1 b) rfl ?_
      refine x_goto (tgt := 30) rfl rfl ?_
      refine x_lvp [0, 4, 5, 6, 7] rfl ?_
      exact ih (b + 1) f1 W1 (by omega) hS1 (fun j hj => (hW1 j hj).trans (q_w1_C hg (q_wy g rw' b) j)) (hF.trans hF1)
    have K70 : X E (x_rm 3 0 0) mX4_toLay (x_QM E z 0 0 post) 70 [(5, .int (nI (q_fc g b))), (4, .int (nI b)), (0, .ref 54), (1, .ref 1), (2, .ref (x_ap q)), (3, .int (nI n))] [] z f 0 0 := by
      refine x_aload_n (pc' := 71) rfl rfl rfl ?_
      refine x_iload (pc' := 73) rfl rfl rfl ?_
      refine x_iaload (pc' := 74) rfl rfl (ha) (vp_in_nI (n := b) (N := 12) (by omega) (by decide)) ?_
      refine x_eqi er ?_
      refine x_iconst (pc' := 75) rfl rfl iconst_1 ?_
      by_cases d : rw' b = 1
      · have elo : nI (q_fc g b) = nI (q_loC g rw' b) := by unfold q_loC; rw [if_pos d]
        refine x_icmp_ne (tgt := 83) (pc' := 78) rfl rfl rfl (fun q => absurd (by rw [d]; rfl) q) (fun _ => ?_)
        refine x_iload (pc' := 80) rfl rfl rfl ?_
        refine x_goto (tgt := 84) rfl rfl ?_
        refine x_eqi elo ?_
        refine x_istore (pc' := 86) (lv' := [(6, _), (5, _), (4, _), (0, _), (1, _), (2, _), (3, _)]) rfl rfl (Nat.le_of_ble_eq_true rfl) rfl ?_
        refine x_aload_n (pc' := 87) rfl rfl rfl ?_
        refine x_iload (pc' := 89) rfl rfl rfl ?_
        refine x_iaload (pc' := 90) rfl rfl (ha) (vp_in_nI (n := b) (N := 12) (by omega) (by decide)) ?_
        refine x_eqi er ?_
        by_cases d5 : rw' b = 0
        · have ehi : (if (20 : Int32) < nI (q_fc g b - 1) then (20 : Int32) else nI (q_fc g b - 1)) = nI (q_hiC g rw' b) := by
            unfold q_hiC
            rw [if_pos d5, if_neg (show ¬ (20 : Int32) < nI (q_fc g b - 1) from nI_nlt (a := 20) (b := q_fc g b - 1) (by omega) (by decide)), show min (q_fc g b - 1) 20 = q_fc g b - 1 by omega]
          refine x_if_ne (tgt := 105) (pc' := 93) rfl rfl rfl (fun q => absurd (by rw [d5]; rfl) q) (fun _ => ?_)
          refine x_iload (pc' := 95) rfl rfl rfl ?_
          refine x_iconst (pc' := 96) rfl rfl iconst_1 ?_
          refine x_isub (pc' := 97) rfl rfl ?_
          refine x_eqi (show nI (q_fc g b) - 1 = nI (q_fc g b - 1) from pk_sub (b := 1) hfc.1) ?_
          refine x_bipush (pc' := 99) rfl rfl bipush_20 ?_
          refine x_mmin (pc' := 102) rfl rfl sX4_35 ⟨Nat.le_of_ble_eq_true rfl, Nat.le_of_ble_eq_true rfl⟩ (Nat.le_of_ble_eq_true rfl) (Nat.le_of_ble_eq_true rfl) (Nat.le_of_ble_eq_true rfl) ?_
          refine x_goto (tgt := 107) rfl rfl ?_
          refine x_eqi ehi ?_
          refine x_istore (pc' := 109) (lv' := [(7, _), (6, _), (5, _), (4, _), (0, _), (1, _), (2, _), (3, _)]) rfl rfl (Nat.le_of_ble_eq_true rfl) rfl ?_
          exact K109
        · have ehi : 20 = nI (q_hiC g rw' b) := by unfold q_hiC; rw [if_neg d5]; rfl
          refine x_if_ne (tgt := 105) (pc' := 93) rfl rfl rfl (fun _ => ?_) (fun q => absurd q (nI_ne0 (by omega) (by omega)))
          refine x_bipush (pc' := 107) rfl rfl bipush_20 ?_
          refine x_eqi ehi ?_
          refine x_istore (pc' := 109) (lv' := [(7, _), (6, _), (5, _), (4, _), (0, _), (1, _), (2, _), (3, _)]) rfl rfl (Nat.le_of_ble_eq_true rfl) rfl ?_
          exact K109
      · have elo : 0 = nI (q_loC g rw' b) := by unfold q_loC; rw [if_neg d]; rfl
        refine x_icmp_ne (tgt := 83) (pc' := 78) rfl rfl rfl (fun _ => ?_) (fun q => absurd ((nI_eq (b := 1) (by omega) (by decide)).mp q) d)
        refine x_iconst (pc' := 84) rfl rfl iconst_0 ?_
        refine x_eqi elo ?_
        refine x_istore (pc' := 86) (lv' := [(6, _), (5, _), (4, _), (0, _), (1, _), (2, _), (3, _)]) rfl rfl (Nat.le_of_ble_eq_true rfl) rfl ?_
        refine x_aload_n (pc' := 87) rfl rfl rfl ?_
        refine x_iload (pc' := 89) rfl rfl rfl ?_
        refine x_iaload (pc' := 90) rfl rfl (ha) (vp_in_nI (n := b) (N := 12) (by omega) (by decide)) ?_
        refine x_eqi er ?_
        by_cases d5 : rw' b = 0
        · have ehi : (if (20 : Int32) < nI (q_fc g b - 1) then (20 : Int32) else nI (q_fc g b - 1)) = nI (q_hiC g rw' b) := by
            unfold q_hiC
            rw [if_pos d5, if_neg (show ¬ (20 : Int32) < nI (q_fc g b - 1) from nI_nlt (a := 20) (b := q_fc g b - 1) (by omega) (by decide)), show min (q_fc g b - 1) 20 = q_fc g b - 1 by omega]
          refine x_if_ne (tgt := 105) (pc' := 93) rfl rfl rfl (fun q => absurd (by rw [d5]; rfl) q) (fun _ => ?_)
          refine x_iload (pc' := 95) rfl rfl rfl ?_
          refine x_iconst (pc' := 96) rfl rfl iconst_1 ?_
          refine x_isub (pc' := 97) rfl rfl ?_
          refine x_eqi (show nI (q_fc g b) - 1 = nI (q_fc g b - 1) from pk_sub (b := 1) hfc.1) ?_
          refine x_bipush (pc' := 99) rfl rfl bipush_20 ?_
          refine x_mmin (pc' := 102) rfl rfl sX4_35 ⟨Nat.le_of_ble_eq_true rfl, Nat.le_of_ble_eq_true rfl⟩ (Nat.le_of_ble_eq_true rfl) (Nat.le_of_ble_eq_true rfl) (Nat.le_of_ble_eq_true rfl) ?_
          refine x_goto (tgt := 107) rfl rfl ?_
          refine x_eqi ehi ?_
          refine x_istore (pc' := 109) (lv' := [(7, _), (6, _), (5, _), (4, _), (0, _), (1, _), (2, _), (3, _)]) rfl rfl (Nat.le_of_ble_eq_true rfl) rfl ?_
          exact K109
        · have ehi : 20 = nI (q_hiC g rw' b) := by unfold q_hiC; rw [if_neg d5]; rfl
          refine x_if_ne (tgt := 105) (pc' := 93) rfl rfl rfl (fun _ => ?_) (fun q => absurd q (nI_ne0 (by omega) (by omega)))
          refine x_bipush (pc' := 107) rfl rfl bipush_20 ?_
          refine x_eqi ehi ?_
          refine x_istore (pc' := 109) (lv' := [(7, _), (6, _), (5, _), (4, _), (0, _), (1, _), (2, _), (3, _)]) rfl rfl (Nat.le_of_ble_eq_true rfl) rfl ?_
          exact K109
    refine x_iload (pc' := 32) rfl rfl rfl ?_
    refine x_aload_n (pc' := 33) rfl rfl rfl ?_
    refine x_get (pc' := 36) rfl rfl rfl (hT.1) rfl ?_
    refine x_eqi ht.2.2.2.1 ?_
    refine x_icmp_ge (tgt := 123) (pc' := 39) rfl rfl rfl (fun c36 => absurd c36 ((nI_ge (by omega) (by omega)))) (fun _ => ?_)
    refine x_iload (pc' := 41) rfl rfl rfl ?_
    refine x_aload_n (pc' := 42) rfl rfl rfl ?_
    refine x_alen (pc' := 43) rfl rfl (ha) ?_
    refine x_icmp_ge (tgt := 123) (pc' := 46) rfl rfl rfl (fun c43 => absurd c43 ((show ¬ nI 12 ≤ nI b from nI_ge (by omega) (by decide)))) (fun _ => ?_)
    refine x_aload_n (pc' := 47) rfl rfl rfl ?_
    refine x_iload (pc' := 49) rfl rfl rfl ?_
    refine x_cV1i (d := 2) (pc' := 52) rfl rfl sX4_31 gX3_soundsFrom (hT.1) ⟨Nat.le_of_ble_eq_true rfl, Nat.le_of_ble_eq_true rfl⟩ (Nat.le_of_ble_eq_true rfl) ⟨Nat.le_of_ble_eq_true rfl, Nat.le_of_ble_eq_true rfl⟩ ?_
    refine w_sounds hT ht.2.2.2.1 hn9 ht.2.2.2.2.1 (by omega) ht.1 hg.2.2.2.2.1 (by omega) ⟨_, rfl, ?_⟩
    refine x_bipush (pc' := 54) rfl rfl bipush_m9 ?_
    by_cases d2 : g_κ g b = 2
    · rw [if_pos d2]
      have e68 : 21 = nI (q_fc g b) := by unfold q_fc; rw [if_pos d2]; rfl
      refine x_icmp_ne (tgt := 62) (pc' := 57) rfl rfl rfl (fun q => absurd rfl q) (fun _ => ?_)
      refine x_bipush (pc' := 59) rfl rfl bipush_21 ?_
      refine x_goto (tgt := 68) rfl rfl ?_
      refine x_eqi e68 ?_
      refine x_istore (pc' := 70) (lv' := [(5, _), (4, _), (0, _), (1, _), (2, _), (3, _)]) rfl rfl (Nat.le_of_ble_eq_true rfl) rfl ?_
      exact K70
    · rw [if_neg d2]
      have e68 := q_fcI d2
      have hqf := hfc.2
      unfold q_fc at hqf
      rw [if_neg d2] at hqf
      refine x_icmp_ne (tgt := 62) (pc' := 57) rfl rfl rfl (fun _ => ?_) (fun q => absurd q (q_oI_ne (by omega)))
      refine x_aload_n (pc' := 63) rfl rfl rfl ?_
      refine x_iload (pc' := 65) rfl rfl rfl ?_
      refine x_cV1i (d := 2) (pc' := 68) rfl rfl sX4_31 gX3_soundsFrom (hT.1) ⟨Nat.le_of_ble_eq_true rfl, Nat.le_of_ble_eq_true rfl⟩ (Nat.le_of_ble_eq_true rfl) ⟨Nat.le_of_ble_eq_true rfl, Nat.le_of_ble_eq_true rfl⟩ ?_
      refine w_sounds hT ht.2.2.2.1 hn9 ht.2.2.2.2.1 (by omega) ht.1 hg.2.2.2.2.1 (by omega) ⟨_, rfl, ?_⟩
      rw [if_neg d2]
      refine x_eqi e68 ?_
      refine x_istore (pc' := 70) (lv' := [(5, _), (4, _), (0, _), (1, _), (2, _), (3, _)]) rfl rfl (Nat.le_of_ble_eq_true rfl) rfl ?_
      exact K70
theorem c_toLay {n q : Nat} (hq : q = 4 ∨ q = 5) (hn : n ≤ 40) (hg : g_ok C g) (hS : x_Sys z f S) (ht : t_is (S.2.1 0) g) (hrw : S.2.2.1 q = fun i => nI (rw' i)) (hr9 : ∀ i, rw' i ≤ 9) (h : ∀ (f' : x_H) (W : Nat → Int64), x_Sys z f' (S.1, S.2.1, S.2.2.1, x_ul S.2.2.2 1 W) → x_fr (fun q => 59 ≤ q) f f' → post (some (.long (q_wy g rw' (g_n g) n))) f') : Y E 3 mX4_toLay [.ref 54, .ref 1, .ref (x_ap q), .int (nI n)] z f 0 0 post := by
  refine Y.intro gX4_toLay (lv := [(0, .ref 54), (1, .ref 1), (2, .ref (x_ap q)), (3, .int (nI n))]) rfl (Nat.le_of_ble_eq_true rfl) ?_
  refine x_iload_n (pc' := 1) rfl rfl rfl ?_
  refine x_if_lt (tgt := 10) (pc' := 4) rfl rfl rfl (fun c1 => absurd c1 (nI_pos (by omega))) (fun _ => ?_)
  refine x_iload_n (pc' := 5) rfl rfl rfl ?_
  refine x_bipush (pc' := 7) rfl rfl bipush_40 ?_
  refine x_icmp_le (tgt := 12) (pc' := 10) rfl rfl rfl (fun _ => ?_) (fun c7 => absurd ((nI_le (a := n) (b := 40) hn (by decide))) c7)
  refine x_aload_n (pc' := 13) rfl rfl rfl ?_
  refine x_get (pc' := 16) rfl rfl rfl (hS.wy) rfl ?_
  refine x_lconst (pc' := 17) rfl rfl lconst_0 ?_
  refine x_cS2v (d := 1) (pc' := 20) rfl rfl sX4_19 gJ7_fill_d0a16 ⟨Nat.le_of_ble_eq_true rfl, Nat.le_of_ble_eq_true rfl⟩ (Nat.le_of_ble_eq_true rfl) ⟨Nat.le_of_ble_eq_true rfl, Nat.le_of_ble_eq_true rfl⟩ ?_
  refine w_fill (by decide) (hS.2.2.2.1 1 (by decide)) (fun f1 ha1 hF1 => ⟨rfl, ?_⟩)
  have hS1 := hS.lngf ha1 hF1
  have hF1' : x_fr (fun q => 59 ≤ q) f f1 := hF1.mono (fun q hq => by have : 59 ≤ q := hq; show q ≠ 55; omega)
  refine x_aload_n (pc' := 21) rfl rfl rfl ?_
  refine x_get (pc' := 24) rfl rfl rfl (hS1.wy) rfl ?_
  refine x_iconst (pc' := 25) rfl rfl iconst_0 ?_
  refine x_lconst (pc' := 26) rfl rfl lconst_1 ?_
  refine x_lastore (pc' := 27) rfl rfl (hS1.2.2.2.1 1 (by decide)) (vp_in_nI (n := 0) (N := 41) (by decide) (by decide)) (fun f1 e1 => ?_)
  have hS2 := hS1.lng 1 (by decide) e1
  have hF2 := hF1'.up e1 (by decide)
  rw [x_ul_ul] at hS2
  refine x_iconst (pc' := 28) rfl rfl iconst_0 ?_
  refine x_istore (pc' := 30) (lv' := [(4, _), (0, _), (1, _), (2, _), (3, _)]) rfl rfl (Nat.le_of_ble_eq_true rfl) rfl ?_
  refine c_tlB hq hn hg f S ht hrw hr9 h (g_n g) 0 _ _ (by omega) hS2 (fun j hj => ?_) hF2
  show vp_updL (fun _ => (0 : Int64)) (Int32.toNatClampNeg 0) 1 j = (if j = 0 then 1 else 0)
  rfl
theorem c_rfL (hS : x_Sys z f S) (hA : c_is S A) (ho : a_ok A) (h1 : (∀ i, i < a_rc A → a_rf A i ≤ 2) → post (some (.int 0)) f) (h0 : ¬ (∀ i, i < a_rc A → a_rf A i ≤ 2) → post (some (.int (-3))) f) : ∀ (m i : Nat), i + m = a_rc A → (∀ j, j < i → a_rf A j ≤ 2) → X E (x_rm 1 0 0) mX5_refusalToLay (x_QM E z 0 0 post) 35 [(2, .int (nI i)), (0, .ref 0), (1, .int a)] [] z f 0 0 := by
  obtain ⟨b1, b2, b3, b4, b5, b6, b7, b8⟩ := id hA
  have hrc := ho.2.2.2.2.2.1
  intro m
  induction m with
  | zero =>
    intro i hi hj
    have hi2 : i = a_rc A := by omega
    subst hi2
    refine x_iload_n (pc' := 36) rfl rfl rfl ?_
    refine x_aload_n (pc' := 37) rfl rfl rfl ?_
    refine x_get (pc' := 40) rfl rfl rfl (hS.1) rfl ?_
    refine x_eqi b6 ?_
    refine x_icmp_ge (tgt := 71) (pc' := 43) rfl rfl rfl (fun _ => ?_) (fun c40 => absurd ((Int32.le_refl _)) c40)
    refine x_iconst (pc' := 72) rfl rfl iconst_0 ?_
    exact x_ireturn rfl rfl rfl (Nat.le_of_ble_eq_true rfl) (Nat.le_of_ble_eq_true rfl) (h1 hj)
  | succ m ih =>
    intro i hi hj
    have h9 := ho.2.2.2.2.2.2 i
    have er : S.2.2.1 5 (nI i).toNatClampNeg = nI (a_rf A i) := by rw [nI_clamp (by omega), b7]
    refine x_iload_n (pc' := 36) rfl rfl rfl ?_
    refine x_aload_n (pc' := 37) rfl rfl rfl ?_
    refine x_get (pc' := 40) rfl rfl rfl (hS.1) rfl ?_
    refine x_eqi b6 ?_
    refine x_icmp_ge (tgt := 71) (pc' := 43) rfl rfl rfl (fun c40 => absurd c40 ((nI_ge (by omega) (by omega)))) (fun _ => ?_)
    refine x_iload_n (pc' := 44) rfl rfl rfl ?_
    refine x_aload_n (pc' := 45) rfl rfl rfl ?_
    refine x_get (pc' := 48) rfl rfl rfl (hS.1) rfl ?_
    refine x_alen (pc' := 49) rfl rfl (hS.2.2.1 5 (by decide)) ?_
    refine x_icmp_ge (tgt := 71) (pc' := 52) rfl rfl rfl (fun c49 => absurd c49 ((show ¬ nI 12 ≤ nI i from nI_ge (by omega) (by decide)))) (fun _ => ?_)
    refine x_aload_n (pc' := 53) rfl rfl rfl ?_
    refine x_get (pc' := 56) rfl rfl rfl (hS.1) rfl ?_
    refine x_iload_n (pc' := 57) rfl rfl rfl ?_
    refine x_iaload (pc' := 58) rfl rfl (hS.2.2.1 5 (by decide)) (vp_in_nI (n := i) (N := 12) (by omega) (by decide)) ?_
    refine x_eqi er ?_
    refine x_iconst (pc' := 59) rfl rfl iconst_2 ?_
    by_cases d : a_rf A i ≤ 2
    · refine x_icmp_le (tgt := 65) (pc' := 62) rfl rfl rfl (fun _ => ?_) (fun q => absurd (nI_le (b := 2) d (by decide)) q)
      refine x_iinc (pc' := 68) (lv' := [(2, _), (0, _), (1, _)]) rfl rfl (Nat.le_of_ble_eq_true rfl) rfl (nI_1 i) rfl ?_
      refine x_goto (tgt := 35) rfl rfl ?_
      exact ih (i + 1) (by omega) (fun j hj2 => by
        by_cases e : j = i
        · rw [e]
          exact d
        · exact hj j (by omega))
    · refine x_icmp_le (tgt := 65) (pc' := 62) rfl rfl rfl (fun q => absurd q (nI_ge (a := 2) (by omega) (by omega))) (fun _ => ?_)
      refine x_bipush (pc' := 64) rfl rfl bipush_m3 ?_
      exact x_ireturn rfl rfl rfl (Nat.le_of_ble_eq_true rfl) (Nat.le_of_ble_eq_true rfl) (h0 (fun q => d (q i (by omega))))
theorem c_rf (hS : x_Sys z f S) (hA : c_is S A) (ho : a_ok A) (h : post (some (.int (if a < 0 then -4 else if 40 < a then -6 else if q_isR A then 0 else -3))) f) : Y E 1 mX5_refusalToLay [.ref 0, .int a] z f 0 0 post := by
  refine Y.intro gX5_refusalToLay (lv := [(0, .ref 0), (1, .int a)]) rfl (Nat.le_of_ble_eq_true rfl) ?_
  obtain ⟨b1, b2, b3, b4, b5, b6, b7, b8⟩ := id hA
  have hrc := ho.2.2.2.2.2.1
  have hn9 := ho.1.1
  refine x_iload_n (pc' := 1) rfl rfl rfl ?_
  refine x_if_ge (tgt := 7) (pc' := 4) rfl rfl rfl (fun c1 => ?_) (fun c1 => ?_)
  · have d1 : ¬ a < 0 := Int32.not_lt.mpr c1
    rw [if_neg d1] at h
    refine x_iload_n (pc' := 8) rfl rfl rfl ?_
    refine x_bipush (pc' := 10) rfl rfl bipush_40 ?_
    refine x_icmp_le (tgt := 16) (pc' := 13) rfl rfl rfl (fun c10 => ?_) (fun c10 => ?_)
    · have d2 : ¬ 40 < a := Int32.not_lt.mpr c10
      rw [if_neg d2] at h
      refine x_aload_n (pc' := 17) rfl rfl rfl ?_
      refine x_get (pc' := 20) rfl rfl rfl (hS.1) rfl ?_
      refine x_eqi b6 ?_
      refine x_aload_n (pc' := 21) rfl rfl rfl ?_
      refine x_get (pc' := 24) rfl rfl rfl (hS.1) rfl ?_
      refine x_get (pc' := 27) rfl rfl rfl ((hS.2.1 0 (by decide)).1) rfl ?_
      refine x_eqi b1.2.2.2.1 ?_
      by_cases d : a_rc A = g_n (a_g A)
      · refine x_icmp_eq (tgt := 33) (pc' := 30) rfl rfl rfl (fun _ => ?_) (fun q => absurd (by rw [d]) q)
        refine x_iconst (pc' := 34) rfl rfl iconst_0 ?_
        refine x_istore_n (pc' := 35) (lv' := [(2, _), (0, _), (1, _)]) rfl rfl (Nat.le_of_ble_eq_true rfl) rfl ?_
        exact c_rfL hS hA ho (fun q => by rw [if_pos ⟨d, q⟩] at h; exact h) (fun q => by rw [if_neg (fun k => q k.2)] at h; exact h) (a_rc A) 0 (by omega) (fun j hj => absurd hj (Nat.not_lt_zero j))
      · rw [if_neg (fun q => d q.1)] at h
        refine x_icmp_eq (tgt := 33) (pc' := 30) rfl rfl rfl (fun q => absurd ((nI_eq (by omega) (by omega)).mp q) d) (fun _ => ?_)
        refine x_bipush (pc' := 32) rfl rfl bipush_m3 ?_
        exact x_ireturn rfl rfl rfl (Nat.le_of_ble_eq_true rfl) (Nat.le_of_ble_eq_true rfl) (h)
    · rw [if_pos (Int32.not_le.mp c10)] at h
      refine x_bipush (pc' := 15) rfl rfl bipush_m6 ?_
      exact x_ireturn rfl rfl rfl (Nat.le_of_ble_eq_true rfl) (Nat.le_of_ble_eq_true rfl) (h)
  · rw [if_pos (Int32.not_le.mp c1)] at h
    refine x_bipush (pc' := 6) rfl rfl bipush_m4 ?_
    exact x_ireturn rfl rfl rfl (Nat.le_of_ble_eq_true rfl) (Nat.le_of_ble_eq_true rfl) (h)
theorem c_lgW {W : Nat → Int64} (hA : c_is S A) : c_is (S.1, S.2.1, S.2.2.1, x_ul S.2.2.2 1 W) A := hA
theorem q_capC (x : Int64) : (if (1000000000 : Int64) < x then (1000000000 : Int64) else x).toInt32 = q_cap x := by
  unfold q_cap
  split
  · decide
  · rfl
theorem c_sounds (hS : x_Sys z f S) (hA : c_is S A) (ho : a_ok A) (h : c_ends z f post (s_soR A a)) : Y E 9 mX5_sounds [.ref 0, .int a] z f 0 0 post := by
  refine Y.intro gX5_sounds (lv := [(0, .ref 0), (1, .int a)]) rfl (Nat.le_of_ble_eq_true rfl) ?_
  obtain ⟨b1, b2, b3, b4, b5, b6, b7, b8⟩ := id hA
  unfold s_soR at h
  refine x_aload_n (pc' := 1) rfl rfl rfl ?_
  refine x_iload_n (pc' := 2) rfl rfl rfl ?_
  refine x_cV1i (d := 1) (pc' := 5) rfl rfl sX5_183 gX5_refusalToLay (hS.1) ⟨Nat.le_of_ble_eq_true rfl, Nat.le_of_ble_eq_true rfl⟩ (Nat.le_of_ble_eq_true rfl) ⟨Nat.le_of_ble_eq_true rfl, Nat.le_of_ble_eq_true rfl⟩ ?_
  refine c_rf hS hA ho ⟨_, rfl, ?_⟩
  refine x_istore_n (pc' := 6) (lv' := [(2, _), (0, _), (1, _)]) rfl rfl (Nat.le_of_ble_eq_true rfl) rfl ?_
  refine x_iload_n (pc' := 7) rfl rfl rfl ?_
  by_cases d1 : a < 0
  · rw [if_pos d1] at h
    rw [if_pos d1]
    refine x_if_eq (tgt := 16) (pc' := 10) rfl rfl rfl (fun q => absurd q (by decide)) (fun _ => ?_)
    refine x_aload_n (pc' := 11) rfl rfl rfl ?_
    refine x_iload_n (pc' := 12) rfl rfl rfl ?_
    refine x_cV1i (d := 1) (pc' := 15) rfl rfl sX5_68 gX5_refuse (hS.1) ⟨Nat.le_of_ble_eq_true rfl, Nat.le_of_ble_eq_true rfl⟩ (Nat.le_of_ble_eq_true rfl) ⟨Nat.le_of_ble_eq_true rfl, Nat.le_of_ble_eq_true rfl⟩ ?_
    refine c_refuse (k := 4) (by decide) (by decide) hS hA (fun f1 S1 hS1 hA1 hF1 => ⟨_, rfl, ?_⟩)
    exact x_ireturn rfl rfl rfl (Nat.le_of_ble_eq_true rfl) (Nat.le_of_ble_eq_true rfl) (h _ _ hS1 hA1 hF1)
  · rw [if_neg d1] at h
    rw [if_neg d1]
    by_cases d2 : 40 < a
    · rw [if_pos d2] at h
      rw [if_pos d2]
      refine x_if_eq (tgt := 16) (pc' := 10) rfl rfl rfl (fun q => absurd q (by decide)) (fun _ => ?_)
      refine x_aload_n (pc' := 11) rfl rfl rfl ?_
      refine x_iload_n (pc' := 12) rfl rfl rfl ?_
      refine x_cV1i (d := 1) (pc' := 15) rfl rfl sX5_68 gX5_refuse (hS.1) ⟨Nat.le_of_ble_eq_true rfl, Nat.le_of_ble_eq_true rfl⟩ (Nat.le_of_ble_eq_true rfl) ⟨Nat.le_of_ble_eq_true rfl, Nat.le_of_ble_eq_true rfl⟩ ?_
      refine c_refuse (k := 6) (by decide) (by decide) hS hA (fun f1 S1 hS1 hA1 hF1 => ⟨_, rfl, ?_⟩)
      exact x_ireturn rfl rfl rfl (Nat.le_of_ble_eq_true rfl) (Nat.le_of_ble_eq_true rfl) (h _ _ hS1 hA1 hF1)
    · rw [if_neg d2] at h
      rw [if_neg d2]
      by_cases d3 : q_isR A
      · rw [if_pos d3] at h
        rw [if_pos d3]
        refine x_if_eq (tgt := 16) (pc' := 10) rfl rfl rfl (fun _ => ?_) (fun q => absurd rfl q)
        obtain ⟨n, hn, rfl⟩ := nI_of2 (n := 40) (M := 40) rfl d1 (Int32.not_lt.mp d2)
        rw [nI_clamp (by omega)] at h
        refine x_aload_n (pc' := 17) rfl rfl rfl ?_
        refine x_get (pc' := 20) rfl rfl rfl (hS.1) rfl ?_
        refine x_aload_n (pc' := 21) rfl rfl rfl ?_
        refine x_get (pc' := 24) rfl rfl rfl (hS.1) rfl ?_
        refine x_aload_n (pc' := 25) rfl rfl rfl ?_
        refine x_get (pc' := 28) rfl rfl rfl (hS.1) rfl ?_
        refine x_iload_n (pc' := 29) rfl rfl rfl ?_
        refine x_cV3l (d := 3) (pc' := 32) rfl rfl sX5_186 gX4_toLay (hS.wy) ⟨Nat.le_of_ble_eq_true rfl, Nat.le_of_ble_eq_true rfl⟩ (Nat.le_of_ble_eq_true rfl) ⟨Nat.le_of_ble_eq_true rfl, Nat.le_of_ble_eq_true rfl⟩ ?_
        refine c_toLay (q := 5) (C := 99) (Or.inr rfl) hn ho.1 hS b1 b7 ho.2.2.2.2.2.2 (fun f1 W hS1 hF1 => ⟨_, rfl, ?_⟩)
        refine x_ldc2 (pc' := 35) rfl rfl rfl ?_
        refine x_mminL (pc' := 38) rfl rfl sX5_192 ⟨Nat.le_of_ble_eq_true rfl, Nat.le_of_ble_eq_true rfl⟩ (Nat.le_of_ble_eq_true rfl) (Nat.le_of_ble_eq_true rfl) (Nat.le_of_ble_eq_true rfl) ?_
        refine x_l2i (pc' := 39) rfl rfl ?_
        refine x_eqi (q_capC _) ?_
        exact x_ireturn rfl rfl rfl (Nat.le_of_ble_eq_true rfl) (Nat.le_of_ble_eq_true rfl) (h _ _ hS1 (c_lgW hA) hF1)
      · rw [if_neg d3] at h
        rw [if_neg d3]
        refine x_if_eq (tgt := 16) (pc' := 10) rfl rfl rfl (fun q => absurd q (by decide)) (fun _ => ?_)
        refine x_aload_n (pc' := 11) rfl rfl rfl ?_
        refine x_iload_n (pc' := 12) rfl rfl rfl ?_
        refine x_cV1i (d := 1) (pc' := 15) rfl rfl sX5_68 gX5_refuse (hS.1) ⟨Nat.le_of_ble_eq_true rfl, Nat.le_of_ble_eq_true rfl⟩ (Nat.le_of_ble_eq_true rfl) ⟨Nat.le_of_ble_eq_true rfl, Nat.le_of_ble_eq_true rfl⟩ ?_
        refine c_refuse (k := 3) (by decide) (by decide) hS hA (fun f1 S1 hS1 hA1 hF1 => ⟨_, rfl, ?_⟩)
        exact x_ireturn rfl rfl rfl (Nat.le_of_ble_eq_true rfl) (Nat.le_of_ble_eq_true rfl) (h _ _ hS1 hA1 hF1)
theorem x_Sys.copy4 (h : x_Sys z f S) {g : Nat → Int32} (e : f' = x_up f 56 (.inl (12, .inl g))) : x_Sys z f' (S.1, S.2.1, x_ua S.2.2.1 4 g, S.2.2.2) := h.arr 4 (by decide) e
theorem c_btL {n : Nat} (hn : n ≤ 40) (ho : a_ok A) (f0 : x_H) (S0 : x_S) (ht : t_is (S0.2.1 0) (a_g A)) (h : ∀ (f' : x_H) (W : Nat → Int64), x_Sys z f' (S0.1, S0.2.1, x_ua S0.2.2.1 4 (fun i => nI (a_rf A i)), x_ul S0.2.2.2 1 W) → x_fr (fun q => 59 ≤ q) f0 f' → post (some (.int (q_nl (q_nlV (a_g A) (a_rf A) n) (a_rf A) (g_n (a_g A))).2)) f') : ∀ (m b : Nat) (f : x_H) (W : Nat → Int64), b + m = g_n (a_g A) → x_Sys z f (S0.1, S0.2.1, x_ua S0.2.2.1 4 (fun i => nI (a_rf A i)), x_ul S0.2.2.2 1 W) → x_fr (fun q => 59 ≤ q) f0 f → X E (x_rm 5 0 0) mX4_bowlToAsk (x_QM E z 0 0 post) 29 [(7, .int (nI b)), (5, .long (q_nl (q_nlV (a_g A) (a_rf A) n) (a_rf A) b).1), (4, .int (q_nl (q_nlV (a_g A) (a_rf A) n) (a_rf A) b).2), (0, .ref 54), (1, .ref 1), (2, .ref 57), (3, .int (nI n))] [] z f 0 0 := by
  have hn9 := ho.1.1
  have hr9 := ho.2.2.2.2.2.2
  intro m
  induction m with
  | zero =>
    intro b f W hb hS hF
    have hb2 : b = g_n (a_g A) := by omega
    subst hb2
    refine x_iload (pc' := 31) rfl rfl rfl ?_
    refine x_aload_n (pc' := 32) rfl rfl rfl ?_
    refine x_get (pc' := 35) rfl rfl rfl ((hS.2.1 0 (by decide)).1) rfl ?_
    refine x_eqi ht.2.2.2.1 ?_
    refine x_icmp_ge (tgt := 131) (pc' := 38) rfl rfl rfl (fun _ => ?_) (fun c35 => absurd ((Int32.le_refl _)) c35)
    refine x_iload (pc' := 133) rfl rfl rfl ?_
    exact x_ireturn rfl rfl rfl (Nat.le_of_ble_eq_true rfl) (Nat.le_of_ble_eq_true rfl) (h _ _ hS hF)
  | succ m ih =>
    intro b f W hb hS hF
    have eq1 : q_nl (q_nlV (a_g A) (a_rf A) n) (a_rf A) (b + 1) = if a_rf A b = 2 ∧ (q_nl (q_nlV (a_g A) (a_rf A) n) (a_rf A) b).1 < q_nlV (a_g A) (a_rf A) n b then (q_nlV (a_g A) (a_rf A) n b, nI b) else q_nl (q_nlV (a_g A) (a_rf A) n) (a_rf A) b := rfl
    have h9 := fun f W => ih (b + 1) f W (by omega)
    generalize q_nl (q_nlV (a_g A) (a_rf A) n) (a_rf A) (b + 1) = s1 at eq1 h9
    generalize q_nl (q_nlV (a_g A) (a_rf A) n) (a_rf A) b = s0 at eq1 ⊢
    have hrb := hr9 b
    have hcl : (nI b).toNatClampNeg = b := nI_clamp (by omega)
    have er : x_ua S0.2.2.1 4 (fun i => nI (a_rf A i)) 4 (nI b).toNatClampNeg = nI (a_rf A b) := by rw [hcl]; rfl
    refine x_iload (pc' := 31) rfl rfl rfl ?_
    refine x_aload_n (pc' := 32) rfl rfl rfl ?_
    refine x_get (pc' := 35) rfl rfl rfl ((hS.2.1 0 (by decide)).1) rfl ?_
    refine x_eqi ht.2.2.2.1 ?_
    refine x_icmp_ge (tgt := 131) (pc' := 38) rfl rfl rfl (fun c35 => absurd c35 ((nI_ge (by omega) (by omega)))) (fun _ => ?_)
    refine x_iload (pc' := 40) rfl rfl rfl ?_
    refine x_bipush (pc' := 42) rfl rfl bipush_12 ?_
    refine x_icmp_ge (tgt := 131) (pc' := 45) rfl rfl rfl (fun c42 => absurd c42 ((nI_ge (a := b) (b := 12) (by omega) (by decide)))) (fun _ => ?_)
    refine x_aload_n (pc' := 46) rfl rfl rfl ?_
    refine x_get (pc' := 49) rfl rfl rfl (hS.wy) rfl ?_
    refine x_iload (pc' := 51) rfl rfl rfl ?_
    refine x_iaload (pc' := 52) rfl rfl (hS.2.2.1 4 (by decide)) (vp_in_nI (n := b) (N := 12) (by omega) (by decide)) ?_
    refine x_eqi er ?_
    refine x_iconst (pc' := 53) rfl rfl iconst_2 ?_
    by_cases d : a_rf A b = 2
    · refine x_icmp_ne (tgt := 125) (pc' := 56) rfl rfl rfl (fun q => absurd (by rw [d]; rfl) q) (fun _ => ?_)
      refine x_aload_n (pc' := 57) rfl rfl rfl ?_
      refine x_get (pc' := 60) rfl rfl rfl (hS.wy) rfl ?_
      refine x_iload (pc' := 62) rfl rfl rfl ?_
      refine x_iconst (pc' := 63) rfl rfl iconst_0 ?_
      refine x_iastore (pc' := 64) rfl rfl (hS.2.2.1 4 (by decide)) (vp_in_nI (n := b) (N := 12) (by omega) (by decide)) (fun f1 e1 => ?_)
      have hS1 := hS.arr 4 (by decide) e1
      have hF1 := hF.up e1 (by decide)
      replace hS1 : x_Sys z f1 (S0.1, S0.2.1, x_ua S0.2.2.1 4 (upd (fun i => nI (a_rf A i)) b 0), x_ul S0.2.2.2 1 W) := by have q := hS1; rw [x_ua_ua, hcl] at q; exact q
      refine x_aload_n (pc' := 65) rfl rfl rfl ?_
      refine x_aload_n (pc' := 66) rfl rfl rfl ?_
      refine x_aload_n (pc' := 67) rfl rfl rfl ?_
      refine x_get (pc' := 70) rfl rfl rfl (hS1.wy) rfl ?_
      refine x_iload_n (pc' := 71) rfl rfl rfl ?_
      refine x_cV3l (d := 3) (pc' := 74) rfl rfl sX4_56 gX4_toLay (hS1.wy) ⟨Nat.le_of_ble_eq_true rfl, Nat.le_of_ble_eq_true rfl⟩ (Nat.le_of_ble_eq_true rfl) ⟨Nat.le_of_ble_eq_true rfl, Nat.le_of_ble_eq_true rfl⟩ ?_
      refine c_toLay (q := 4) (C := 99) (rw' := q_up (a_rf A) b 0) (Or.inl rfl) hn ho.1 hS1 ht (by show upd (fun i => nI (a_rf A i)) b 0 = _; exact q_up_I _ _ _) (q_up_le hr9 (by decide)) (fun f2 W2 hS2 hF2 => ⟨_, rfl, ?_⟩)
      rw [x_ul_ul] at hS2
      refine x_lstore (pc' := 76) (lv' := [(8, _), (7, _), (5, _), (4, _), (0, _), (1, _), (2, _), (3, _)]) rfl rfl (Nat.le_of_ble_eq_true rfl) rfl ?_
      refine x_aload_n (pc' := 77) rfl rfl rfl ?_
      refine x_get (pc' := 80) rfl rfl rfl (hS2.wy) rfl ?_
      refine x_iload (pc' := 82) rfl rfl rfl ?_
      refine x_iconst (pc' := 83) rfl rfl iconst_1 ?_
      refine x_iastore (pc' := 84) rfl rfl (hS2.2.2.1 4 (by decide)) (vp_in_nI (n := b) (N := 12) (by omega) (by decide)) (fun f2 e2 => ?_)
      have hS3 := hS2.arr 4 (by decide) e2
      have hF3 := (hF1.trans hF2).up e2 (by decide)
      replace hS3 : x_Sys z f2 (S0.1, S0.2.1, x_ua S0.2.2.1 4 (upd (fun i => nI (a_rf A i)) b 1), x_ul S0.2.2.2 1 W2) := by have q := hS3; rw [x_ua_ua, hcl] at q; rw [← u_uu (fun i => nI (a_rf A i)) b 0 1]; exact q
      refine x_lload (pc' := 86) rfl rfl rfl ?_
      refine x_aload_n (pc' := 87) rfl rfl rfl ?_
      refine x_aload_n (pc' := 88) rfl rfl rfl ?_
      refine x_aload_n (pc' := 89) rfl rfl rfl ?_
      refine x_get (pc' := 92) rfl rfl rfl (hS3.wy) rfl ?_
      refine x_iload_n (pc' := 93) rfl rfl rfl ?_
      refine x_cV3l (d := 3) (pc' := 96) rfl rfl sX4_56 gX4_toLay (hS3.wy) ⟨Nat.le_of_ble_eq_true rfl, Nat.le_of_ble_eq_true rfl⟩ (Nat.le_of_ble_eq_true rfl) ⟨Nat.le_of_ble_eq_true rfl, Nat.le_of_ble_eq_true rfl⟩ ?_
      refine c_toLay (q := 4) (C := 99) (rw' := q_up (a_rf A) b 1) (Or.inl rfl) hn ho.1 hS3 ht (by show upd (fun i => nI (a_rf A i)) b 1 = _; exact q_up_I _ _ _) (q_up_le hr9 (by decide)) (fun f4 W4 hS4 hF4 => ⟨_, rfl, ?_⟩)
      rw [x_ul_ul] at hS4
      refine x_mminL (pc' := 99) rfl rfl sX4_60 ⟨Nat.le_of_ble_eq_true rfl, Nat.le_of_ble_eq_true rfl⟩ (Nat.le_of_ble_eq_true rfl) (Nat.le_of_ble_eq_true rfl) (Nat.le_of_ble_eq_true rfl) ?_
      refine x_eql (show _ = q_nlV (a_g A) (a_rf A) n b from rfl) ?_
      refine x_lstore (pc' := 101) (lv' := [(10, _), (8, _), (7, _), (5, _), (4, _), (0, _), (1, _), (2, _), (3, _)]) rfl rfl (Nat.le_of_ble_eq_true rfl) rfl ?_
      refine x_aload_n (pc' := 102) rfl rfl rfl ?_
      refine x_get (pc' := 105) rfl rfl rfl (hS4.wy) rfl ?_
      refine x_iload (pc' := 107) rfl rfl rfl ?_
      refine x_iconst (pc' := 108) rfl rfl iconst_2 ?_
      refine x_iastore (pc' := 109) rfl rfl (hS4.2.2.1 4 (by decide)) (vp_in_nI (n := b) (N := 12) (by omega) (by decide)) (fun f3 e3 => ?_)
      have hS5 := hS4.arr 4 (by decide) e3
      have hF5 := (hF3.trans hF4).up e3 (by decide)
      replace hS5 : x_Sys z f3 (S0.1, S0.2.1, x_ua S0.2.2.1 4 (fun i => nI (a_rf A i)), x_ul S0.2.2.2 1 W4) := by have q := hS5; rw [x_ua_ua, hcl] at q; rw [← (u_uu (fun i => nI (a_rf A i)) b 1 2).trans (u_id (show (fun i => nI (a_rf A i)) b = 2 from by show nI (a_rf A b) = 2; rw [d]; rfl))]; exact q
      refine x_lload (pc' := 111) rfl rfl rfl ?_
      refine x_lload (pc' := 113) rfl rfl rfl ?_
      refine x_lcmp (pc' := 114) rfl rfl ?_
      by_cases d8 : s0.1 < q_nlV (a_g A) (a_rf A) n b
      · rw [if_pos ⟨d, d8⟩] at eq1
        rw [eq1] at h9
        refine x_if_le (tgt := 125) (pc' := 117) rfl rfl rfl (fun q => absurd (lg_gt.mpr d8) (Int32.not_lt.mpr q)) (fun _ => ?_)
        refine x_lload (pc' := 119) rfl rfl rfl ?_
        refine x_lstore (pc' := 121) (lv' := [(5, _), (10, _), (8, _), (7, _), (4, _), (0, _), (1, _), (2, _), (3, _)]) rfl rfl (Nat.le_of_ble_eq_true rfl) rfl ?_
        refine x_iload (pc' := 123) rfl rfl rfl ?_
        refine x_istore (pc' := 125) (lv' := [(4, _), (5, _), (10, _), (8, _), (7, _), (0, _), (1, _), (2, _), (3, _)]) rfl rfl (Nat.le_of_ble_eq_true rfl) rfl ?_
        refine x_iinc (pc' := 128) (lv' := [(7, _), (4, _), (5, _), (10, _), (8, _), (0, _), (1, _), (2, _), (3, _)]) rfl rfl (Nat.le_of_ble_eq_true rfl) rfl (nI_1 b) rfl ?_
        refine x_goto (tgt := 29) rfl rfl ?_
        refine x_lvp [0, 2, 1, 5, 6, 7, 8] rfl ?_
        exact h9 _ _ hS5 hF5
      · rw [if_neg (fun q => d8 q.2)] at eq1
        rw [eq1] at h9
        refine x_if_le (tgt := 125) (pc' := 117) rfl rfl rfl (fun _ => ?_) (fun q => absurd (lg_gt.mp (Int32.not_le.mp q)) d8)
        refine x_iinc (pc' := 128) (lv' := [(7, _), (10, _), (8, _), (5, _), (4, _), (0, _), (1, _), (2, _), (3, _)]) rfl rfl (Nat.le_of_ble_eq_true rfl) rfl (nI_1 b) rfl ?_
        refine x_goto (tgt := 29) rfl rfl ?_
        refine x_lvp [0, 3, 4, 5, 6, 7, 8] rfl ?_
        exact h9 _ _ hS5 hF5
    · rw [if_neg (fun q => d q.1)] at eq1
      rw [eq1] at h9
      refine x_icmp_ne (tgt := 125) (pc' := 56) rfl rfl rfl (fun _ => ?_) (fun q => absurd ((nI_eq (b := 2) (by omega) (by decide)).mp q) d)
      refine x_iinc (pc' := 128) (lv' := [(7, _), (5, _), (4, _), (0, _), (1, _), (2, _), (3, _)]) rfl rfl (Nat.le_of_ble_eq_true rfl) rfl (nI_1 b) rfl ?_
      refine x_goto (tgt := 29) rfl rfl ?_
      exact h9 f W hS hF
theorem c_ask {n : Nat} (hn : n ≤ 40) (ho : a_ok A) (hS : x_Sys z f S) (hA : c_is S A) (h : ∀ (f' : x_H) (W : Nat → Int64), x_Sys z f' (S.1, S.2.1, x_ua S.2.2.1 4 (fun i => nI (a_rf A i)), x_ul S.2.2.2 1 W) → x_fr (fun q => 59 ≤ q) f f' → post (some (.int (q_nl (q_nlV (a_g A) (a_rf A) n) (a_rf A) (g_n (a_g A))).2)) f') : Y E 5 mX4_bowlToAsk [.ref 54, .ref 1, .ref 57, .int (nI n)] z f 0 0 post := by
  refine Y.intro gX4_bowlToAsk (lv := [(0, .ref 54), (1, .ref 1), (2, .ref 57), (3, .int (nI n))]) rfl (Nat.le_of_ble_eq_true rfl) ?_
  obtain ⟨b1, b2, b3, b4, b5, b6, b7, b8⟩ := id hA
  have ha4 : x_a z f 56 (12, .inl (S.2.2.1 4)) := hS.2.2.1 4 (by decide)
  have ha5 : x_a z f 57 (12, .inl (S.2.2.1 5)) := hS.2.2.1 5 (by decide)
  rw [b7] at ha5
  refine x_bipush (pc' := 2) rfl rfl bipush_m9 ?_
  refine x_istore (pc' := 4) (lv' := [(4, _), (0, _), (1, _), (2, _), (3, _)]) rfl rfl (Nat.le_of_ble_eq_true rfl) rfl ?_
  refine x_ldc2 (pc' := 7) rfl rfl rfl ?_
  refine x_lstore (pc' := 9) (lv' := [(5, _), (4, _), (0, _), (1, _), (2, _), (3, _)]) rfl rfl (Nat.le_of_ble_eq_true rfl) rfl ?_
  refine x_aload_n (pc' := 10) rfl rfl rfl ?_
  refine x_iconst (pc' := 11) rfl rfl iconst_0 ?_
  refine x_aload_n (pc' := 12) rfl rfl rfl ?_
  refine x_get (pc' := 15) rfl rfl rfl (hS.wy) rfl ?_
  refine x_iconst (pc' := 16) rfl rfl iconst_0 ?_
  refine x_aload_n (pc' := 17) rfl rfl rfl ?_
  refine x_alen (pc' := 18) rfl rfl (hS.2.2.1 5 (by decide)) ?_
  refine x_bipush (pc' := 20) rfl rfl bipush_12 ?_
  refine x_mmin (pc' := 23) rfl rfl sX4_35 ⟨Nat.le_of_ble_eq_true rfl, Nat.le_of_ble_eq_true rfl⟩ (Nat.le_of_ble_eq_true rfl) (Nat.le_of_ble_eq_true rfl) (Nat.le_of_ble_eq_true rfl) ?_
  refine x_eqi (show (if (12 : Int32) < Int32.ofNat 12 then (12 : Int32) else Int32.ofNat 12) = 12 from by decide) ?_
  refine x_copyW (pc' := 26) rfl rfl sX4_50 (ha5) (ha4) (by decide) (by decide) ⟨Nat.le_of_ble_eq_true rfl, Nat.le_of_ble_eq_true rfl⟩ (Nat.le_of_ble_eq_true rfl) (fun f1 e1 => ?_)
  have hS1 := hS.arr 4 (by decide) e1
  have hF1 : x_fr (fun q => 59 ≤ q) f f1 := (x_fr.rf (P := fun q => 59 ≤ q)).up e1 (by decide)
  refine x_iconst (pc' := 27) rfl rfl iconst_0 ?_
  refine x_istore (pc' := 29) (lv' := [(7, _), (5, _), (4, _), (0, _), (1, _), (2, _), (3, _)]) rfl rfl (Nat.le_of_ble_eq_true rfl) rfl ?_
  refine x_lvp [0, 1, 2, 3, 4, 5, 6] rfl ?_
  exact c_btL hn ho f S b1 h (g_n (a_g A)) 0 _ (S.2.2.2 1) (by omega) (by rw [x_ul_id]; exact hS1) hF1
theorem c_next (hS : x_Sys z f S) (hA : c_is S A) (ho : a_ok A) (h : c_ends z f post (s_neC A a)) : Y E 9 mX5_next [.ref 0, .int a] z f 0 0 post := by
  refine Y.intro gX5_next (lv := [(0, .ref 0), (1, .int a)]) rfl (Nat.le_of_ble_eq_true rfl) ?_
  obtain ⟨b1, b2, b3, b4, b5, b6, b7, b8⟩ := id hA
  unfold s_neC at h
  refine x_aload_n (pc' := 1) rfl rfl rfl ?_
  refine x_iload_n (pc' := 2) rfl rfl rfl ?_
  refine x_cV1i (d := 1) (pc' := 5) rfl rfl sX5_183 gX5_refusalToLay (hS.1) ⟨Nat.le_of_ble_eq_true rfl, Nat.le_of_ble_eq_true rfl⟩ (Nat.le_of_ble_eq_true rfl) ⟨Nat.le_of_ble_eq_true rfl, Nat.le_of_ble_eq_true rfl⟩ ?_
  refine c_rf hS hA ho ⟨_, rfl, ?_⟩
  refine x_istore_n (pc' := 6) (lv' := [(2, _), (0, _), (1, _)]) rfl rfl (Nat.le_of_ble_eq_true rfl) rfl ?_
  refine x_iload_n (pc' := 7) rfl rfl rfl ?_
  by_cases d1 : a < 0
  · rw [if_pos d1] at h
    rw [if_pos d1]
    refine x_if_eq (tgt := 18) (pc' := 10) rfl rfl rfl (fun q => absurd q (by decide)) (fun _ => ?_)
    refine x_aload_n (pc' := 11) rfl rfl rfl ?_
    refine x_iload_n (pc' := 12) rfl rfl rfl ?_
    refine x_cV1i (d := 1) (pc' := 15) rfl rfl sX5_68 gX5_refuse (hS.1) ⟨Nat.le_of_ble_eq_true rfl, Nat.le_of_ble_eq_true rfl⟩ (Nat.le_of_ble_eq_true rfl) ⟨Nat.le_of_ble_eq_true rfl, Nat.le_of_ble_eq_true rfl⟩ ?_
    refine c_refuse (k := 4) (by decide) (by decide) hS hA (fun f1 S1 hS1 hA1 hF1 => ⟨_, rfl, ?_⟩)
    refine x_goto (tgt := 34) rfl rfl ?_
    exact x_ireturn rfl rfl rfl (Nat.le_of_ble_eq_true rfl) (Nat.le_of_ble_eq_true rfl) (h _ _ hS1 hA1 hF1)
  · rw [if_neg d1] at h
    rw [if_neg d1]
    by_cases d2 : 40 < a
    · rw [if_pos d2] at h
      rw [if_pos d2]
      refine x_if_eq (tgt := 18) (pc' := 10) rfl rfl rfl (fun q => absurd q (by decide)) (fun _ => ?_)
      refine x_aload_n (pc' := 11) rfl rfl rfl ?_
      refine x_iload_n (pc' := 12) rfl rfl rfl ?_
      refine x_cV1i (d := 1) (pc' := 15) rfl rfl sX5_68 gX5_refuse (hS.1) ⟨Nat.le_of_ble_eq_true rfl, Nat.le_of_ble_eq_true rfl⟩ (Nat.le_of_ble_eq_true rfl) ⟨Nat.le_of_ble_eq_true rfl, Nat.le_of_ble_eq_true rfl⟩ ?_
      refine c_refuse (k := 6) (by decide) (by decide) hS hA (fun f1 S1 hS1 hA1 hF1 => ⟨_, rfl, ?_⟩)
      refine x_goto (tgt := 34) rfl rfl ?_
      exact x_ireturn rfl rfl rfl (Nat.le_of_ble_eq_true rfl) (Nat.le_of_ble_eq_true rfl) (h _ _ hS1 hA1 hF1)
    · rw [if_neg d2] at h
      rw [if_neg d2]
      by_cases d3 : q_isR A
      · rw [if_pos d3] at h
        rw [if_pos d3]
        refine x_if_eq (tgt := 18) (pc' := 10) rfl rfl rfl (fun _ => ?_) (fun q => absurd rfl q)
        obtain ⟨n, hn, rfl⟩ := nI_of2 (n := 40) (M := 40) rfl d1 (Int32.not_lt.mp d2)
        rw [nI_clamp (by omega)] at h
        refine x_aload_n (pc' := 19) rfl rfl rfl ?_
        refine x_get (pc' := 22) rfl rfl rfl (hS.1) rfl ?_
        refine x_aload_n (pc' := 23) rfl rfl rfl ?_
        refine x_get (pc' := 26) rfl rfl rfl (hS.1) rfl ?_
        refine x_aload_n (pc' := 27) rfl rfl rfl ?_
        refine x_get (pc' := 30) rfl rfl rfl (hS.1) rfl ?_
        refine x_iload_n (pc' := 31) rfl rfl rfl ?_
        refine x_cV3i (d := 5) (pc' := 34) rfl rfl sX5_198 gX4_bowlToAsk (hS.wy) ⟨Nat.le_of_ble_eq_true rfl, Nat.le_of_ble_eq_true rfl⟩ (Nat.le_of_ble_eq_true rfl) ⟨Nat.le_of_ble_eq_true rfl, Nat.le_of_ble_eq_true rfl⟩ ?_
        refine c_ask hn ho hS hA (fun f1 W hS1 hF1 => ⟨_, rfl, ?_⟩)
        exact x_ireturn rfl rfl rfl (Nat.le_of_ble_eq_true rfl) (Nat.le_of_ble_eq_true rfl) (h _ _ hS1 ⟨b1, b2, b3, b4, b5, b6, b7, b8⟩ hF1)
      · rw [if_neg d3] at h
        rw [if_neg d3]
        refine x_if_eq (tgt := 18) (pc' := 10) rfl rfl rfl (fun q => absurd q (by decide)) (fun _ => ?_)
        refine x_aload_n (pc' := 11) rfl rfl rfl ?_
        refine x_iload_n (pc' := 12) rfl rfl rfl ?_
        refine x_cV1i (d := 1) (pc' := 15) rfl rfl sX5_68 gX5_refuse (hS.1) ⟨Nat.le_of_ble_eq_true rfl, Nat.le_of_ble_eq_true rfl⟩ (Nat.le_of_ble_eq_true rfl) ⟨Nat.le_of_ble_eq_true rfl, Nat.le_of_ble_eq_true rfl⟩ ?_
        refine c_refuse (k := 3) (by decide) (by decide) hS hA (fun f1 S1 hS1 hA1 hF1 => ⟨_, rfl, ?_⟩)
        refine x_goto (tgt := 34) rfl rfl ?_
        exact x_ireturn rfl rfl rfl (Nat.le_of_ble_eq_true rfl) (Nat.le_of_ble_eq_true rfl) (h _ _ hS1 hA1 hF1)
end WC
end
