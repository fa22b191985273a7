/-! The reference thinks ahead. -/
theorem x_room {d D m : Nat} (h : d + 1 ≤ D) (hm : m ≤ 181) : d + 1 ≤ (x_rm D 0 0).frames ∧ 8 + (m + 11) + 200 * d ≤ (x_rm D 0 0).locals := ⟨h, by show 8 + (m + 11) + 200 * d ≤ 200 * D; omega⟩
def q_dI (g : q_G) : Int32 := nI (g_π g (g_t g)) - nI (g_π g (1 - g_t g))
/-- the best of the first bowls: its value, the bowl -/
def q_sI (d : Int32) (c : Nat → Bool) (V : Nat → Int32) : Nat → Int32 × Int32
  | 0 => (d, -9)
  | b + 1 => if c b = true ∧ ((q_sI d c V b).2 = -9 ∨ (q_sI d c V b).1 < V b) then (V b, nI b) else q_sI d c V b
def q_seI : Nat → q_G → Int32 × Int32
  | 0, g => (q_dI g, -9)
  | k + 1, g => q_sI (q_dI g) (fun b => decide (g_can g b)) (fun b => -(q_seI k (g_mv g b)).1) (g_n g)
abbrev q_wI (n : Nat) (g : q_G) : Int32 := (q_seI n g).1 - q_dI g
/-- what stays while the reference thinks from a level on -/
def m_sk (M M' : x_N) (l : Nat) : Prop := (∀ j, j ≠ 1 → j ≠ 2 → j ≠ 6 → M'.2.1 j = M.2.1 j) ∧ M'.2.2 = M.2.2 ∧ (∀ i, i ≠ 7 → i ≠ 14 → i ≠ 15 → i ≠ 16 → i ≠ 17 → i ≠ 22 → M'.1 i = M.1 i) ∧ (∀ j, j < 12 * l ∨ 60 ≤ j → M'.2.1 6 j = M.2.1 6 j)
theorem m_sk.rf {M : x_N} {l : Nat} : m_sk M M l := ⟨fun _ _ _ _ => rfl, rfl, fun _ _ _ _ _ _ _ => rfl, fun _ _ => rfl⟩
theorem m_sk.trans {M M1 M2 : x_N} {l l2 : Nat} (h : m_sk M M1 l) (h2 : m_sk M1 M2 l2) (hl : l ≤ l2) : m_sk M M2 l := ⟨fun j a b c => (h2.1 j a b c).trans (h.1 j a b c), h2.2.1.trans h.2.1, fun i a b c d e k => (h2.2.2.1 i a b c d e k).trans (h.2.2.1 i a b c d e k), fun j hj => (h2.2.2.2 j (by omega)).trans (h.2.2.2 j hj)⟩
theorem m_kp.sk {M M' : x_N} (h : m_kp M M') (l : Nat) : m_sk M M' l := ⟨fun j a b _ => h.1 j a b, h.2.1, fun i a b c d e _ => h.2.2 i a b c d e, fun j _ => by rw [h.1 6 (by decide) (by decide)]⟩
theorem m_k1.sk {M M' : x_N} {l : Nat} (h : m_k1 M M' l) (hl : l ≤ 4) : m_sk M M' l := ⟨fun j _ _ c => h.2.1 j c, h.2.2.1, fun i _ _ _ _ _ _ => by rw [h.1], fun j hj => h.2.2.2 j (by omega)⟩
theorem m_sk.num {M : x_N} {v : Int32} {k : Nat} (l : Nat) (hk : k = 7 ∨ k = 22) : m_sk M (upd M.1 k v, M.2.1, M.2.2) l := ⟨fun _ _ _ _ => rfl, rfl, fun i _ _ _ _ _ _ => pk_un (by omega), fun _ _ => rfl⟩
theorem m_sk.sc {M M' : x_N} {l : Nat} (h : m_sk M M' l) : r_sc M M' := ⟨fun i hi => h.2.2.1 i (by omega) (by omega) (by omega) (by omega) (by omega) (by omega), fun j hj => h.1 j (by omega) (by omega) (by omega)⟩
theorem m_sk.fr {M M' : x_N} {l j : Nat} {g : q_G} (h : m_sk M M' l) (hj : j < l ∨ 5 ≤ j) (hf : m_fr M j g) : m_fr M' j g := by
  obtain ⟨h1, h2, h3, h4⟩ := hf
  have e := h.2.2.2
  exact ⟨fun i hi => (e _ (by omega)).trans (h1 i hi), (e _ (by omega)).trans h2, (e _ (by omega)).trans h3, (e _ (by omega)).trans h4⟩
section SK
variable {E : x_E} {z : Nat} {f : x_H} {M M0 : x_N} {A : q_A} {post : Option Value → x_H → Prop} {g : q_G} {C : Nat} {a b : Int32}
theorem m_pu {k : Nat} (hm : m_is M g) (hk : k < 2 ^ 31) : M.2.1 2 (nI k).toNatClampNeg = nI (g_π g k) := by rw [nI_clamp hk, hm.2.2.1]
theorem m_seekL {k l : Nat} (hl : l + k + 1 ≤ 5) (hC : 99 ≤ C) (hC2 : C ≤ 100) (hg : g_ok C g)
    (IH : ∀ (g : q_G) (f : x_H) (M : x_N) (post : Option Value → x_H → Prop), x_Mdl z f M → m_is M g → g_ok C g → M.1 18 = 0 → (∀ (f' : x_H) (M' : x_N), x_Mdl z f' M' → m_is M' g → m_sk M M' (l + 1) → M'.1 22 = (q_seI k g).2 → x_fr (fun q => q < 59) f f' → post (some (.int (q_seI k g).1)) f') → Y E (k + 5) mX6_seeks [.ref 59, .int (nI k), .int (nI (l + 1))] z f 0 0 post)
    (f0 : x_H) (M0 : x_N) (h18 : M0.1 18 = 0) (h : ∀ (f' : x_H) (M' : x_N), x_Mdl z f' M' → m_is M' g → m_sk M0 M' l → M'.1 22 = (q_seI (k + 1) g).2 → x_fr (fun q => q < 59) f0 f' → post (some (.int (q_seI (k + 1) g).1)) f') :
    ∀ (m b : Nat) (f : x_H) (M : x_N), b + m = g_n g → x_Mdl z f M → m_is M g → m_sk M0 M l → m_fr M l g → x_fr (fun q => q < 59) f0 f → X E (x_rm (k + 6) 0 0) mX6_seeks (x_QM E z 0 0 post) 38 [(5, .int (nI b)), (4, .int (q_sI (q_dI g) (fun b => decide (g_can g b)) (fun b => -(q_seI k (g_mv g b)).1) b).1), (3, .int (q_sI (q_dI g) (fun b => decide (g_can g b)) (fun b => -(q_seI k (g_mv g b)).1) b).2), (0, .ref 59), (1, .int (nI (k + 1))), (2, .int (nI l))] [] z f 0 0 := by
  have hn9 := hg.1
  intro m
  induction m with
  | zero =>
    intro b f M hb hM hm hs hfr hF
    have hb2 : b = g_n g := by omega
    subst hb2
    refine x_iload (pc' := 40) rfl rfl rfl ?_
    refine x_aload_n (pc' := 41) rfl rfl rfl ?_
    refine x_get (pc' := 44) rfl rfl rfl (hM.1) rfl ?_
    refine x_eqi hm.2.2.2.1 ?_
    refine x_icmp_ge (tgt := 106) (pc' := 47) rfl rfl rfl (fun _ => ?_) (fun c44 => absurd ((Int32.le_refl _)) c44)
    refine x_aload_n (pc' := 107) rfl rfl rfl ?_
    refine x_iload_n (pc' := 108) rfl rfl rfl ?_
    refine x_put (pc' := 111) rfl rfl rfl (hM.1) (Nat.le_of_ble_eq_true rfl) rfl rfl rfl rfl (fun f1 e1 => ?_)
    have hM1 := hM.num 22 e1 (x_mFs22 _ _)
    have hF1 := hF.trans (r_fr0 e1 (by decide))
    refine x_iload (pc' := 113) rfl rfl rfl ?_
    exact x_ireturn rfl rfl rfl (Nat.le_of_ble_eq_true rfl) (Nat.le_of_ble_eq_true rfl) (h _ _ hM1 ⟨hm.1, hm.2.1, hm.2.2.1, hm.2.2.2.1, hm.2.2.2.2.1, hm.2.2.2.2.2.1, hm.2.2.2.2.2.2⟩ (hs.trans (m_sk.num l (Or.inr rfl)) (Nat.le_refl l)) rfl hF1)
  | succ m ih =>
    intro b f M hb hM hm hs hfr hF
    have eq1 : q_sI (q_dI g) (fun b => decide (g_can g b)) (fun b => -(q_seI k (g_mv g b)).1) (b + 1) = if decide (g_can g b) = true ∧ ((q_sI (q_dI g) (fun b => decide (g_can g b)) (fun b => -(q_seI k (g_mv g b)).1) b).2 = -9 ∨ (q_sI (q_dI g) (fun b => decide (g_can g b)) (fun b => -(q_seI k (g_mv g b)).1) b).1 < -(q_seI k (g_mv g b)).1) then (-(q_seI k (g_mv g b)).1, nI b) else q_sI (q_dI g) (fun b => decide (g_can g b)) (fun b => -(q_seI k (g_mv g b)).1) b := rfl
    have h9 := fun f M => ih (b + 1) f M (by omega)
    generalize q_sI (q_dI g) (fun b => decide (g_can g b)) (fun b => -(q_seI k (g_mv g b)).1) (b + 1) = s1 at eq1 h9
    generalize q_sI (q_dI g) (fun b => decide (g_can g b)) (fun b => -(q_seI k (g_mv g b)).1) b = s0 at eq1 ⊢
    have h18' : M.1 18 = 0 := (hs.2.2.1 18 (by decide) (by decide) (by decide) (by decide) (by decide) (by decide)).trans h18
    refine x_iload (pc' := 40) rfl rfl rfl ?_
    refine x_aload_n (pc' := 41) rfl rfl rfl ?_
    refine x_get (pc' := 44) rfl rfl rfl (hM.1) rfl ?_
    refine x_eqi hm.2.2.2.1 ?_
    refine x_icmp_ge (tgt := 106) (pc' := 47) rfl rfl rfl (fun c44 => absurd c44 ((nI_ge (by omega) (by omega)))) (fun _ => ?_)
    refine x_aload_n (pc' := 48) rfl rfl rfl ?_
    refine x_iload (pc' := 50) rfl rfl rfl ?_
    refine x_cV1i (d := 3) (pc' := 53) rfl rfl sX6_135 gX6_canMove (hM.1) (x_room (by omega) (Nat.le_of_ble_eq_true rfl)) (Nat.le_of_ble_eq_true rfl) ⟨Nat.le_of_ble_eq_true rfl, Nat.le_of_ble_eq_true rfl⟩ ?_
    refine m_can1 hM hm hg hC2 (by omega) (fun d2 => ⟨_, rfl, ?_⟩) (fun d2 => ⟨_, rfl, ?_⟩)
    · refine x_if_eq (tgt := 100) (pc' := 56) rfl rfl rfl (fun c53 => absurd c53 ((by decide))) (fun _ => ?_)
      refine x_aload_n (pc' := 57) rfl rfl rfl ?_
      refine x_iload (pc' := 59) rfl rfl rfl ?_
      refine x_cV1v (d := 4) (pc' := 62) rfl rfl sX6_141 gX6_moves (hM.1) (x_room (by omega) (Nat.le_of_ble_eq_true rfl)) (Nat.le_of_ble_eq_true rfl) ⟨Nat.le_of_ble_eq_true rfl, Nat.le_of_ble_eq_true rfl⟩ ?_
      refine m_mv hM hm hg hC2 d2 h18' (fun f1 M1 hM1 g1 k1 e14 e15 e16 e17 hF1 => ⟨rfl, ?_⟩)
      have ok1 := g_mv_ok hg hC hC2 d2.2.1
      have h181 : M1.1 18 = 0 := k1.no18.trans h18'
      refine x_aload_n (pc' := 63) rfl rfl rfl ?_
      refine x_iload_n (pc' := 64) rfl rfl rfl ?_
      refine x_iconst (pc' := 65) rfl rfl iconst_1 ?_
      refine x_isub (pc' := 66) rfl rfl ?_
      refine x_eqi (nI_pred k) ?_
      refine x_iload_n (pc' := 67) rfl rfl rfl ?_
      refine x_iconst (pc' := 68) rfl rfl iconst_1 ?_
      refine x_iadd (pc' := 69) rfl rfl ?_
      refine x_eqi (nI_1 l) ?_
      refine x_cV2i (d := (k + 5)) (pc' := 72) rfl rfl sX6_173 gX6_seeks (hM1.1) (x_room (by omega) (Nat.le_of_ble_eq_true rfl)) (Nat.le_of_ble_eq_true rfl) ⟨Nat.le_of_ble_eq_true rfl, Nat.le_of_ble_eq_true rfl⟩ ?_
      refine IH (g_mv g b) f1 M1 _ hM1 g1 ok1 h181 (fun f2 M2 hM2 g2 s2 e22 hF2 => ⟨_, rfl, ?_⟩)
      refine x_ineg (pc' := 73) rfl rfl ?_
      refine x_istore (pc' := 75) (lv' := [(6, _), (5, _), (4, _), (3, _), (0, _), (1, _), (2, _)]) rfl rfl (Nat.le_of_ble_eq_true rfl) rfl ?_
      refine x_aload_n (pc' := 76) rfl rfl rfl ?_
      refine x_iload_n (pc' := 77) rfl rfl rfl ?_
      refine x_cV1v (d := 1) (pc' := 80) rfl rfl sX6_160 gX6_lays (hM2.1) (x_room (by omega) (Nat.le_of_ble_eq_true rfl)) (Nat.le_of_ble_eq_true rfl) ⟨Nat.le_of_ble_eq_true rfl, Nat.le_of_ble_eq_true rfl⟩ ?_
      refine m_lays (l := l) (g := g) (g' := g_mv g b) (by omega) hM2 g2 (s2.fr (by omega) (hfr.eq (k1.1 6 (by decide) (by decide)))) hg ok1 (fun f3 M3 hM3 g3 y1 y2 y3 hF3 => ⟨rfl, ?_⟩)
      have hs3 : m_sk M0 M3 l := ((hs.trans (k1.sk l) (Nat.le_refl l)).trans s2 (by omega)).trans ((m_ly.kp y1 y2 y3).sk l) (Nat.le_refl l)
      have hF13 := ((hF.trans hF1).trans hF2).trans hF3
      have hfr3 : m_fr M3 l g := (s2.fr (by omega) (hfr.eq (k1.1 6 (by decide) (by decide)))).eq (y2 6 (by decide) (by decide))
      have h8 := h9 f3 M3 hM3 g3 hs3 hfr3 hF13
      refine x_iload_n (pc' := 81) rfl rfl rfl ?_
      refine x_bipush (pc' := 83) rfl rfl bipush_m9 ?_
      by_cases d3 : s0.2 = -9 ∨ s0.1 < -(q_seI k (g_mv g b)).1
      · rw [if_pos ⟨decide_eq_true d2, d3⟩] at eq1
        rw [eq1] at h8
        refine x_icmp_eq (tgt := 93) (pc' := 86) rfl rfl rfl (fun q => ?_) (fun q => ?_)
        · refine x_iload (pc' := 95) rfl rfl rfl ?_
          refine x_istore_n (pc' := 96) (lv' := [(3, _), (6, _), (5, _), (4, _), (0, _), (1, _), (2, _)]) rfl rfl (Nat.le_of_ble_eq_true rfl) rfl ?_
          refine x_iload (pc' := 98) rfl rfl rfl ?_
          refine x_istore (pc' := 100) (lv' := [(4, _), (3, _), (6, _), (5, _), (0, _), (1, _), (2, _)]) rfl rfl (Nat.le_of_ble_eq_true rfl) rfl ?_
          refine x_iinc (pc' := 103) (lv' := [(5, _), (4, _), (3, _), (6, _), (0, _), (1, _), (2, _)]) rfl rfl (Nat.le_of_ble_eq_true rfl) rfl (nI_1 b) rfl ?_
          refine x_goto (tgt := 38) rfl rfl ?_
          refine x_lvp [0, 1, 2, 4, 5, 6] rfl ?_
          exact h8
        · have d4 := d3.resolve_left q
          refine x_iload (pc' := 88) rfl rfl rfl ?_
          refine x_iload (pc' := 90) rfl rfl rfl ?_
          refine x_icmp_le (tgt := 100) (pc' := 93) rfl rfl rfl (fun c90 => absurd c90 ((Int32.not_le.mpr d4))) (fun _ => ?_)
          refine x_iload (pc' := 95) rfl rfl rfl ?_
          refine x_istore_n (pc' := 96) (lv' := [(3, _), (6, _), (5, _), (4, _), (0, _), (1, _), (2, _)]) rfl rfl (Nat.le_of_ble_eq_true rfl) rfl ?_
          refine x_iload (pc' := 98) rfl rfl rfl ?_
          refine x_istore (pc' := 100) (lv' := [(4, _), (3, _), (6, _), (5, _), (0, _), (1, _), (2, _)]) rfl rfl (Nat.le_of_ble_eq_true rfl) rfl ?_
          refine x_iinc (pc' := 103) (lv' := [(5, _), (4, _), (3, _), (6, _), (0, _), (1, _), (2, _)]) rfl rfl (Nat.le_of_ble_eq_true rfl) rfl (nI_1 b) rfl ?_
          refine x_goto (tgt := 38) rfl rfl ?_
          refine x_lvp [0, 1, 2, 4, 5, 6] rfl ?_
          exact h8
      · rw [if_neg (fun q => d3 q.2)] at eq1
        rw [eq1] at h8
        refine x_icmp_eq (tgt := 93) (pc' := 86) rfl rfl rfl (fun q => absurd (Or.inl q) d3) (fun q => ?_)
        refine x_iload (pc' := 88) rfl rfl rfl ?_
        refine x_iload (pc' := 90) rfl rfl rfl ?_
        refine x_icmp_le (tgt := 100) (pc' := 93) rfl rfl rfl (fun _ => ?_) (fun c90 => absurd ((Int32.not_lt.mp (fun q => d3 (Or.inr q)))) c90)
        refine x_iinc (pc' := 103) (lv' := [(5, _), (6, _), (4, _), (3, _), (0, _), (1, _), (2, _)]) rfl rfl (Nat.le_of_ble_eq_true rfl) rfl (nI_1 b) rfl ?_
        refine x_goto (tgt := 38) rfl rfl ?_
        refine x_lvp [0, 2, 3, 4, 5, 6] rfl ?_
        exact h8
    · rw [if_neg (fun q => d2 (of_decide_eq_true q.1))] at eq1
      refine x_if_eq (tgt := 100) (pc' := 56) rfl rfl rfl (fun _ => ?_) (fun c53 => absurd (rfl) c53)
      refine x_iinc (pc' := 103) (lv' := [(5, _), (4, _), (3, _), (0, _), (1, _), (2, _)]) rfl rfl (Nat.le_of_ble_eq_true rfl) rfl (nI_1 b) rfl ?_
      refine x_goto (tgt := 38) rfl rfl ?_
      have h8 := h9 f M hM hm hs hfr hF
      rw [eq1] at h8
      exact h8
theorem m_seeks (hC : 99 ≤ C) (hC2 : C ≤ 100) : ∀ (k l : Nat) (g : q_G) (f : x_H) (M : x_N) (post : Option Value → x_H → Prop), l + k ≤ 5 → x_Mdl z f M → m_is M g → g_ok C g → M.1 18 = 0 → (∀ (f' : x_H) (M' : x_N), x_Mdl z f' M' → m_is M' g → m_sk M M' l → M'.1 22 = (q_seI k g).2 → x_fr (fun q => q < 59) f f' → post (some (.int (q_seI k g).1)) f') → Y E (k + 5) mX6_seeks [.ref 59, .int (nI k), .int (nI l)] z f 0 0 post := by
  intro k
  induction k with
  | zero =>
    intro l g f M post hl hM hm hg h18 h
    have ht := hg.2.2.2.1
    refine Y.intro gX6_seeks (lv := [(0, .ref 59), (1, .int (nI 0)), (2, .int (nI l))]) rfl (Nat.le_of_ble_eq_true rfl) ?_
    refine x_bipush (pc' := 2) rfl rfl bipush_m9 ?_
    refine x_istore_n (pc' := 3) (lv' := [(3, _), (0, _), (1, _), (2, _)]) rfl rfl (Nat.le_of_ble_eq_true rfl) rfl ?_
    refine x_aload_n (pc' := 4) rfl rfl rfl ?_
    refine x_get (pc' := 7) rfl rfl rfl (hM.1) rfl ?_
    refine x_aload_n (pc' := 8) rfl rfl rfl ?_
    refine x_get (pc' := 11) rfl rfl rfl (hM.1) rfl ?_
    refine x_eqi hm.2.2.2.2.2.2 ?_
    refine x_iaload (pc' := 12) rfl rfl (hM.2.1 2 (by decide)) (vp_in_nI (n := g_t g) (N := 2) (by omega) (by decide)) ?_
    refine x_eqi (m_pu hm (by omega)) ?_
    refine x_aload_n (pc' := 13) rfl rfl rfl ?_
    refine x_get (pc' := 16) rfl rfl rfl (hM.1) rfl ?_
    refine x_iconst (pc' := 17) rfl rfl iconst_1 ?_
    refine x_aload_n (pc' := 18) rfl rfl rfl ?_
    refine x_get (pc' := 21) rfl rfl rfl (hM.1) rfl ?_
    refine x_eqi hm.2.2.2.2.2.2 ?_
    refine x_isub (pc' := 22) rfl rfl ?_
    refine x_eqi (show (1 : Int32) - nI (g_t g) = nI (1 - g_t g) from pk_sub (a := 1) ht) ?_
    refine x_iaload (pc' := 23) rfl rfl (hM.2.1 2 (by decide)) (vp_in_nI (n := 1 - g_t g) (N := 2) (by omega) (by decide)) ?_
    refine x_eqi (m_pu hm (by omega)) ?_
    refine x_isub (pc' := 24) rfl rfl ?_
    refine x_istore (pc' := 26) (lv' := [(4, _), (3, _), (0, _), (1, _), (2, _)]) rfl rfl (Nat.le_of_ble_eq_true rfl) rfl ?_
    refine x_iload_n (pc' := 27) rfl rfl rfl ?_
    refine x_if_le (tgt := 106) (pc' := 30) rfl rfl rfl (fun _ => ?_) (fun c27 => absurd ((by decide : nI 0 ≤ 0)) c27)
    refine x_aload_n (pc' := 107) rfl rfl rfl ?_
    refine x_iload_n (pc' := 108) rfl rfl rfl ?_
    refine x_put (pc' := 111) rfl rfl rfl (hM.1) (Nat.le_of_ble_eq_true rfl) rfl rfl rfl rfl (fun f1 e1 => ?_)
    have hM1 := hM.num 22 e1 (x_mFs22 _ _)
    have hF1 := r_fr0 e1 (by decide)
    refine x_iload (pc' := 113) rfl rfl rfl ?_
    exact x_ireturn rfl rfl rfl (Nat.le_of_ble_eq_true rfl) (Nat.le_of_ble_eq_true rfl) (h _ _ hM1 ⟨hm.1, hm.2.1, hm.2.2.1, hm.2.2.2.1, hm.2.2.2.2.1, hm.2.2.2.2.2.1, hm.2.2.2.2.2.2⟩ (m_sk.num l (Or.inr rfl)) rfl hF1)
  | succ k IH =>
    intro l g f M post hl hM hm hg h18 h
    have ht := hg.2.2.2.1
    refine Y.intro gX6_seeks (lv := [(0, .ref 59), (1, .int (nI (k + 1))), (2, .int (nI l))]) rfl (Nat.le_of_ble_eq_true rfl) ?_
    refine x_bipush (pc' := 2) rfl rfl bipush_m9 ?_
    refine x_istore_n (pc' := 3) (lv' := [(3, _), (0, _), (1, _), (2, _)]) rfl rfl (Nat.le_of_ble_eq_true rfl) rfl ?_
    refine x_aload_n (pc' := 4) rfl rfl rfl ?_
    refine x_get (pc' := 7) rfl rfl rfl (hM.1) rfl ?_
    refine x_aload_n (pc' := 8) rfl rfl rfl ?_
    refine x_get (pc' := 11) rfl rfl rfl (hM.1) rfl ?_
    refine x_eqi hm.2.2.2.2.2.2 ?_
    refine x_iaload (pc' := 12) rfl rfl (hM.2.1 2 (by decide)) (vp_in_nI (n := g_t g) (N := 2) (by omega) (by decide)) ?_
    refine x_eqi (m_pu hm (by omega)) ?_
    refine x_aload_n (pc' := 13) rfl rfl rfl ?_
    refine x_get (pc' := 16) rfl rfl rfl (hM.1) rfl ?_
    refine x_iconst (pc' := 17) rfl rfl iconst_1 ?_
    refine x_aload_n (pc' := 18) rfl rfl rfl ?_
    refine x_get (pc' := 21) rfl rfl rfl (hM.1) rfl ?_
    refine x_eqi hm.2.2.2.2.2.2 ?_
    refine x_isub (pc' := 22) rfl rfl ?_
    refine x_eqi (show (1 : Int32) - nI (g_t g) = nI (1 - g_t g) from pk_sub (a := 1) ht) ?_
    refine x_iaload (pc' := 23) rfl rfl (hM.2.1 2 (by decide)) (vp_in_nI (n := 1 - g_t g) (N := 2) (by omega) (by decide)) ?_
    refine x_eqi (m_pu hm (by omega)) ?_
    refine x_isub (pc' := 24) rfl rfl ?_
    refine x_istore (pc' := 26) (lv' := [(4, _), (3, _), (0, _), (1, _), (2, _)]) rfl rfl (Nat.le_of_ble_eq_true rfl) rfl ?_
    refine x_iload_n (pc' := 27) rfl rfl rfl ?_
    refine x_if_le (tgt := 106) (pc' := 30) rfl rfl rfl (fun c27 => absurd c27 ((nI_nle (by omega) (by omega)))) (fun _ => ?_)
    refine x_aload_n (pc' := 31) rfl rfl rfl ?_
    refine x_iload_n (pc' := 32) rfl rfl rfl ?_
    refine x_cV1v (d := 1) (pc' := 35) rfl rfl sX6_154 gX6_keeps (hM.1) (x_room (by omega) (Nat.le_of_ble_eq_true rfl)) (Nat.le_of_ble_eq_true rfl) ⟨Nat.le_of_ble_eq_true rfl, Nat.le_of_ble_eq_true rfl⟩ ?_
    refine m_keeps (l := l) (by omega) hM hm (fun f1 M1 hM1 g1 k1 fr1 hF1 => ⟨rfl, ?_⟩)
    refine x_iconst (pc' := 36) rfl rfl iconst_0 ?_
    refine x_istore (pc' := 38) (lv' := [(5, _), (4, _), (3, _), (0, _), (1, _), (2, _)]) rfl rfl (Nat.le_of_ble_eq_true rfl) rfl ?_
    exact m_seekL (l := l) (by omega) hC hC2 hg (fun g f M post a1 a2 a3 a4 a5 => IH (l + 1) g f M post (by omega) a1 a2 a3 a4 a5) f M h18 h (g_n g) 0 f1 M1 (by omega) hM1 g1 (k1.sk (by omega)) fr1 hF1
theorem m_worthOf {n : Nat} (hn : n ≤ 4) (hC : 99 ≤ C) (hC2 : C ≤ 100) (hM : x_Mdl z f M) (hm : m_is M g) (hg : g_ok C g) (h18 : M.1 18 = 0) (h : ∀ (f' : x_H) (M' : x_N), x_Mdl z f' M' → m_is M' g → m_sk M M' 0 → x_fr (fun q => q < 59) f f' → post (some (.int (q_wI n g))) f') : Y E 10 mX6_worthOf [.ref 59, .int (nI n)] z f 0 0 post := by
  refine Y.intro gX6_worthOf (lv := [(0, .ref 59), (1, .int (nI n))]) rfl (Nat.le_of_ble_eq_true rfl) ?_
  have ht := hg.2.2.2.1
  refine x_aload_n (pc' := 1) rfl rfl rfl ?_
  refine x_iload_n (pc' := 2) rfl rfl rfl ?_
  refine x_iconst (pc' := 3) rfl rfl iconst_0 ?_
  refine x_cV2i (d := (n + 5)) (pc' := 6) rfl rfl sX6_173 gX6_seeks (hM.1) (x_room (by omega) (Nat.le_of_ble_eq_true rfl)) (Nat.le_of_ble_eq_true rfl) ⟨Nat.le_of_ble_eq_true rfl, Nat.le_of_ble_eq_true rfl⟩ ?_
  refine m_seeks hC hC2 n 0 g f M _ (by omega) hM hm hg h18 (fun f1 M1 hM1 g1 s1 e22 hF1 => ⟨_, rfl, ?_⟩)
  refine x_aload_n (pc' := 7) rfl rfl rfl ?_
  refine x_get (pc' := 10) rfl rfl rfl (hM1.1) rfl ?_
  refine x_aload_n (pc' := 11) rfl rfl rfl ?_
  refine x_get (pc' := 14) rfl rfl rfl (hM1.1) rfl ?_
  refine x_eqi g1.2.2.2.2.2.2 ?_
  refine x_iaload (pc' := 15) rfl rfl (hM1.2.1 2 (by decide)) (vp_in_nI (n := g_t g) (N := 2) (by omega) (by decide)) ?_
  refine x_eqi (m_pu g1 (by omega)) ?_
  refine x_aload_n (pc' := 16) rfl rfl rfl ?_
  refine x_get (pc' := 19) rfl rfl rfl (hM1.1) rfl ?_
  refine x_iconst (pc' := 20) rfl rfl iconst_1 ?_
  refine x_aload_n (pc' := 21) rfl rfl rfl ?_
  refine x_get (pc' := 24) rfl rfl rfl (hM1.1) rfl ?_
  refine x_eqi g1.2.2.2.2.2.2 ?_
  refine x_isub (pc' := 25) rfl rfl ?_
  refine x_eqi (show (1 : Int32) - nI (g_t g) = nI (1 - g_t g) from pk_sub (a := 1) ht) ?_
  refine x_iaload (pc' := 26) rfl rfl (hM1.2.1 2 (by decide)) (vp_in_nI (n := 1 - g_t g) (N := 2) (by omega) (by decide)) ?_
  refine x_eqi (m_pu g1 (by omega)) ?_
  refine x_isub (pc' := 27) rfl rfl ?_
  refine x_isub (pc' := 28) rfl rfl ?_
  exact x_ireturn rfl rfl rfl (Nat.le_of_ble_eq_true rfl) (Nat.le_of_ble_eq_true rfl) (h _ _ hM1 g1 s1 hF1)
def s_bestR (A : q_A) (a : Int32) : q_A × Int32 := if a < 1 then (s_no A 4, -4) else if 4 < a then (s_no A 6, -6) else (A, (q_seI a.toNatClampNeg (a_g A)).2)
def s_worthR (A : q_A) (a : Int32) : q_A × Int32 := if a < 1 then (s_no A 4, 1000000000 - (-4)) else if 4 < a then (s_no A 6, 1000000000 - (-6)) else (A, q_wI a.toNatClampNeg (a_g A))
theorem r_best (hM : x_Mdl z f M) (hA : r_is M A) (ho : a_ok A) (h : r_ends z f post (s_bestR A a)) : Y E 12 mX6_best [.ref 59, .int a] z f 0 0 post := by
  refine Y.intro gX6_best (lv := [(0, .ref 59), (1, .int a)]) rfl (Nat.le_of_ble_eq_true rfl) ?_
  obtain ⟨b1, b2, b3, b4, b5, b6, b7, b8, b9⟩ := id hA
  refine x_iload_n (pc' := 1) rfl rfl rfl ?_
  refine x_iconst (pc' := 2) rfl rfl iconst_1 ?_
  refine x_icmp_ge (tgt := 12) (pc' := 5) rfl rfl rfl (fun c2 => ?_) (fun c2 => ?_)
  · have d1 : ¬ a < 1 := Int32.not_lt.mpr c2
    refine x_iload_n (pc' := 13) rfl rfl rfl ?_
    refine x_iconst (pc' := 14) rfl rfl iconst_4 ?_
    by_cases d2 : 4 < a
    · rw [show s_bestR A a = _ from (if_neg d1).trans (if_pos d2)] at h
      refine x_icmp_le (tgt := 24) (pc' := 17) rfl rfl rfl (fun q => absurd d2 (Int32.not_lt.mpr q)) (fun _ => ?_)
      refine x_aload_n (pc' := 18) rfl rfl rfl ?_
      refine x_bipush (pc' := 20) rfl rfl bipush_m6 ?_
      refine x_cV1i (d := 1) (pc' := 23) rfl rfl sX6_110 gX6_refuse (hM.1) (x_room (by omega) (Nat.le_of_ble_eq_true rfl)) (Nat.le_of_ble_eq_true rfl) ⟨Nat.le_of_ble_eq_true rfl, Nat.le_of_ble_eq_true rfl⟩ ?_
      refine r_refuse (k := 5) (by decide) (by decide) hM hA (fun f1 M1 hM1 hA1 hF1 => ⟨_, rfl, ?_⟩)
      exact x_ireturn rfl rfl rfl (Nat.le_of_ble_eq_true rfl) (Nat.le_of_ble_eq_true rfl) (h _ _ hM1 hA1 hF1)
    · rw [show s_bestR A a = _ from (if_neg d1).trans (if_neg d2)] at h
      refine x_icmp_le (tgt := 24) (pc' := 17) rfl rfl rfl (fun _ => ?_) (fun q => absurd (Int32.not_lt.mp d2) q)
      obtain ⟨n, hn, rfl⟩ := nI_of2 (n := 4) (M := 4) rfl (fun q => d1 (Int32.lt_trans q (by decide))) (Int32.not_lt.mp d2)
      rw [nI_clamp (by omega)] at h
      refine x_aload_n (pc' := 25) rfl rfl rfl ?_
      refine x_iload_n (pc' := 26) rfl rfl rfl ?_
      refine x_iconst (pc' := 27) rfl rfl iconst_0 ?_
      refine x_cV2i (d := (n + 5)) (pc' := 30) rfl rfl sX6_173 gX6_seeks (hM.1) (x_room (by omega) (Nat.le_of_ble_eq_true rfl)) (Nat.le_of_ble_eq_true rfl) ⟨Nat.le_of_ble_eq_true rfl, Nat.le_of_ble_eq_true rfl⟩ ?_
      refine m_seeks (C := 99) (by decide) (by decide) n 0 (a_g A) f M _ (by omega) hM b1 ho.1 b3 (fun f1 M1 hM1 g1 s1 e22 hF1 => ⟨_, rfl, ?_⟩)
      refine x_pop (pc' := 31) rfl rfl rfl ?_
      refine x_aload_n (pc' := 32) rfl rfl rfl ?_
      refine x_get (pc' := 35) rfl rfl rfl (hM1.1) rfl ?_
      refine x_eqi e22 ?_
      exact x_ireturn rfl rfl rfl (Nat.le_of_ble_eq_true rfl) (Nat.le_of_ble_eq_true rfl) (h _ _ hM1 (hA.sc s1.sc g1) hF1)
  · rw [show s_bestR A a = _ from if_pos (Int32.not_le.mp c2)] at h
    refine x_aload_n (pc' := 6) rfl rfl rfl ?_
    refine x_bipush (pc' := 8) rfl rfl bipush_m4 ?_
    refine x_cV1i (d := 1) (pc' := 11) rfl rfl sX6_110 gX6_refuse (hM.1) (x_room (by omega) (Nat.le_of_ble_eq_true rfl)) (Nat.le_of_ble_eq_true rfl) ⟨Nat.le_of_ble_eq_true rfl, Nat.le_of_ble_eq_true rfl⟩ ?_
    refine r_refuse (k := 3) (by decide) (by decide) hM hA (fun f1 M1 hM1 hA1 hF1 => ⟨_, rfl, ?_⟩)
    exact x_ireturn rfl rfl rfl (Nat.le_of_ble_eq_true rfl) (Nat.le_of_ble_eq_true rfl) (h _ _ hM1 hA1 hF1)
theorem r_worth (hM : x_Mdl z f M) (hA : r_is M A) (ho : a_ok A) (h : r_ends z f post (s_worthR A a)) : Y E 12 mX6_worth [.ref 59, .int a] z f 0 0 post := by
  refine Y.intro gX6_worth (lv := [(0, .ref 59), (1, .int a)]) rfl (Nat.le_of_ble_eq_true rfl) ?_
  obtain ⟨b1, b2, b3, b4, b5, b6, b7, b8, b9⟩ := id hA
  refine x_iload_n (pc' := 1) rfl rfl rfl ?_
  refine x_iconst (pc' := 2) rfl rfl iconst_1 ?_
  refine x_icmp_ge (tgt := 12) (pc' := 5) rfl rfl rfl (fun c2 => ?_) (fun c2 => ?_)
  · have d1 : ¬ a < 1 := Int32.not_lt.mpr c2
    refine x_iload_n (pc' := 13) rfl rfl rfl ?_
    refine x_iconst (pc' := 14) rfl rfl iconst_4 ?_
    by_cases d2 : 4 < a
    · rw [show s_worthR A a = _ from (if_neg d1).trans (if_pos d2)] at h
      refine x_icmp_le (tgt := 24) (pc' := 17) rfl rfl rfl (fun q => absurd d2 (Int32.not_lt.mpr q)) (fun _ => ?_)
      refine x_aload_n (pc' := 18) rfl rfl rfl ?_
      refine x_bipush (pc' := 20) rfl rfl bipush_m6 ?_
      refine x_cV1i (d := 2) (pc' := 23) rfl rfl sX6_180 gX6_told (hM.1) ⟨Nat.le_of_ble_eq_true rfl, Nat.le_of_ble_eq_true rfl⟩ (Nat.le_of_ble_eq_true rfl) ⟨Nat.le_of_ble_eq_true rfl, Nat.le_of_ble_eq_true rfl⟩ ?_
      refine r_told (k := 5) (by decide) (by decide) hM hA (fun f1 M1 hM1 hA1 hF1 => ⟨_, rfl, ?_⟩)
      exact x_ireturn rfl rfl rfl (Nat.le_of_ble_eq_true rfl) (Nat.le_of_ble_eq_true rfl) (h _ _ hM1 hA1 hF1)
    · rw [show s_worthR A a = _ from (if_neg d1).trans (if_neg d2)] at h
      refine x_icmp_le (tgt := 24) (pc' := 17) rfl rfl rfl (fun _ => ?_) (fun q => absurd (Int32.not_lt.mp d2) q)
      obtain ⟨n, hn, rfl⟩ := nI_of2 (n := 4) (M := 4) rfl (fun q => d1 (Int32.lt_trans q (by decide))) (Int32.not_lt.mp d2)
      rw [nI_clamp (by omega)] at h
      refine x_aload_n (pc' := 25) rfl rfl rfl ?_
      refine x_iload_n (pc' := 26) rfl rfl rfl ?_
      refine x_cV1i (d := 10) (pc' := 29) rfl rfl sX6_183 gX6_worthOf (hM.1) ⟨Nat.le_of_ble_eq_true rfl, Nat.le_of_ble_eq_true rfl⟩ (Nat.le_of_ble_eq_true rfl) ⟨Nat.le_of_ble_eq_true rfl, Nat.le_of_ble_eq_true rfl⟩ ?_
      refine m_worthOf (C := 99) hn (by decide) (by decide) hM b1 ho.1 b3 (fun f1 M1 hM1 g1 s1 hF1 => ⟨_, rfl, ?_⟩)
      exact x_ireturn rfl rfl rfl (Nat.le_of_ble_eq_true rfl) (Nat.le_of_ble_eq_true rfl) (h _ _ hM1 (hA.sc s1.sc g1) hF1)
  · rw [show s_worthR A a = _ from if_pos (Int32.not_le.mp c2)] at h
    refine x_aload_n (pc' := 6) rfl rfl rfl ?_
    refine x_bipush (pc' := 8) rfl rfl bipush_m4 ?_
    refine x_cV1i (d := 2) (pc' := 11) rfl rfl sX6_180 gX6_told (hM.1) ⟨Nat.le_of_ble_eq_true rfl, Nat.le_of_ble_eq_true rfl⟩ (Nat.le_of_ble_eq_true rfl) ⟨Nat.le_of_ble_eq_true rfl, Nat.le_of_ble_eq_true rfl⟩ ?_
    refine r_told (k := 3) (by decide) (by decide) hM hA (fun f1 M1 hM1 hA1 hF1 => ⟨_, rfl, ?_⟩)
    exact x_ireturn rfl rfl rfl (Nat.le_of_ble_eq_true rfl) (Nat.le_of_ble_eq_true rfl) (h _ _ hM1 hA1 hF1)
def g_bm (g : q_G) (b v : Nat) : q_G := (g.1, q_up (g_β g) b v, g.2.2)
theorem g_bm_ok {C D : Nat} {g : q_G} {b v : Nat} (h : g_ok C g) (hb : b < g_n g) (hC : C ≤ D) (hv : v ≤ D) : g_ok D (g_bm g b v) := by
  obtain ⟨a1, a2, a3, a4, a5, a6, a7, a8, a9⟩ := h.mono hC
  refine ⟨a1, a2, a3, a4, a5, q_up_le a6 hv, a7, fun i hi => ⟨(a8 i hi).1, ?_⟩, a9⟩
  show q_up (g_β g) b v i = 0
  have hn : g_n g ≤ 9 := a1
  rw [q_up_n _ _ (by omega)]
  exact (a8 i hi).2
theorem m_worthBy {b v : Nat} {w : Int32} (hb : b < g_n g) (hw : nI (g_β g b) + w = nI v) (hw2 : nI v - w = nI (g_β g b)) (hv : v ≤ 100) (hM : x_Mdl z f M) (hm : m_is M g) (hg : g_ok 99 g) (h18 : M.1 18 = 0) (h : ∀ (f' : x_H) (M' : x_N), x_Mdl z f' M' → m_is M' g → m_sk M M' 0 → x_fr (fun q => q < 59) f f' → post (some (.int (q_wI 2 (g_bm g b v) - q_wI 2 g))) f') : Y E 12 mX6_worthBy [.ref 59, .int (nI b), .int w] z f 0 0 post := by
  refine Y.intro gX6_worthBy (lv := [(0, .ref 59), (1, .int (nI b)), (2, .int w)]) rfl (Nat.le_of_ble_eq_true rfl) ?_
  have hn9 := hg.1
  have hcl : (nI b).toNatClampNeg = b := nI_clamp (by omega)
  have e0 : M.2.1 1 (nI b).toNatClampNeg = nI (g_β g b) := by rw [hcl, hm.2.1]
  refine x_aload_n (pc' := 1) rfl rfl rfl ?_
  refine x_get (pc' := 4) rfl rfl rfl (hM.1) rfl ?_
  refine x_iload_n (pc' := 5) rfl rfl rfl ?_
  refine x_dup2 (pc' := 6) rfl rfl rfl rfl ?_
  refine x_iaload (pc' := 7) rfl rfl (hM.2.1 1 (by decide)) (vp_in_nI (n := b) (N := 9) (by omega) (by decide)) ?_
  refine x_eqi e0 ?_
  refine x_iload_n (pc' := 8) rfl rfl rfl ?_
  refine x_iadd (pc' := 9) rfl rfl ?_
  refine x_eqi hw ?_
  refine x_iastore (pc' := 10) rfl rfl (hM.2.1 1 (by decide)) (vp_in_nI (n := b) (N := 9) (by omega) (by decide)) (fun f1 e1 => ?_)
  have hM1 := hM.arr 1 (by decide) e1
  have hF1 := r_fr0 e1 (by decide)
  have g1 : m_is (M.1, x_ua M.2.1 1 (upd (M.2.1 1) (nI b).toNatClampNeg (nI v)), M.2.2) (g_bm g b v) := ⟨hm.1, (by show upd (M.2.1 1) (nI b).toNatClampNeg (nI v) = _; rw [hcl, hm.2.1, q_up_I]; rfl), hm.2.2.1, hm.2.2.2.1, hm.2.2.2.2.1, hm.2.2.2.2.2.1, hm.2.2.2.2.2.2⟩
  refine x_aload_n (pc' := 11) rfl rfl rfl ?_
  refine x_iconst (pc' := 12) rfl rfl iconst_2 ?_
  refine x_cV1i (d := 10) (pc' := 15) rfl rfl sX6_183 gX6_worthOf (hM1.1) ⟨Nat.le_of_ble_eq_true rfl, Nat.le_of_ble_eq_true rfl⟩ (Nat.le_of_ble_eq_true rfl) ⟨Nat.le_of_ble_eq_true rfl, Nat.le_of_ble_eq_true rfl⟩ ?_
  refine m_worthOf (n := 2) (C := 100) (by decide) (by decide) (by decide) hM1 g1 (g_bm_ok hg hb (by decide) hv) h18 (fun f2 M2 hM2 g2 s2 hF2 => ⟨_, rfl, ?_⟩)
  have e2 : M2.2.1 1 (nI b).toNatClampNeg = nI v := by rw [hcl, g2.2.1]; exact congrArg nI (q_up_s _ _ _)
  refine x_istore_n (pc' := 16) (lv' := [(3, _), (0, _), (1, _), (2, _)]) rfl rfl (Nat.le_of_ble_eq_true rfl) rfl ?_
  refine x_aload_n (pc' := 17) rfl rfl rfl ?_
  refine x_get (pc' := 20) rfl rfl rfl (hM2.1) rfl ?_
  refine x_iload_n (pc' := 21) rfl rfl rfl ?_
  refine x_dup2 (pc' := 22) rfl rfl rfl rfl ?_
  refine x_iaload (pc' := 23) rfl rfl (hM2.2.1 1 (by decide)) (vp_in_nI (n := b) (N := 9) (by omega) (by decide)) ?_
  refine x_eqi e2 ?_
  refine x_iload_n (pc' := 24) rfl rfl rfl ?_
  refine x_isub (pc' := 25) rfl rfl ?_
  refine x_eqi hw2 ?_
  refine x_iastore (pc' := 26) rfl rfl (hM2.2.1 1 (by decide)) (vp_in_nI (n := b) (N := 9) (by omega) (by decide)) (fun f2 e2 => ?_)
  have hM3 := hM2.arr 1 (by decide) e2
  have hF3 := (hF1.trans hF2).trans (r_fr0 e2 (by decide))
  have g3 : m_is (M2.1, x_ua M2.2.1 1 (upd (M2.2.1 1) (nI b).toNatClampNeg (nI (g_β g b))), M2.2.2) g := ⟨g2.1, (by show upd (M2.2.1 1) (nI b).toNatClampNeg (nI (g_β g b)) = _; rw [hcl, g2.2.1, q_up_I]; funext i; show nI (q_up (q_up (g_β g) b v) b (g_β g b) i) = nI (g_β g i); congr 1; unfold q_up; split; rename_i hi; rw [hi]; rfl), g2.2.2.1, g2.2.2.2.1, g2.2.2.2.2.1, g2.2.2.2.2.2.1, g2.2.2.2.2.2.2⟩
  have h183 : M2.1 18 = 0 := (s2.2.2.1 18 (by decide) (by decide) (by decide) (by decide) (by decide) (by decide)).trans h18
  have s3 : m_sk M (M2.1, x_ua M2.2.1 1 (upd (M2.2.1 1) (nI b).toNatClampNeg (nI (g_β g b))), M2.2.2) 0 := ⟨fun j a b c => (if_neg a).trans ((s2.1 j a b c).trans (if_neg a)), s2.2.1, s2.2.2.1, s2.2.2.2⟩
  refine x_iload_n (pc' := 27) rfl rfl rfl ?_
  refine x_aload_n (pc' := 28) rfl rfl rfl ?_
  refine x_iconst (pc' := 29) rfl rfl iconst_2 ?_
  refine x_cV1i (d := 10) (pc' := 32) rfl rfl sX6_183 gX6_worthOf (hM3.1) ⟨Nat.le_of_ble_eq_true rfl, Nat.le_of_ble_eq_true rfl⟩ (Nat.le_of_ble_eq_true rfl) ⟨Nat.le_of_ble_eq_true rfl, Nat.le_of_ble_eq_true rfl⟩ ?_
  refine m_worthOf (n := 2) (C := 99) (by decide) (by decide) (by decide) hM3 g3 hg h183 (fun f4 M4 hM4 g4 s4 hF4 => ⟨_, rfl, ?_⟩)
  refine x_isub (pc' := 33) rfl rfl ?_
  exact x_ireturn rfl rfl rfl (Nat.le_of_ble_eq_true rfl) (Nat.le_of_ble_eq_true rfl) (h _ _ hM4 g4 (s3.trans s4 (Nat.le_refl 0)) (hF3.trans hF4))
def s_priceR (A : q_A) (a : Int32) : q_A × Int32 := if q_in (g_n (a_g A)) a then (A, q_wI 2 (g_bm (a_g A) a.toNatClampNeg (g_β (a_g A) a.toNatClampNeg + 1)) - q_wI 2 (a_g A)) else (s_no A 1, 1000000000 - (-1))
def s_soldR (A : q_A) (a : Int32) : q_A × Int32 := if q_in (g_n (a_g A)) a then (if g_β (a_g A) a.toNatClampNeg = 0 then (s_no A 3, 1000000000 - (-3)) else (A, q_wI 2 (g_bm (a_g A) a.toNatClampNeg (g_β (a_g A) a.toNatClampNeg - 1)) - q_wI 2 (a_g A))) else (s_no A 1, 1000000000 - (-1))
theorem r_price (hM : x_Mdl z f M) (hA : r_is M A) (ho : a_ok A) (h : r_ends z f post (s_priceR A a)) : Y E 14 mX6_price [.ref 59, .int a] z f 0 0 post := by
  refine Y.intro gX6_price (lv := [(0, .ref 59), (1, .int a)]) rfl (Nat.le_of_ble_eq_true rfl) ?_
  obtain ⟨b1, b2, b3, b4, b5, b6, b7, b8, b9⟩ := id hA
  have hn9 := ho.1.1
  refine x_aload_n (pc' := 1) rfl rfl rfl ?_
  refine x_iload_n (pc' := 2) rfl rfl rfl ?_
  refine x_cV1i (d := 2) (pc' := 5) rfl rfl sX6_103 gX6_isBowl (hM.1) ⟨Nat.le_of_ble_eq_true rfl, Nat.le_of_ble_eq_true rfl⟩ (Nat.le_of_ble_eq_true rfl) ⟨Nat.le_of_ble_eq_true rfl, Nat.le_of_ble_eq_true rfl⟩ ?_
  refine r_bowl hM hA ho (fun d1 => ⟨_, rfl, ?_⟩) (fun d1 => ⟨_, rfl, ?_⟩)
  · rw [show s_priceR A a = _ from if_pos d1] at h
    obtain ⟨k, hk, hk2, rfl, hcl⟩ := q_in_k d1
    rw [hcl] at h
    have hβ := ho.1.2.2.2.2.2.1 k
    refine x_if_eq (tgt := 17) (pc' := 8) rfl rfl rfl (fun c5 => absurd c5 ((by decide))) (fun _ => ?_)
    refine x_aload_n (pc' := 9) rfl rfl rfl ?_
    refine x_iload_n (pc' := 10) rfl rfl rfl ?_
    refine x_iconst (pc' := 11) rfl rfl iconst_1 ?_
    refine x_cV2i (d := 12) (pc' := 14) rfl rfl sX6_200 gX6_worthBy (hM.1) ⟨Nat.le_of_ble_eq_true rfl, Nat.le_of_ble_eq_true rfl⟩ (Nat.le_of_ble_eq_true rfl) ⟨Nat.le_of_ble_eq_true rfl, Nat.le_of_ble_eq_true rfl⟩ ?_
    refine m_worthBy (v := g_β (a_g A) k + 1) hk (nI_1 _) (nI_pred _) (by omega) hM b1 ho.1 b3 (fun f1 M1 hM1 g1 s1 hF1 => ⟨_, rfl, ?_⟩)
    refine x_goto (tgt := 22) rfl rfl ?_
    exact x_ireturn rfl rfl rfl (Nat.le_of_ble_eq_true rfl) (Nat.le_of_ble_eq_true rfl) (h _ _ hM1 (hA.sc s1.sc g1) hF1)
  · rw [show s_priceR A a = _ from if_neg d1] at h
    refine x_if_eq (tgt := 17) (pc' := 8) rfl rfl rfl (fun _ => ?_) (fun c5 => absurd (rfl) c5)
    refine x_aload_n (pc' := 18) rfl rfl rfl ?_
    refine x_iconst (pc' := 19) rfl rfl iconst_m1 ?_
    refine x_cV1i (d := 2) (pc' := 22) rfl rfl sX6_180 gX6_told (hM.1) ⟨Nat.le_of_ble_eq_true rfl, Nat.le_of_ble_eq_true rfl⟩ (Nat.le_of_ble_eq_true rfl) ⟨Nat.le_of_ble_eq_true rfl, Nat.le_of_ble_eq_true rfl⟩ ?_
    refine r_told (k := 0) (by decide) (by decide) hM hA (fun f1 M1 hM1 hA1 hF1 => ⟨_, rfl, ?_⟩)
    exact x_ireturn rfl rfl rfl (Nat.le_of_ble_eq_true rfl) (Nat.le_of_ble_eq_true rfl) (h _ _ hM1 hA1 hF1)
theorem r_sold (hM : x_Mdl z f M) (hA : r_is M A) (ho : a_ok A) (h : r_ends z f post (s_soldR A a)) : Y E 14 mX6_sold [.ref 59, .int a] z f 0 0 post := by
  refine Y.intro gX6_sold (lv := [(0, .ref 59), (1, .int a)]) rfl (Nat.le_of_ble_eq_true rfl) ?_
  obtain ⟨b1, b2, b3, b4, b5, b6, b7, b8, b9⟩ := id hA
  have hn9 := ho.1.1
  refine x_aload_n (pc' := 1) rfl rfl rfl ?_
  refine x_iload_n (pc' := 2) rfl rfl rfl ?_
  refine x_cV1i (d := 2) (pc' := 5) rfl rfl sX6_103 gX6_isBowl (hM.1) ⟨Nat.le_of_ble_eq_true rfl, Nat.le_of_ble_eq_true rfl⟩ (Nat.le_of_ble_eq_true rfl) ⟨Nat.le_of_ble_eq_true rfl, Nat.le_of_ble_eq_true rfl⟩ ?_
  refine r_bowl hM hA ho (fun d1 => ⟨_, rfl, ?_⟩) (fun d1 => ⟨_, rfl, ?_⟩)
  · rw [show s_soldR A a = _ from if_pos d1] at h
    obtain ⟨k, hk, hk2, rfl, hcl⟩ := q_in_k d1
    have e0 : M.2.1 1 (nI k).toNatClampNeg = nI (g_β (a_g A) k) := by rw [hcl, b1.2.1]
    rw [hcl] at h
    have hβ := ho.1.2.2.2.2.2.1 k
    refine x_if_ne (tgt := 14) (pc' := 8) rfl rfl rfl (fun _ => ?_) (fun c5 => absurd c5 ((by decide)))
    refine x_aload_n (pc' := 15) rfl rfl rfl ?_
    refine x_get (pc' := 18) rfl rfl rfl (hM.1) rfl ?_
    refine x_iload_n (pc' := 19) rfl rfl rfl ?_
    refine x_iaload (pc' := 20) rfl rfl (hM.2.1 1 (by decide)) (vp_in_nI (n := k) (N := 9) (by omega) (by decide)) ?_
    refine x_eqi e0 ?_
    by_cases d2 : g_β (a_g A) k = 0
    · rw [if_pos d2] at h
      refine x_if_ne (tgt := 32) (pc' := 23) rfl rfl rfl (fun q => absurd (by rw [d2]; rfl) q) (fun _ => ?_)
      refine x_aload_n (pc' := 24) rfl rfl rfl ?_
      refine x_bipush (pc' := 26) rfl rfl bipush_m3 ?_
      refine x_cV1i (d := 2) (pc' := 29) rfl rfl sX6_180 gX6_told (hM.1) ⟨Nat.le_of_ble_eq_true rfl, Nat.le_of_ble_eq_true rfl⟩ (Nat.le_of_ble_eq_true rfl) ⟨Nat.le_of_ble_eq_true rfl, Nat.le_of_ble_eq_true rfl⟩ ?_
      refine r_told (k := 2) (by decide) (by decide) hM hA (fun f1 M1 hM1 hA1 hF1 => ⟨_, rfl, ?_⟩)
      refine x_goto (tgt := 38) rfl rfl ?_
      exact x_ireturn rfl rfl rfl (Nat.le_of_ble_eq_true rfl) (Nat.le_of_ble_eq_true rfl) (h _ _ hM1 hA1 hF1)
    · rw [if_neg d2] at h
      refine x_if_ne (tgt := 32) (pc' := 23) rfl rfl rfl (fun _ => ?_) (fun q => absurd q (nI_ne0 (by omega) (by omega)))
      refine x_aload_n (pc' := 33) rfl rfl rfl ?_
      refine x_iload_n (pc' := 34) rfl rfl rfl ?_
      refine x_iconst (pc' := 35) rfl rfl iconst_m1 ?_
      refine x_cV2i (d := 12) (pc' := 38) rfl rfl sX6_200 gX6_worthBy (hM.1) ⟨Nat.le_of_ble_eq_true rfl, Nat.le_of_ble_eq_true rfl⟩ (Nat.le_of_ble_eq_true rfl) ⟨Nat.le_of_ble_eq_true rfl, Nat.le_of_ble_eq_true rfl⟩ ?_
      refine m_worthBy (v := g_β (a_g A) k - 1) hk (by obtain ⟨v, hv⟩ : ∃ v, g_β (a_g A) k = v + 1 := ⟨g_β (a_g A) k - 1, by omega⟩; rw [hv]; exact pk_m1 v) (by obtain ⟨v, hv⟩ : ∃ v, g_β (a_g A) k = v + 1 := ⟨g_β (a_g A) k - 1, by omega⟩; rw [hv, nI_succ, Nat.add_sub_cancel, Int32.sub_neg]) (by omega) hM b1 ho.1 b3 (fun f1 M1 hM1 g1 s1 hF1 => ⟨_, rfl, ?_⟩)
      exact x_ireturn rfl rfl rfl (Nat.le_of_ble_eq_true rfl) (Nat.le_of_ble_eq_true rfl) (h _ _ hM1 (hA.sc s1.sc g1) hF1)
  · rw [show s_soldR A a = _ from if_neg d1] at h
    refine x_if_ne (tgt := 14) (pc' := 8) rfl rfl rfl (fun c5 => absurd (rfl) c5) (fun _ => ?_)
    refine x_aload_n (pc' := 9) rfl rfl rfl ?_
    refine x_iconst (pc' := 10) rfl rfl iconst_m1 ?_
    refine x_cV1i (d := 2) (pc' := 13) rfl rfl sX6_180 gX6_told (hM.1) ⟨Nat.le_of_ble_eq_true rfl, Nat.le_of_ble_eq_true rfl⟩ (Nat.le_of_ble_eq_true rfl) ⟨Nat.le_of_ble_eq_true rfl, Nat.le_of_ble_eq_true rfl⟩ ?_
    refine r_told (k := 0) (by decide) (by decide) hM hA (fun f1 M1 hM1 hA1 hF1 => ⟨_, rfl, ?_⟩)
    exact x_ireturn rfl rfl rfl (Nat.le_of_ble_eq_true rfl) (Nat.le_of_ble_eq_true rfl) (h _ _ hM1 hA1 hF1)
end SK
