section
-- == 37.state
/-! The state of a game, on both sides. -/
/-- kinds, beans, purses, how many bowls, fullness, lent, turn -/
abbrev q_G : Type := (Nat → Nat) × (Nat → Nat) × (Nat → Nat) × Nat × Nat × Nat × Nat
abbrev g_κ (g : q_G) : Nat → Nat := g.1
abbrev g_β (g : q_G) : Nat → Nat := g.2.1
abbrev g_π (g : q_G) : Nat → Nat := g.2.2.1
abbrev g_n (g : q_G) : Nat := g.2.2.2.1
abbrev g_f (g : q_G) : Nat := g.2.2.2.2.1
abbrev g_l (g : q_G) : Nat := g.2.2.2.2.2.1
abbrev g_t (g : q_G) : Nat := g.2.2.2.2.2.2
def t_is (T : x_T) (g : q_G) : Prop := T.1 = (fun i => nI (g_κ g i)) ∧ T.2.1 = (fun i => nI (g_β g i)) ∧ T.2.2.1 = (fun i => nI (g_π g i)) ∧ T.2.2.2 0 = nI (g_n g) ∧ T.2.2.2 1 = nI (g_f g) ∧ T.2.2.2 2 = nI (g_l g) ∧ T.2.2.2 3 = nI (g_t g)
def m_is (M : x_N) (g : q_G) : Prop := M.2.1 0 = (fun i => nI (g_κ g i)) ∧ M.2.1 1 = (fun i => nI (g_β g i)) ∧ M.2.1 2 = (fun i => nI (g_π g i)) ∧ M.1 3 = nI (g_n g) ∧ M.1 4 = nI (g_f g) ∧ M.1 5 = nI (g_l g) ∧ M.1 7 = nI (g_t g)
def g_ok (C : Nat) (g : q_G) : Prop := g_n g ≤ 9 ∧ (1 ≤ g_f g ∧ g_f g ≤ 9) ∧ g_l g ≤ 1 ∧ g_t g ≤ 1 ∧ (∀ i, g_κ g i ≤ 5) ∧ (∀ i, g_β g i ≤ C) ∧ (∀ i, g_π g i ≤ 999) ∧ (∀ i, 9 ≤ i → g_κ g i = 0 ∧ g_β g i = 0) ∧ (∀ i, 2 ≤ i → g_π g i = 0)
theorem g_ok.mono {C D : Nat} {g : q_G} (h : g_ok C g) (hd : C ≤ D) : g_ok D g := ⟨h.1, h.2.1, h.2.2.1, h.2.2.2.1, h.2.2.2.2.1, fun i => Nat.le_trans (h.2.2.2.2.2.1 i) hd, h.2.2.2.2.2.2⟩
abbrev g_can (g : q_G) (b : Nat) : Prop := 2 ≤ g_n g ∧ b < g_n g ∧ 0 < g_β g b
abbrev g_v (g : q_G) (b : Nat) : (Nat → Nat) × Nat × Nat × Option Nat := q_mv (g_κ g) (g_n g) (g_f g) (g_l g) (g_β g) b
def g_mv (g : q_G) (b : Nat) : q_G := (g_κ g, q_b1 (g_v g b).1 (g_π g (g_t g)) (g_v g b).2.2.2, q_p1 (g_v g b).1 (g_π g) (g_t g) (g_v g b).2.2.2, g_n g, g_f g, g_l g, 1 - g_t g)
theorem q_run_out {κ : Nat → Nat} {n fu ln : Nat} : ∀ (k : Nat) (w : q_W), w.2.1 < n → ∀ i, n ≤ i → (q_run κ n fu ln k w).1 i = w.1 i
  | 0, w, _, _, _ => rfl
  | k + 1, w, h, i, hi => by
    by_cases hg : 0 < w.2.2.1 ∧ w.2.2.2.1 < n
    · have h6 := q_nx_lt (ln := ln) h
      rw [q_run_go hg, q_run_out k _ (by unfold q_st; split <;> exact h6) i hi]
      unfold q_st
      split
      · exact q_up_n _ _ (by omega)
      · rfl
    · rw [q_run_stop hg]
theorem q_hand_out {κ β : Nat → Nat} {n fu ln b : Nat} {l : Option Nat} (hb : b < n) : ∀ i, n ≤ i → (q_hand κ n fu ln β b l).1 i = β i := by
  intro i hi
  have h1 := q_run_out (κ := κ) (fu := fu) (ln := ln) 1000 (q_up β b 0, b, β b, 0, 0, l) hb i hi
  unfold q_hand
  show q_up _ b _ i = β i
  rw [q_up_n _ _ (by omega), h1]
  exact q_up_n _ _ (by omega)
theorem q_hands_out {κ : Nat → Nat} {n fu ln : Nat} : ∀ (k : Nat) (β : Nat → Nat) (b hs s : Nat) (l : Option Nat), b < n → (∀ i, β i ≤ 100) → (∀ p, l = some p → p < n) → ∀ i, n ≤ i → (q_hands κ n fu ln k β b hs s l).1 i = β i
  | 0, β, b, hs, s, l, hb, hβ, hl, i, hi => rfl
  | k + 1, β, b, hs, s, l, hb, hβ, hl, i, hi => by
    have h1 := q_hand_le (κ := κ) (n := n) (fu := fu) (ln := ln) (b := b) (l := l) (C := 100) (by decide) hβ
    have h2 := q_hand_l (κ := κ) (fu := fu) (ln := ln) hb hβ hl
    have h3 := q_hand_out (κ := κ) (fu := fu) (ln := ln) (β := β) (l := l) hb i hi
    rw [q_hands]
    split
    · rename_i hg
      obtain ⟨p, hp, hpn⟩ := h2.2 hg.1
      rw [q_hands_out k _ _ _ _ _ (by rw [hp]; exact hpn) h1.1 h2.1 i hi]
      exact h3
    · exact h3
theorem g_v_ok {C : Nat} {g : q_G} {b : Nat} (h : g_ok C g) (hC : 99 ≤ C) (hC2 : C ≤ 100) (hb : b < g_n g) : (∀ i, (g_v g b).1 i ≤ C) ∧ (∀ p, (g_v g b).2.2.2 = some p → p < g_n g) ∧ (∀ i, g_n g ≤ i → (g_v g b).1 i = g_β g i) := by
  have hβ := h.2.2.2.2.2.1
  unfold g_v q_mv
  split
  · have h1 := q_hands_ok (κ := g_κ g) (n := g_n g) (fu := g_f g) (ln := g_l g) hC hC2 60 (g_β g) b 0 0 none hb hβ (fun p hp => by cases hp)
    exact ⟨h1.1, h1.2, q_hands_out 60 (g_β g) b 0 0 none hb (fun i => Nat.le_trans (hβ i) hC2) (fun p hp => by cases hp)⟩
  · exact ⟨hβ, (fun p hp => by cases hp), fun _ _ => rfl⟩
theorem q_b1_le {β : Nat → Nat} {pt C : Nat} {l : Option Nat} (h : ∀ i, β i ≤ C) : ∀ i, q_b1 β pt l i ≤ C := by
  unfold q_b1
  split
  · exact q_up_le h (Nat.zero_le _)
  · exact h
theorem g_mv_ok {C : Nat} {g : q_G} {b : Nat} (h : g_ok C g) (hC : 99 ≤ C) (hC2 : C ≤ 100) (hb : b < g_n g) : g_ok C (g_mv g b) := by
  obtain ⟨v1, v2, v3⟩ := g_v_ok h hC hC2 hb
  obtain ⟨a1, a2, a3, a4, a5, a6, a7, a8, a9⟩ := h
  refine ⟨a1, a2, a3, by show 1 - g_t g ≤ 1; omega, a5, q_b1_le v1, ?_, fun i hi => ⟨(a8 i hi).1, ?_⟩, ?_⟩
  · show ∀ i, q_p1 (g_v g b).1 (g_π g) (g_t g) (g_v g b).2.2.2 i ≤ 999
    unfold q_p1
    split
    · rename_i hq
      refine q_up_le a7 ?_
      cases hl : (g_v g b).2.2.2 with
      | none => rw [hl] at hq; cases hq
      | some p =>
        rw [hl] at hq
        simp only [q_tk1, Bool.and_eq_true, decide_eq_true_eq] at hq
        omega
    · exact a7
  · show q_b1 (g_v g b).1 (g_π g (g_t g)) (g_v g b).2.2.2 i = 0
    have h3 : (g_v g b).1 i = 0 := (v3 i (by omega)).trans (a8 i hi).2
    unfold q_b1
    split
    · unfold q_up
      split
      · rfl
      · exact h3
    · exact h3
  · intro i hi
    show q_p1 (g_v g b).1 (g_π g) (g_t g) (g_v g b).2.2.2 i = 0
    unfold q_p1
    split
    · rw [q_up_n _ _ (by omega)]
      exact a9 i hi
    · exact a9 i hi
theorem t_is_nI {T : x_T} {g : q_G} {b : Int32} (h : t_is T g) (hn : g_n g ≤ 9) (hb : t_has T b) : ∃ k : Nat, k < g_n g ∧ b = nI k := by
  obtain ⟨k, hk, rfl⟩ := nI_of hb.1
  refine ⟨k, ?_, rfl⟩
  have h2 := hb.2.1
  rw [h.2.2.2.1] at h2
  exact (nI_ltI hk (by omega)).mp h2
section STATE
variable {E : x_E} {z : Nat} {f : x_H} {t : Nat} {T : x_T} {M : x_N} {g : q_G} {post : Option Value → x_H → Prop} {C b : Nat}
theorem w_can (hT : x_t z f t T) (hg : t_is T g) (hok : g_ok C g) (hC : C ≤ 100) (hb : b < 2 ^ 31) (h1 : g_can g b → post (some (.int 1)) f) (h0 : ¬ g_can g b → post (some (.int 0)) f) : Y E 2 mX3_canMove [.ref t, .int (nI b)] z f 0 0 post := by
  obtain ⟨a1, a2, a3, a4, a5, a6, a7, a8, a9⟩ := hok
  obtain ⟨g1, g2, g3, g4, g5, g6, g7⟩ := id hg
  have hcl : (nI b).toNatClampNeg = b := nI_clamp hb
  have eβ : T.2.1 (nI b).toNatClampNeg = nI (g_β g b) := by rw [hcl, g2]
  have hβ := a6 b
  refine w_canMove hT (fun d => h1 ⟨?_, ?_, ?_⟩) (fun d => h0 (fun q => d ⟨?_, ?_, ?_⟩))
  · have h2 := d.1
    rw [g4] at h2
    exact (nI_leI (a := 2) (by decide) (by omega)).mp h2
  · have h2 := d.2.1.2.1
    rw [g4] at h2
    exact (nI_ltI hb (by omega)).mp h2
  · have h2 := d.2.2
    rw [eβ] at h2
    exact (nI_ltI (a := 0) (by decide) (by omega)).mp h2
  · rw [g4]
    exact nI_le (a := 2) q.1 (by omega)
  · exact t_has_nI g4 a1 q.2.1
  · rw [eβ]
    exact nI_lt (a := 0) q.2.2 (by omega)
theorem w_move (hT : x_t z f t T) (hg : t_is T g) (hok : g_ok C g) (hC : C ≤ 100) (hb : b < g_n g) (h : ∀ (f' : x_H) (T' : x_T), x_t z f' t T' → t_is T' (g_mv g b) → T'.2.2.2 4 = T.2.2.2 4 + 1 → T'.2.2.2 5 = nI (g_v g b).2.1 → T'.2.2.2 6 = q_lI (g_v g b).2.2.2 → T'.2.2.2 7 = nI (g_v g b).2.2.1 → T'.2.2.2 8 = (if q_tk1 (g_v g b).1 (g_π g (g_t g)) (g_v g b).2.2.2 = true then 1 else 0) → x_fr (x_ot t) f f' → post none f') : Y E 4 mX3_makeMove [.ref t, .int (nI b)] z f 0 0 post := by
  obtain ⟨a1, a2, a3, a4, a5, a6, a7, a8, a9⟩ := hok
  obtain ⟨g1, g2, g3, g4, g5, g6, g7⟩ := id hg
  refine w_makeMove hT g4 a1 g5 (by omega) g6 (by omega) g1 a5 g2 (fun i => Nat.le_trans (a6 i) hC) hb g7 a4 g3 (fun i => by have := a7 i; omega) (fun f' T' hT' hF hf => h f' T' hT' ?_ hF.2.2.2.2.2.2.2.1 hF.2.2.2.2.2.2.2.2.1 hF.2.2.2.2.2.2.2.2.2.1 hF.2.2.2.2.2.2.2.2.2.2.1 hF.2.2.2.2.2.2.2.2.2.2.2 hf)
  exact ⟨hF.1.trans g1, hF.2.1, hF.2.2.1, hF.2.2.2.1.trans g4, hF.2.2.2.2.1.trans g5, hF.2.2.2.2.2.1.trans g6, hF.2.2.2.2.2.2.1⟩
theorem x_cp_is {T U : x_T} {g : q_G} (h : t_is U g) : t_is (x_cp T U) g := h
-- the reference
theorem m_can (hM : x_Mdl z f M) (hg : m_is M g) (hok : g_ok C g) (hC : C ≤ 100) {v : Int32} (h1 : ∀ b, v = nI b → g_can g b → post (some (.int 1)) f) (h0 : (∀ b, v = nI b → b < 2 ^ 31 → ¬ g_can g b) → post (some (.int 0)) f) : Y E 3 mX6_canMove [.ref 59, .int v] z f 0 0 post := by
  refine Y.intro gX6_canMove (lv := [(0, .ref 59), (1, .int v)]) rfl (Nat.le_of_ble_eq_true rfl) ?_
  obtain ⟨a1, a2, a3, a4, a5, a6, a7, a8, a9⟩ := hok
  obtain ⟨g1, g2, g3, g4, g5, g6, g7⟩ := id hg
  refine x_aload_n (pc' := 1) rfl rfl rfl ?_
  refine x_iload_n (pc' := 2) rfl rfl rfl ?_
  refine x_cV1i (d := 2) (pc' := 5) rfl rfl sX6_103 gX6_isBowl (hM.1) ⟨Nat.le_of_ble_eq_true rfl, Nat.le_of_ble_eq_true rfl⟩ (Nat.le_of_ble_eq_true rfl) ⟨Nat.le_of_ble_eq_true rfl, Nat.le_of_ble_eq_true rfl⟩ ?_
  refine w_isBowl hM (fun q => ⟨_, rfl, ?_⟩) (fun q => ⟨_, rfl, ?_⟩)
  · obtain ⟨b, hb, rfl⟩ := nI_of q.1
    have hbn : b < g_n g := by
      have h2 := q.2
      rw [g4] at h2
      rcases Nat.lt_or_ge b (g_n g) with h3 | h3
      · exact h3
      · exfalso
        apply h2
        by_cases h4 : g_n g = 0
        · rw [h4]
          exact Int32.lt_of_lt_of_le (by decide : nI 0 - 1 < 0) (nI_pos' hb)
        · rw [show nI (g_n g) - 1 = nI (g_n g - 1) from pk_sub (a := g_n g) (b := 1) (by omega)]
          exact nI_lt (by omega) hb
    refine x_if_eq (tgt := 29) (pc' := 8) rfl rfl rfl (fun c5 => absurd c5 ((by decide))) (fun _ => ?_)
    refine x_aload_n (pc' := 9) rfl rfl rfl ?_
    refine x_get (pc' := 12) rfl rfl rfl (hM.1) rfl ?_
    refine x_eqi g4 ?_
    refine x_iconst (pc' := 13) rfl rfl iconst_1 ?_
    have hcl : (nI b).toNatClampNeg = b := nI_clamp hb
    have hv : vp_in (nI b) 9 := vp_in_nI (by omega) (by decide)
    have eβ : M.2.1 1 (nI b).toNatClampNeg = nI (g_β g b) := by rw [hcl, g2]
    have hβ := a6 b
    have hinj : ∀ b', nI b = nI b' → b' < 2 ^ 31 → b = b' := fun b' e hb' => (nI_eq hb hb').mp e
    by_cases d1 : 2 ≤ g_n g
    · refine x_icmp_le (tgt := 29) (pc' := 16) rfl rfl rfl (fun q => absurd q (nI_ge (a := 1) (by omega) (by omega))) (fun _ => ?_)
      refine x_aload_n (pc' := 17) rfl rfl rfl ?_
      refine x_get (pc' := 20) rfl rfl rfl (hM.1) rfl ?_
      refine x_iload_n (pc' := 21) rfl rfl rfl ?_
      refine x_iaload (pc' := 22) rfl rfl (hM.2.1 1 (by decide)) (hv) ?_
      refine x_eqi eβ ?_
      by_cases d2 : 0 < g_β g b
      · refine x_if_le (tgt := 29) (pc' := 25) rfl rfl rfl (fun q => absurd q (nI_nle d2 (by omega))) (fun _ => ?_)
        refine x_iconst (pc' := 26) rfl rfl iconst_1 ?_
        refine x_goto (tgt := 30) rfl rfl ?_
        exact x_ireturn rfl rfl rfl (Nat.le_of_ble_eq_true rfl) (Nat.le_of_ble_eq_true rfl) (h1 b rfl ⟨d1, hbn, d2⟩)
      · refine x_if_le (tgt := 29) (pc' := 25) rfl rfl rfl (fun _ => ?_) (fun q => absurd (nI_le (b := 0) (by omega) (by decide)) q)
        refine x_iconst (pc' := 30) rfl rfl iconst_0 ?_
        exact x_ireturn rfl rfl rfl (Nat.le_of_ble_eq_true rfl) (Nat.le_of_ble_eq_true rfl) (h0 (fun b' e hb' c => by have := hinj b' e hb'; subst this; exact d2 c.2.2))
    · refine x_icmp_le (tgt := 29) (pc' := 16) rfl rfl rfl (fun _ => ?_) (fun q => absurd (nI_le (b := 1) (by omega) (by decide)) q)
      refine x_iconst (pc' := 30) rfl rfl iconst_0 ?_
      exact x_ireturn rfl rfl rfl (Nat.le_of_ble_eq_true rfl) (Nat.le_of_ble_eq_true rfl) (h0 (fun b' e hb' c => d1 c.1))
  · have hno : ∀ b, v = nI b → b < 2 ^ 31 → ¬ g_can g b := by
      intro b e hb c
      subst e
      apply q
      refine ⟨nI_pos hb, ?_⟩
      rw [g4, show nI (g_n g) - 1 = nI (g_n g - 1) from pk_sub (a := g_n g) (b := 1) (by have := c.1; omega)]
      exact nI_nlt (by have := c.2.1; omega) (by omega)
    refine x_if_eq (tgt := 29) (pc' := 8) rfl rfl rfl (fun _ => ?_) (fun c5 => absurd (rfl) c5)
    refine x_iconst (pc' := 30) rfl rfl iconst_0 ?_
    exact x_ireturn rfl rfl rfl (Nat.le_of_ble_eq_true rfl) (Nat.le_of_ble_eq_true rfl) (h0 hno)
/-- what else a move of the reference leaves as it was -/
def m_kp (M M' : x_N) : Prop := (∀ j, j ≠ 1 → j ≠ 2 → M'.2.1 j = M.2.1 j) ∧ M'.2.2 = M.2.2 ∧ (∀ i, i ≠ 7 → i ≠ 14 → i ≠ 15 → i ≠ 16 → i ≠ 17 → M'.1 i = M.1 i)
theorem m_kp.trans {M M1 M2 : x_N} (h : m_kp M M1) (h2 : m_kp M1 M2) : m_kp M M2 := ⟨fun j a b => (h2.1 j a b).trans (h.1 j a b), h2.2.1.trans h.2.1, fun i a b c d e => (h2.2.2 i a b c d e).trans (h.2.2 i a b c d e)⟩
theorem m_kp.rf {M : x_N} : m_kp M M := ⟨fun _ _ _ => rfl, rfl, fun _ _ _ _ _ _ => rfl⟩
theorem m_mv (hM : x_Mdl z f M) (hg : m_is M g) (hok : g_ok C g) (hC : C ≤ 100) (hb : g_can g b) (ha : M.1 18 = 0) (h : ∀ (f' : x_H) (M' : x_N), x_Mdl z f' M' → m_is M' (g_mv g b) → m_kp M M' → M'.1 14 = nI (g_v g b).2.1 → M'.1 15 = q_lI (g_v g b).2.2.2 → M'.1 16 = nI (g_v g b).2.2.1 → M'.1 17 = (if q_tk1 (g_v g b).1 (g_π g (g_t g)) (g_v g b).2.2.2 = true then 1 else 0) → x_fr (fun q => q < 59) f f' → post none f') : Y E 4 mX6_moves [.ref 59, .int (nI b)] z f 0 0 post := by
  obtain ⟨a1, a2, a3, a4, a5, a6, a7, a8, a9⟩ := hok
  obtain ⟨g1, g2, g3, g4, g5, g6, g7⟩ := id hg
  refine m_moves hM g4 a1 g5 (by omega) g6 (by omega) g1 a5 g2 (fun i => Nat.le_trans (a6 i) hC) hb.2.1 hb.1 hb.2.2 g7 a4 g3 (fun i => by have := a7 i; omega) ha (fun f' M' M1 hM' hF e hf => ?_)
  obtain ⟨k1, k2, k3, k4, k5, k6, k7, k8, k9⟩ := hF
  subst e
  refine h f' _ hM' ⟨(k3 0 (by decide) (by decide)).trans g1, k1, k2, ?_, ?_, ?_, rfl⟩ ⟨k3, k4, fun i i1 i2 i3 i4 i5 => (pk_un i1).trans (k5 i i2 i3 i4 i5)⟩ k6 k7 k8 k9 hf
  · exact (k5 3 (by decide) (by decide) (by decide) (by decide)).trans g4
  · exact (k5 4 (by decide) (by decide) (by decide) (by decide)).trans g5
  · exact (k5 5 (by decide) (by decide) (by decide) (by decide)).trans g6
/-- a frame that holds a state's beans, purses, turn -/
def m_fr (M : x_N) (l : Nat) (g : q_G) : Prop := (∀ j, j < 9 → M.2.1 6 (12 * l + j) = nI (g_β g j)) ∧ M.2.1 6 (12 * l + 9) = nI (g_π g 0) ∧ M.2.1 6 (12 * l + 10) = nI (g_π g 1) ∧ M.2.1 6 (12 * l + 11) = nI (g_t g)
theorem m_fr.eq {M M' : x_N} {l : Nat} {g : q_G} (h : m_fr M l g) (e : M'.2.1 6 = M.2.1 6) : m_fr M' l g := by
  unfold m_fr
  rw [e]
  exact h
/-- a frame was kept: all other levels stay -/
def m_k1 (M M' : x_N) (l : Nat) : Prop := M'.1 = M.1 ∧ (∀ j, j ≠ 6 → M'.2.1 j = M.2.1 j) ∧ M'.2.2 = M.2.2 ∧ (∀ j, j < 12 * l ∨ 12 * l + 12 ≤ j → M'.2.1 6 j = M.2.1 6 j)
theorem m_keeps {l : Nat} (hl : l ≤ 7) (hM : x_Mdl z f M) (hg : m_is M g) (h : ∀ (f' : x_H) (M' : x_N), x_Mdl z f' M' → m_is M' g → m_k1 M M' l → m_fr M' l g → x_fr (fun q => q < 59) f f' → post none f') : Y E 1 mX6_keeps [.ref 59, .int (nI l)] z f 0 0 post := by
  obtain ⟨g1, g2, g3, g4, g5, g6, g7⟩ := id hg
  refine w_keeps hl hM (fun f' hM' hf => h f' _ hM' ⟨g1, g2, g3, g4, g5, g6, g7⟩ ⟨rfl, fun j hj => if_neg hj, rfl, fun j hj => ?_⟩ ⟨fun j hj => ?_, ?_, ?_, ?_⟩ hf)
  · show x_kp l _ _ _ _ _ j = _
    unfold x_kp
    rw [pk_un (by omega), pk_un (by omega), pk_un (by omega)]
    unfold x_kpB
    rw [if_neg (by omega)]
  · show x_kp l _ _ _ _ _ (12 * l + j) = _
    unfold x_kp
    rw [pk_un (by omega), pk_un (by omega), pk_un (by omega)]
    unfold x_kpB
    rw [if_pos (by omega), g2, show 12 * l + j - 12 * l = j by omega]
  · show x_kp l _ _ _ _ _ (12 * l + 9) = _
    unfold x_kp
    rw [pk_un (by omega), pk_un (by omega), pk_us, g3]
  · show x_kp l _ _ _ _ _ (12 * l + 10) = _
    unfold x_kp
    rw [pk_un (by omega), pk_us, g3]
  · show x_kp l _ _ _ _ _ (12 * l + 11) = _
    unfold x_kp
    rw [pk_us, g7]
/-- the frame of g over the rest of g' -/
abbrev g_ly (g g' : q_G) : q_G := (g_κ g', g_β g, g_π g, g_n g', g_f g', g_l g', g_t g)
theorem m_lays {l C' : Nat} {g' : q_G} (hl : l ≤ 7) (hM : x_Mdl z f M) (hg : m_is M g') (hk : m_fr M l g) (hok : g_ok C g) (hok' : g_ok C' g') (h : ∀ (f' : x_H) (M' : x_N), x_Mdl z f' M' → m_is M' (g_ly g g') → (∀ i, i ≠ 7 → M'.1 i = M.1 i) → (∀ j, j ≠ 1 → j ≠ 2 → M'.2.1 j = M.2.1 j) → M'.2.2 = M.2.2 → x_fr (fun q => q < 59) f f' → post none f') : Y E 1 mX6_lays [.ref 59, .int (nI l)] z f 0 0 post := by
  obtain ⟨g1, g2, g3, g4, g5, g6, g7⟩ := id hg
  obtain ⟨k1, k2, k3, k4⟩ := hk
  refine w_lays hl hM (fun f' hM' hf => h f' _ hM' ⟨g1, ?_, ?_, g4, g5, g6, ?_⟩ (fun i hi => pk_un hi) (fun j h1 h2 => ?_) rfl hf)
  · show x_lyB l 9 (M.2.1 6) (M.2.1 1) = _
    funext j
    unfold x_lyB
    by_cases hj : j < 9
    · rw [if_pos hj]
      exact k1 j hj
    · rw [if_neg hj, g2]
      show nI (g_β g' j) = nI (g_β g j)
      rw [(hok.2.2.2.2.2.2.2.1 j (by omega)).2, (hok'.2.2.2.2.2.2.2.1 j (by omega)).2]
  · show upd (upd (M.2.1 2) 0 (M.2.1 6 (12 * l + 9))) 1 (M.2.1 6 (12 * l + 10)) = _
    rw [k2, k3, g3]
    funext j
    unfold upd
    by_cases h1 : j = 1
    · rw [if_pos h1, h1]
    · rw [if_neg h1]
      by_cases h0 : j = 0
      · rw [if_pos h0, h0]
      · rw [if_neg h0]
        show nI (g_π g' j) = nI (g_π g j)
        rw [hok.2.2.2.2.2.2.2.2 j (by omega), hok'.2.2.2.2.2.2.2.2 j (by omega)]
  · show upd M.1 7 (M.2.1 6 (12 * l + 11)) 7 = _
    rw [pk_us, k4]
  · show (if j = 2 then _ else if j = 1 then _ else M.2.1 j) = M.2.1 j
    rw [if_neg h2, if_neg h1]
end STATE
end
section
-- == 38.whole
/-! All that calls change, on both sides. -/
/-- state and how many moves; the picture; letters; the row; refused -/
abbrev q_A : Type := (q_G × Nat) × Option (q_G × Nat) × (Nat × (Nat → Nat)) × (Nat × (Nat → Nat)) × (Nat → Int32)
abbrev a_g (A : q_A) : q_G := A.1.1
abbrev a_mv (A : q_A) : Nat := A.1.2
abbrev a_pi (A : q_A) : Option (q_G × Nat) := A.2.1
abbrev a_lc (A : q_A) : Nat := A.2.2.1.1
abbrev a_lf (A : q_A) : Nat → Nat := A.2.2.1.2
abbrev a_rc (A : q_A) : Nat := A.2.2.2.1.1
abbrev a_rf (A : q_A) : Nat → Nat := A.2.2.2.1.2
abbrev a_no (A : q_A) : Nat → Int32 := A.2.2.2.2
def c_pic (n : Int32) (T : x_T) (p : Option (q_G × Nat)) : Prop := match p with
  | none => n = 0
  | some (g, m) => n = 1 ∧ t_is T g ∧ T.2.2.2 4 = nI m
def c_is (S : x_S) (A : q_A) : Prop := t_is (S.2.1 0) (a_g A) ∧ (S.2.1 0).2.2.2 4 = nI (a_mv A) ∧ c_pic (S.1 0) (S.2.1 1) (a_pi A) ∧ S.1 2 = nI (a_lc A) ∧ S.2.2.1 0 = (fun i => nI (a_lf A i)) ∧ S.1 1 = nI (a_rc A) ∧ S.2.2.1 5 = (fun i => nI (a_rf A i)) ∧ S.2.2.1 6 = a_no A
def r_pic (M : x_N) (p : Option (q_G × Nat)) : Prop := match p with
  | none => M.1 28 = -1
  | some (g, m) => M.1 28 = nI (g_n g) ∧ (∀ j, j < 9 → M.2.1 9 j = nI (g_β g j)) ∧ M.2.1 9 9 = nI (g_π g 0) ∧ M.2.1 9 10 = nI (g_π g 1) ∧ M.2.1 9 11 = nI (g_t g) ∧ (∀ j, j < 9 → M.2.1 10 j = nI (g_κ g j)) ∧ M.1 29 = nI (g_f g) ∧ M.1 30 = nI (g_l g) ∧ M.1 31 = nI m
def r_is (M : x_N) (A : q_A) : Prop := m_is M (a_g A) ∧ M.1 8 = nI (a_mv A) ∧ M.1 18 = 0 ∧ r_pic M (a_pi A) ∧ M.1 11 = nI (a_lc A) ∧ M.2.1 4 = (fun i => nI (a_lf A i)) ∧ M.1 13 = nI (a_rc A) ∧ M.2.1 5 = (fun i => nI (a_rf A i)) ∧ M.2.1 3 = (fun i => a_no A (i + 1))
def a_ok (A : q_A) : Prop := g_ok 99 (a_g A) ∧ a_mv A ≤ 999 ∧ (∀ g m, a_pi A = some (g, m) → g_ok 99 g ∧ m ≤ 999) ∧ a_lc A ≤ 96 ∧ (∀ i, a_lf A i ≤ 255) ∧ a_rc A ≤ 12 ∧ (∀ i, a_rf A i ≤ 9)
/-- what the class has of scratch alone is new -/
def c_sc (S S' : x_S) : Prop := S'.2.1 0 = S.2.1 0 ∧ S'.2.1 1 = S.2.1 1 ∧ S'.1 0 = S.1 0 ∧ S'.1 1 = S.1 1 ∧ S'.1 2 = S.1 2 ∧ S'.2.2.1 0 = S.2.2.1 0 ∧ S'.2.2.1 5 = S.2.2.1 5 ∧ S'.2.2.1 6 = S.2.2.1 6
theorem c_sc.rf {S : x_S} : c_sc S S := ⟨rfl, rfl, rfl, rfl, rfl, rfl, rfl, rfl⟩
theorem c_sc.trans {S S1 S2 : x_S} (h : c_sc S S1) (h2 : c_sc S1 S2) : c_sc S S2 := by
  obtain ⟨a1, a2, a3, a4, a5, a6, a7, a8⟩ := h
  obtain ⟨b1, b2, b3, b4, b5, b6, b7, b8⟩ := h2
  exact ⟨b1.trans a1, b2.trans a2, b3.trans a3, b4.trans a4, b5.trans a5, b6.trans a6, b7.trans a7, b8.trans a8⟩
theorem c_is.sc {S S' : x_S} {A : q_A} (h : c_is S A) (e : c_sc S S') : c_is S' A := by
  obtain ⟨a1, a2, a3, a4, a5, a6, a7, a8⟩ := e
  unfold c_is
  rw [a1, a2, a3, a4, a5, a6, a7, a8]
  exact h
theorem c_sc.tab {S : x_S} {j : Nat} {T : x_T} (h0 : j ≠ 0) (h1 : j ≠ 1) : c_sc S (S.1, x_ut S.2.1 j T, S.2.2.1, S.2.2.2) := ⟨if_neg (Ne.symm h0), if_neg (Ne.symm h1), rfl, rfl, rfl, rfl, rfl, rfl⟩
def r_sc (M M' : x_N) : Prop := (∀ i, i = 8 ∨ i = 18 ∨ i = 11 ∨ i = 13 ∨ 28 ≤ i → M'.1 i = M.1 i) ∧ (∀ j, j = 3 ∨ j = 4 ∨ j = 5 ∨ j = 9 ∨ j = 10 → M'.2.1 j = M.2.1 j)
theorem r_sc.rf {M : x_N} : r_sc M M := ⟨fun _ _ => rfl, fun _ _ => rfl⟩
theorem r_sc.trans {M M1 M2 : x_N} (h : r_sc M M1) (h2 : r_sc M1 M2) : r_sc M M2 := ⟨fun i hi => (h2.1 i hi).trans (h.1 i hi), fun i hi => (h2.2 i hi).trans (h.2 i hi)⟩
theorem r_pic.eq {M M' : x_N} {p : Option (q_G × Nat)} (h : r_pic M p) (e1 : ∀ i, 28 ≤ i → M'.1 i = M.1 i) (e2 : M'.2.1 9 = M.2.1 9) (e3 : M'.2.1 10 = M.2.1 10) : r_pic M' p := by
  unfold r_pic at *
  rw [e2, e3, e1 28 (by decide), e1 29 (by decide), e1 30 (by decide), e1 31 (by decide)]
  exact h
theorem r_is.sc {M M' : x_N} {A : q_A} (h : r_is M A) (e : r_sc M M') (hm : m_is M' (a_g A)) : r_is M' A := by
  obtain ⟨h1, h2, h3, h4, h5, h6, h7, h8, h9⟩ := h
  obtain ⟨e1, e2⟩ := e
  exact ⟨hm, (e1 8 (by omega)).trans h2, (e1 18 (by omega)).trans h3, h4.eq (fun i hi => e1 i (by omega)) (e2 9 (by omega)) (e2 10 (by omega)), (e1 11 (by omega)).trans h5, (e2 4 (by omega)).trans h6, (e1 13 (by omega)).trans h7, (e2 5 (by omega)).trans h8, (e2 3 (by omega)).trans h9⟩
theorem m_kp.sc {M M' : x_N} (h : m_kp M M') : r_sc M M' := ⟨fun i hi => h.2.2 i (by omega) (by omega) (by omega) (by omega) (by omega), fun j hj => h.1 j (by omega) (by omega)⟩
theorem m_k1.sc {M M' : x_N} {l : Nat} (h : m_k1 M M' l) : r_sc M M' := ⟨fun i hi => by rw [h.1], fun j hj => h.2.1 j (by omega)⟩
theorem m_ly.sc {M M' : x_N} (h1 : ∀ i, i ≠ 7 → M'.1 i = M.1 i) (h2 : ∀ j, j ≠ 1 → j ≠ 2 → M'.2.1 j = M.2.1 j) : r_sc M M' := ⟨fun i hi => h1 i (by omega), fun j hj => h2 j (by omega) (by omega)⟩
def s_no (A : q_A) (k : Nat) : q_A := (A.1, A.2.1, A.2.2.1, A.2.2.2.1, x_rf A.2.2.2.2 k)
def s_g (A : q_A) (g : q_G) : q_A := ((g, A.1.2), A.2)
theorem s_no_ok {A : q_A} {k : Nat} (h : a_ok A) : a_ok (s_no A k) := h
theorem s_g_ok {A : q_A} {g : q_G} (h : a_ok A) (hg : g_ok 99 g) : a_ok (s_g A g) := ⟨hg, h.2⟩
/-- a bowl's number -/
abbrev q_in (n : Nat) (a : Int32) : Prop := ¬ a < 0 ∧ a.toNatClampNeg < n
theorem q_in_k {n : Nat} {a : Int32} (h : q_in n a) : ∃ k, k < n ∧ k < 2 ^ 31 ∧ a = nI k ∧ a.toNatClampNeg = k := by
  obtain ⟨k, hk, rfl⟩ := nI_of h.1
  have h2 := h.2
  rw [nI_clamp hk] at h2
  exact ⟨k, h2, hk, rfl, nI_clamp hk⟩
theorem q_in_nI {n k : Nat} (h : k < n) (hk : k < 2 ^ 31) : q_in n (nI k) := ⟨nI_pos hk, by rw [nI_clamp hk]; exact h⟩
theorem q_in_has {T : x_T} {g : q_G} {a : Int32} (h : t_is T g) (hn : g_n g ≤ 9) : t_has T a ↔ q_in (g_n g) a := by
  constructor
  · intro q
    obtain ⟨k, hk, rfl⟩ := t_is_nI h hn q
    exact q_in_nI hk (by omega)
  · intro q
    obtain ⟨k, hk, hk2, rfl, -⟩ := q_in_k q
    exact t_has_nI h.2.2.2.1 hn hk
theorem q_in_bowl {n : Nat} {a : Int32} (hn : n ≤ 9) : (¬ a < 0 ∧ ¬ nI n - 1 < a) ↔ q_in n a := by
  constructor
  · intro q
    obtain ⟨k, hk, rfl⟩ := nI_of q.1
    refine q_in_nI ?_ hk
    rcases Nat.lt_or_ge k n with h3 | h3
    · exact h3
    · exfalso
      apply q.2
      by_cases h4 : n = 0
      · rw [h4]
        exact Int32.lt_of_lt_of_le (by decide : nI 0 - 1 < 0) (nI_pos' hk)
      · rw [show nI n - 1 = nI (n - 1) from pk_sub (a := n) (b := 1) (by omega)]
        exact nI_lt (by omega) hk
  · intro q
    obtain ⟨k, hk, hk2, rfl, -⟩ := q_in_k q
    refine ⟨q.1, ?_⟩
    rw [show nI n - 1 = nI (n - 1) from pk_sub (a := n) (b := 1) (by omega)]
    exact nI_nlt (by omega) (by omega)
section REF
variable {E : x_E} {z : Nat} {f : x_H} {S : x_S} {M : x_N} {A : q_A} {post : Option Value → x_H → Prop}
/-- how a public method of the class ends -/
abbrev c_ends (z : Nat) (f : x_H) (post : Option Value → x_H → Prop) (s : q_A × Int32) : Prop := ∀ (f' : x_H) (S' : x_S), x_Sys z f' S' → c_is S' s.1 → x_fr (fun q => 59 ≤ q) f f' → post (some (.int s.2)) f'
abbrev r_ends (z : Nat) (f : x_H) (post : Option Value → x_H → Prop) (s : q_A × Int32) : Prop := ∀ (f' : x_H) (M' : x_N), x_Mdl z f' M' → r_is M' s.1 → x_fr (fun q => q < 59) f f' → post (some (.int s.2)) f'
/-- where only the state is told -/
abbrev c_any (z : Nat) (f : x_H) (post : Option Value → x_H → Prop) (s : q_A) : Prop := ∀ (f' : x_H) (S' : x_S) (r : Int32), x_Sys z f' S' → c_is S' s → x_fr (fun q => 59 ≤ q) f f' → post (some (.int r)) f'
abbrev r_any (z : Nat) (f : x_H) (post : Option Value → x_H → Prop) (s : q_A) : Prop := ∀ (f' : x_H) (M' : x_N) (r : Int32), x_Mdl z f' M' → r_is M' s → x_fr (fun q => q < 59) f f' → post (some (.int r)) f'
theorem c_refuse {n : Int32} {k : Nat} (hn : -n = nI k) (hk : k < 7) (hS : x_Sys z f S) (hA : c_is S A) (h : c_ends z f post (s_no A k, n)) : Y E 1 mX5_refuse [.ref 0, .int n] z f 0 0 post := by
  obtain ⟨a1, a2, a3, a4, a5, a6, a7, a8⟩ := hA
  refine w_refuse hn hk hS (fun f' hS' hF => h f' _ hS' ⟨a1, a2, a3, a4, a5, a6, a7, ?_⟩ hF)
  show x_rf (S.2.2.1 6) k = x_rf (a_no A) k
  rw [a8]
theorem c_refuseFar {n : Int32} {k : Nat} (hn : -n = nI k) (hk : k < 7) (hS : x_Sys z f S) (hA : c_is S A) (h : c_ends z f post (s_no A k, 1000000000 - n)) : Y E 2 mX5_refuseFar [.ref 0, .int n] z f 0 0 post := by
  obtain ⟨a1, a2, a3, a4, a5, a6, a7, a8⟩ := hA
  refine w_refuseFar hn hk hS (fun f' hS' hF => h f' _ hS' ⟨a1, a2, a3, a4, a5, a6, a7, ?_⟩ hF)
  show x_rf (S.2.2.1 6) k = x_rf (a_no A) k
  rw [a8]
theorem r_no {k : Nat} (h9 : M.2.1 3 = fun i => a_no A (i + 1)) : x_rf (M.2.1 3) k = fun i => x_rf (a_no A) (k + 1) (i + 1) := by
  rw [h9]
  funext i
  unfold x_rf upd
  by_cases d : i = k
  · rw [if_pos d, if_pos (by omega)]
  · rw [if_neg d, if_neg (by omega)]
theorem r_is.no {k : Nat} (h : r_is M A) : r_is (M.1, x_ua M.2.1 3 (x_rf (M.2.1 3) k), M.2.2) (s_no A (k + 1)) := by
  obtain ⟨h1, h2, h3, h4, h5, h6, h7, h8, h9⟩ := h
  exact ⟨h1, h2, h3, h4.eq (fun _ _ => rfl) rfl rfl, h5, h6, h7, h8, r_no h9⟩
theorem r_refuse {n : Int32} {k : Nat} (hn : -n - 1 = nI k) (hk : k < 6) (hM : x_Mdl z f M) (hA : r_is M A) (h : r_ends z f post (s_no A (k + 1), n)) : Y E 1 mX6_refuse [.ref 59, .int n] z f 0 0 post :=
  w_mRefuse hn hk hM (fun f' hM' hF => h f' _ hM' hA.no hF)
theorem r_told {n : Int32} {k : Nat} (hn : -n - 1 = nI k) (hk : k < 6) (hM : x_Mdl z f M) (hA : r_is M A) (h : r_ends z f post (s_no A (k + 1), 1000000000 - n)) : Y E 2 mX6_told [.ref 59, .int n] z f 0 0 post :=
  w_told hn hk hM (fun f' hM' hF => h f' _ hM' hA.no hF)
theorem r_bowl {v : Int32} (hM : x_Mdl z f M) (hA : r_is M A) (ho : a_ok A) (h1 : q_in (g_n (a_g A)) v → post (some (.int 1)) f) (h0 : ¬ q_in (g_n (a_g A)) v → post (some (.int 0)) f) : Y E 2 mX6_isBowl [.ref 59, .int v] z f 0 0 post := by
  have hn := ho.1.1
  refine w_isBowl hM (fun q => h1 ?_) (fun q => h0 (fun k => q ?_))
  · rw [hA.1.2.2.2.1] at q
    exact (q_in_bowl hn).mp q
  · rw [hA.1.2.2.2.1]
    exact (q_in_bowl hn).mpr k
theorem c_has {v : Int32} (hS : x_Sys z f S) (hA : c_is S A) (ho : a_ok A) (h1 : q_in (g_n (a_g A)) v → post (some (.int 1)) f) (h0 : ¬ q_in (g_n (a_g A)) v → post (some (.int 0)) f) : Y E 1 mX3_has [.ref 1, .int v] z f 0 0 post :=
  w_has (hS.2.1 0 (by decide)) (fun q => h1 ((q_in_has hA.1 ho.1.1).mp q)) (fun q => h0 (fun k => q ((q_in_has hA.1 ho.1.1).mpr k)))
end REF
-- what calls answer, and what they leave
def s_letter (A : q_A) (a : Int32) : q_A × Int32 := if a < 0 then (s_no A 4, -4) else if 255 < a ∨ a_lc A = 96 then (s_no A 6, -6) else ((A.1, A.2.1, (a_lc A + 1, q_up (a_lf A) (a_lc A) a.toNatClampNeg), A.2.2.2), nI (a_lc A + 1))
def s_row (A : q_A) (a : Int32) : q_A × Int32 := if a < 0 then (s_no A 4, -4) else if 9 < a ∨ a_rc A = 12 then (s_no A 6, -6) else ((A.1, A.2.1, A.2.2.1, (a_rc A + 1, q_up (a_rf A) (a_rc A) a.toNatClampNeg), A.2.2.2.2), nI (a_rc A + 1))
def s_put (A : q_A) (a b : Int32) : q_A × Int32 := if q_in (g_n (a_g A)) a then (if b < 0 then (s_no A 4, -4) else if 20 < b then (s_no A 6, -6) else (s_g A (g_κ (a_g A), q_up (g_β (a_g A)) a.toNatClampNeg b.toNatClampNeg, (a_g A).2.2), nI (g_β (a_g A) a.toNatClampNeg))) else (s_no A 1, -1)
def s_move (A : q_A) (a : Int32) : q_A × Int32 := if q_in (g_n (a_g A)) a then (if 2 ≤ g_n (a_g A) ∧ 0 < g_β (a_g A) a.toNatClampNeg then (if a_mv A = 999 then (s_no A 6, -6) else (((g_mv (a_g A) a.toNatClampNeg, a_mv A + 1), A.2), if q_tk1 (g_v (a_g A) a.toNatClampNeg).1 (g_π (a_g A) (g_t (a_g A))) (g_v (a_g A) a.toNatClampNeg).2.2.2 = true then 1 else 0)) else (s_no A 3, -3)) else (s_no A 1, -1)
def g_set (g : q_G) (a : Int32) (v : Nat) : q_G := if a = 0 then (g.1, g.2.1, g.2.2.1, g_n g, v, g_l g, g_t g) else if a = 1 then (g.1, g.2.1, g.2.2.1, g_n g, g_f g, v, g_t g) else (g.1, g.2.1, g.2.2.1, g_n g, g_f g, g_l g, v)
def s_set (A : q_A) (a b : Int32) : q_A × Int32 := if a < 0 ∨ 2 < a then (s_no A 2, -2) else if b < (if a = 0 then 1 else 0) then (s_no A 4, -4) else if (if a = 0 then 9 else 1) < b then (s_no A 6, -6) else (s_g A (g_set (a_g A) a b.toNatClampNeg), if a = 0 then nI (g_f (a_g A)) else if a = 1 then nI (g_l (a_g A)) else nI (g_t (a_g A)))
def s_bowl (A : q_A) (a b : Int32) : q_A × Int32 := if q_in (g_n (a_g A)) a then (if b = 0 then (A, nI (g_κ (a_g A) a.toNatClampNeg)) else if b = 1 then (A, nI (g_β (a_g A) a.toNatClampNeg)) else if b = 2 then (A, if g_κ (a_g A) a.toNatClampNeg = 2 then (-9) else nI (q_from (g_κ (a_g A) a.toNatClampNeg) (g_f (a_g A)))) else if b = 3 then (A, if q_tk (g_κ (a_g A)) (g_β (a_g A)) (g_f (a_g A)) a.toNatClampNeg then 1 else 0) else (s_no A 2, -2)) else (s_no A 1, -1)
def q_sum (β : Nat → Nat) : Nat → Nat
  | 0 => 0
  | n + 1 => q_sum β n + β n
def s_by (A : q_A) (a b : Int32) : q_A × Int32 := if q_in (g_n (a_g A)) a then (if b < 0 ∨ 4 < b then (s_no A 2, -2) else if 2 ≤ g_n (a_g A) ∧ 0 < g_β (a_g A) a.toNatClampNeg then (A, if b = 0 then nI (g_v (a_g A) a.toNatClampNeg).2.1 else if b = 1 then q_lI (g_v (a_g A) a.toNatClampNeg).2.2.2 else if b = 2 then nI (g_v (a_g A) a.toNatClampNeg).2.2.1 else if b = 3 then (if q_tk1 (g_v (a_g A) a.toNatClampNeg).1 (g_π (a_g A) (g_t (a_g A))) (g_v (a_g A) a.toNatClampNeg).2.2.2 = true then 1 else 0) else nI (q_sum (g_β (g_mv (a_g A) a.toNatClampNeg)) (g_n (a_g A)))) else (s_no A 3, -3)) else (s_no A 1, -1)
def s_behind (A : q_A) (a b : Int32) : q_A × Int32 := if q_in (g_n (a_g A)) a ∧ q_in (g_n (a_g A)) b then (if 2 ≤ g_n (a_g A) ∧ 0 < g_β (a_g A) a.toNatClampNeg then (A, nI (g_β (g_mv (a_g A) a.toNatClampNeg) b.toNatClampNeg)) else (s_no A 3, -3)) else (s_no A 1, -1)
def s_image (A : q_A) : q_A × Int32 := ((A.1, some A.1, A.2.2), nI (a_mv A))
def s_on (A : q_A) : q_A × Int32 := match a_pi A with
  | none => (s_no A 3, -3)
  | some p => ((p, A.2), nI p.2)
def s_count (A : q_A) (a : Int32) : q_A × Int32 := (A, if a = 0 then nI (g_n (a_g A)) else if a = 1 then nI (q_sum (g_β (a_g A)) (g_n (a_g A))) else if a = 2 then nI (g_π (a_g A) 0) else if a = 3 then nI (g_π (a_g A) 1) else if a = 4 then nI (g_t (a_g A)) else if a = 5 then nI (a_mv A) else if a = 6 then nI (g_f (a_g A)) else if a = 7 then nI (g_l (a_g A)) else if a = 8 then nI (a_rc A) else if a = 9 then nI (a_lc A) else if ¬ a < 11 ∧ ¬ 16 < a then a_no A (a.toNatClampNeg - 10) else (-9))
end
section
-- == 39.classA
/-! The class's calls that change the state, or look at it. -/
theorem nI_999 {n : Nat} (h : n ≤ 999) : nI n < 999 ↔ ¬ n = 999 := by
  rw [show (999 : Int32) = nI 999 from rfl, nI_ltI (by omega) (by decide)]
  omega
theorem q_sum_I (β : Nat → Nat) : ∀ n, x_sum (fun i => nI (β i)) n = nI (q_sum β n)
  | 0 => rfl
  | n + 1 => by
    show x_sum _ n + nI (β n) = _
    rw [q_sum_I β n]
    exact nI_add _ _
theorem q_up_same (f : Nat → Nat) (k : Nat) : q_up f k (f k) = f := by
  funext j
  unfold q_up
  split
  · rename_i h
    rw [h]
  · rfl
theorem i3_of {a : Int32} (d : ¬ (a < 0 ∨ 2 < a)) : a = 0 ∨ a = 1 ∨ a = 2 := by
  obtain ⟨k, hk, rfl⟩ := nI_of2 (n := 2) (M := 2) rfl (fun q => d (Or.inl q)) (Int32.not_lt.mp (fun q => d (Or.inr q)))
  have h3 : k = 0 ∨ k = 1 ∨ k = 2 := by omega
  rcases h3 with rfl | rfl | rfl
  · exact Or.inl rfl
  · exact Or.inr (Or.inl rfl)
  · exact Or.inr (Or.inr rfl)
theorem s_set0 (A : q_A) (b : Int32) : s_set A 0 b = if b < 1 then (s_no A 4, -4) else if 9 < b then (s_no A 6, -6) else (s_g A ((a_g A).1, (a_g A).2.1, (a_g A).2.2.1, g_n (a_g A), b.toNatClampNeg, g_l (a_g A), g_t (a_g A)), nI (g_f (a_g A))) := by
  unfold s_set g_set
  rw [if_neg (by decide), if_pos rfl, if_pos rfl, if_pos rfl, if_pos rfl]
theorem s_set1 (A : q_A) (b : Int32) : s_set A 1 b = if b < 0 then (s_no A 4, -4) else if 1 < b then (s_no A 6, -6) else (s_g A ((a_g A).1, (a_g A).2.1, (a_g A).2.2.1, g_n (a_g A), g_f (a_g A), b.toNatClampNeg, g_t (a_g A)), nI (g_l (a_g A))) := by
  unfold s_set g_set
  simp only [if_neg (show ¬ ((1 : Int32) < 0 ∨ (2 : Int32) < 1) by decide), if_neg (show ¬ (1 : Int32) = 0 by decide), if_true]
theorem s_set2 (A : q_A) (b : Int32) : s_set A 2 b = if b < 0 then (s_no A 4, -4) else if 1 < b then (s_no A 6, -6) else (s_g A ((a_g A).1, (a_g A).2.1, (a_g A).2.2.1, g_n (a_g A), g_f (a_g A), g_l (a_g A), b.toNatClampNeg), nI (g_t (a_g A))) := by
  unfold s_set g_set
  simp only [if_neg (show ¬ ((2 : Int32) < 0 ∨ (2 : Int32) < 2) by decide), if_neg (show ¬ (2 : Int32) = 0 by decide), if_neg (show ¬ (2 : Int32) = 1 by decide)]
section CA
variable {E : x_E} {z : Nat} {f : x_H} {S : x_S} {A : q_A} {post : Option Value → x_H → Prop} {a b : Int32}
theorem c_fr0 {j : Nat} {f' : x_H} (hj : j < 11) (h : x_fr (x_ot (x_tp j)) f f') : x_fr (fun q => 59 ≤ q) f f' := h.mono (fun q hq => x_tpq j hj hq)
theorem c_letter (hS : x_Sys z f S) (hA : c_is S A) (ho : a_ok A) (h : c_ends z f post (s_letter A a)) : Y E 9 mX5_letter [.ref 0, .int a] z f 0 0 post := by
  refine Y.intro gX5_letter (lv := [(0, .ref 0), (1, .int a)]) rfl (Nat.le_of_ble_eq_true rfl) ?_
  obtain ⟨b1, b2, b3, b4, b5, b6, b7, b8⟩ := id hA
  have hlc := ho.2.2.2.1
  refine x_iload_n (pc' := 1) rfl rfl rfl ?_
  refine x_if_ge (tgt := 11) (pc' := 4) rfl rfl rfl (fun c1 => ?_) (fun c1 => ?_)
  · have d1 : ¬ a < 0 := Int32.not_lt.mpr c1
    refine x_iload_n (pc' := 12) rfl rfl rfl ?_
    refine x_sipush (pc' := 15) rfl rfl sipush_255 ?_
    refine x_icmp_gt (tgt := 29) (pc' := 18) rfl rfl rfl (fun c15 => ?_) (fun c15 => ?_)
    · rw [show s_letter A a = _ from (if_neg d1).trans (if_pos (Or.inl c15))] at h
      refine x_aload_n (pc' := 30) rfl rfl rfl ?_
      refine x_bipush (pc' := 32) rfl rfl bipush_m6 ?_
      refine x_cV1i (d := 1) (pc' := 35) rfl rfl sX5_68 gX5_refuse (hS.1) ⟨Nat.le_of_ble_eq_true rfl, Nat.le_of_ble_eq_true rfl⟩ (Nat.le_of_ble_eq_true rfl) ⟨Nat.le_of_ble_eq_true rfl, Nat.le_of_ble_eq_true rfl⟩ ?_
      refine c_refuse (k := 6) (by decide) (by decide) hS hA (fun f1 S1 hS1 hA1 hF1 => ⟨_, rfl, ?_⟩)
      exact x_ireturn rfl rfl rfl (Nat.le_of_ble_eq_true rfl) (Nat.le_of_ble_eq_true rfl) (h _ _ hS1 hA1 hF1)
    · refine x_aload_n (pc' := 19) rfl rfl rfl ?_
      refine x_get (pc' := 22) rfl rfl rfl (hS.1) rfl ?_
      refine x_iload_n (pc' := 23) rfl rfl rfl ?_
      refine x_cV1i (d := 1) (pc' := 26) rfl rfl sX5_72 gX2_add (hS.lt) ⟨Nat.le_of_ble_eq_true rfl, Nat.le_of_ble_eq_true rfl⟩ (Nat.le_of_ble_eq_true rfl) ⟨Nat.le_of_ble_eq_true rfl, Nat.le_of_ble_eq_true rfl⟩ ?_
      refine w_add (n := a_lc A) hS b4 (fun hl f1 hS1 hF1 => ⟨_, rfl, ?_⟩) (fun hl _ => ⟨_, rfl, ?_⟩) (by omega)
      · rw [show s_letter A a = _ from (if_neg d1).trans (if_neg (fun q => q.elim c15 (by omega)))] at h
        refine x_if_ne (tgt := 36) (pc' := 29) rfl rfl rfl (fun _ => ?_) (fun c26 => absurd c26 ((by decide)))
        refine x_aload_n (pc' := 37) rfl rfl rfl ?_
        refine x_get (pc' := 40) rfl rfl rfl (hS1.1) rfl ?_
        refine x_get (pc' := 43) rfl rfl rfl (hS1.lt) rfl ?_
        obtain ⟨ka, hka, rfl⟩ := nI_of d1
        exact x_ireturn rfl rfl rfl (Nat.le_of_ble_eq_true rfl) (Nat.le_of_ble_eq_true rfl) (h _ _ hS1 ⟨b1, b2, b3, rfl, by show upd (S.2.2.1 0) (a_lc A) (nI ka) = fun i => nI (q_up (a_lf A) (a_lc A) (nI ka).toNatClampNeg i); rw [b5, q_up_I, nI_clamp hka], b6, b7, b8⟩ hF1)
      · rw [show s_letter A a = _ from (if_neg d1).trans (if_pos (Or.inr (by omega)))] at h
        refine x_if_ne (tgt := 36) (pc' := 29) rfl rfl rfl (fun c26 => absurd ((by decide)) c26) (fun _ => ?_)
        refine x_aload_n (pc' := 30) rfl rfl rfl ?_
        refine x_bipush (pc' := 32) rfl rfl bipush_m6 ?_
        refine x_cV1i (d := 1) (pc' := 35) rfl rfl sX5_68 gX5_refuse (hS.1) ⟨Nat.le_of_ble_eq_true rfl, Nat.le_of_ble_eq_true rfl⟩ (Nat.le_of_ble_eq_true rfl) ⟨Nat.le_of_ble_eq_true rfl, Nat.le_of_ble_eq_true rfl⟩ ?_
        refine c_refuse (k := 6) (by decide) (by decide) hS hA (fun f1 S1 hS1 hA1 hF1 => ⟨_, rfl, ?_⟩)
        exact x_ireturn rfl rfl rfl (Nat.le_of_ble_eq_true rfl) (Nat.le_of_ble_eq_true rfl) (h _ _ hS1 hA1 hF1)
  · rw [show s_letter A a = _ from if_pos (Int32.not_le.mp c1)] at h
    refine x_aload_n (pc' := 5) rfl rfl rfl ?_
    refine x_bipush (pc' := 7) rfl rfl bipush_m4 ?_
    refine x_cV1i (d := 1) (pc' := 10) rfl rfl sX5_68 gX5_refuse (hS.1) ⟨Nat.le_of_ble_eq_true rfl, Nat.le_of_ble_eq_true rfl⟩ (Nat.le_of_ble_eq_true rfl) ⟨Nat.le_of_ble_eq_true rfl, Nat.le_of_ble_eq_true rfl⟩ ?_
    refine c_refuse (k := 4) (by decide) (by decide) hS hA (fun f1 S1 hS1 hA1 hF1 => ⟨_, rfl, ?_⟩)
    exact x_ireturn rfl rfl rfl (Nat.le_of_ble_eq_true rfl) (Nat.le_of_ble_eq_true rfl) (h _ _ hS1 hA1 hF1)
theorem c_row (hS : x_Sys z f S) (hA : c_is S A) (ho : a_ok A) (h : c_ends z f post (s_row A a)) : Y E 9 mX5_row [.ref 0, .int a] z f 0 0 post := by
  refine Y.intro gX5_row (lv := [(0, .ref 0), (1, .int a)]) rfl (Nat.le_of_ble_eq_true rfl) ?_
  obtain ⟨b1, b2, b3, b4, b5, b6, b7, b8⟩ := id hA
  have hrc := ho.2.2.2.2.2.1
  refine x_iload_n (pc' := 1) rfl rfl rfl ?_
  refine x_if_ge (tgt := 11) (pc' := 4) rfl rfl rfl (fun c1 => ?_) (fun c1 => ?_)
  · have d1 : ¬ a < 0 := Int32.not_lt.mpr c1
    refine x_iload_n (pc' := 12) rfl rfl rfl ?_
    refine x_bipush (pc' := 14) rfl rfl bipush_9 ?_
    refine x_icmp_gt (tgt := 36) (pc' := 17) rfl rfl rfl (fun c14 => ?_) (fun c14 => ?_)
    · rw [show s_row A a = _ from (if_neg d1).trans (if_pos (Or.inl c14))] at h
      refine x_aload_n (pc' := 37) rfl rfl rfl ?_
      refine x_bipush (pc' := 39) rfl rfl bipush_m6 ?_
      refine x_cV1i (d := 1) (pc' := 42) rfl rfl sX5_68 gX5_refuse (hS.1) ⟨Nat.le_of_ble_eq_true rfl, Nat.le_of_ble_eq_true rfl⟩ (Nat.le_of_ble_eq_true rfl) ⟨Nat.le_of_ble_eq_true rfl, Nat.le_of_ble_eq_true rfl⟩ ?_
      refine c_refuse (k := 6) (by decide) (by decide) hS hA (fun f1 S1 hS1 hA1 hF1 => ⟨_, rfl, ?_⟩)
      exact x_ireturn rfl rfl rfl (Nat.le_of_ble_eq_true rfl) (Nat.le_of_ble_eq_true rfl) (h _ _ hS1 hA1 hF1)
    · refine x_aload_n (pc' := 18) rfl rfl rfl ?_
      refine x_get (pc' := 21) rfl rfl rfl (hS.1) rfl ?_
      refine x_eqi b6 ?_
      refine x_if_lt (tgt := 36) (pc' := 24) rfl rfl rfl (fun c21 => absurd c21 (nI_pos (by omega))) (fun _ => ?_)
      refine x_aload_n (pc' := 25) rfl rfl rfl ?_
      refine x_get (pc' := 28) rfl rfl rfl (hS.1) rfl ?_
      refine x_eqi b6 ?_
      refine x_aload_n (pc' := 29) rfl rfl rfl ?_
      refine x_get (pc' := 32) rfl rfl rfl (hS.1) rfl ?_
      refine x_alen (pc' := 33) rfl rfl (hS.2.2.1 5 (by decide)) ?_
      by_cases d3 : a_rc A = 12
      · rw [show s_row A a = _ from (if_neg d1).trans (if_pos (Or.inr d3))] at h
        refine x_icmp_lt (tgt := 43) (pc' := 36) rfl rfl rfl (fun q => absurd q (show ¬ nI (a_rc A) < nI 12 by rw [d3]; exact Int32.lt_irrefl)) (fun _ => ?_)
        refine x_aload_n (pc' := 37) rfl rfl rfl ?_
        refine x_bipush (pc' := 39) rfl rfl bipush_m6 ?_
        refine x_cV1i (d := 1) (pc' := 42) rfl rfl sX5_68 gX5_refuse (hS.1) ⟨Nat.le_of_ble_eq_true rfl, Nat.le_of_ble_eq_true rfl⟩ (Nat.le_of_ble_eq_true rfl) ⟨Nat.le_of_ble_eq_true rfl, Nat.le_of_ble_eq_true rfl⟩ ?_
        refine c_refuse (k := 6) (by decide) (by decide) hS hA (fun f1 S1 hS1 hA1 hF1 => ⟨_, rfl, ?_⟩)
        exact x_ireturn rfl rfl rfl (Nat.le_of_ble_eq_true rfl) (Nat.le_of_ble_eq_true rfl) (h _ _ hS1 hA1 hF1)
      · rw [show s_row A a = _ from (if_neg d1).trans (if_neg (fun q => q.elim c14 d3))] at h
        refine x_icmp_lt (tgt := 43) (pc' := 36) rfl rfl rfl (fun _ => ?_) (fun q => absurd (nI_lt (a := a_rc A) (b := 12) (by omega) (by decide)) q)
        refine x_aload_n (pc' := 44) rfl rfl rfl ?_
        refine x_get (pc' := 47) rfl rfl rfl (hS.1) rfl ?_
        obtain ⟨ka, hka, rfl⟩ := nI_of d1
        refine x_aload_n (pc' := 48) rfl rfl rfl ?_
        refine x_get (pc' := 51) rfl rfl rfl (hS.1) rfl ?_
        refine x_eqi b6 ?_
        refine x_iload_n (pc' := 52) rfl rfl rfl ?_
        refine x_iastore (pc' := 53) rfl rfl (hS.2.2.1 5 (by decide)) (vp_in_nI (n := a_rc A) (N := 12) (by omega) (by decide)) (fun f1 e1 => ?_)
        have hS1 := hS.arr 5 (by decide) e1
        have hF1 := (x_fr.rf (P := fun q => 59 ≤ q)).up e1 (by decide)
        rw [nI_clamp (by omega), b7, q_up_I] at hS1
        refine x_aload_n (pc' := 54) rfl rfl rfl ?_
        refine x_dup (pc' := 55) rfl rfl rfl ?_
        refine x_get (pc' := 58) rfl rfl rfl (hS1.1) rfl ?_
        refine x_eqi b6 ?_
        refine x_iconst (pc' := 59) rfl rfl iconst_1 ?_
        refine x_iadd (pc' := 60) rfl rfl ?_
        refine x_eqi (nI_1 _) ?_
        refine x_put (pc' := 63) rfl rfl rfl (hS1.1) (Nat.le_of_ble_eq_true rfl) rfl rfl rfl rfl (fun f2 e2 => ?_)
        have hS2 := hS1.num0 (upd S.1 1 (nI (a_rc A + 1))) (e2.trans (by rw [show (S.1, S.2.1, x_ua S.2.2.1 5 _, S.2.2.2).1 = S.1 from rfl, x_oFs1])) (fun i hi => pk_un (by omega))
        have hF2 := hF1.up e2 (by decide)
        refine x_aload_n (pc' := 64) rfl rfl rfl ?_
        refine x_get (pc' := 67) rfl rfl rfl (hS2.1) rfl ?_
        exact x_ireturn rfl rfl rfl (Nat.le_of_ble_eq_true rfl) (Nat.le_of_ble_eq_true rfl) (h _ _ hS2 ⟨b1, b2, b3, b4, b5, rfl, by show (fun i => nI (q_up (a_rf A) (a_rc A) ka i)) = fun i => nI (q_up (a_rf A) (a_rc A) (nI ka).toNatClampNeg i); rw [nI_clamp hka], b8⟩ hF2)
  · rw [show s_row A a = _ from if_pos (Int32.not_le.mp c1)] at h
    refine x_aload_n (pc' := 5) rfl rfl rfl ?_
    refine x_bipush (pc' := 7) rfl rfl bipush_m4 ?_
    refine x_cV1i (d := 1) (pc' := 10) rfl rfl sX5_68 gX5_refuse (hS.1) ⟨Nat.le_of_ble_eq_true rfl, Nat.le_of_ble_eq_true rfl⟩ (Nat.le_of_ble_eq_true rfl) ⟨Nat.le_of_ble_eq_true rfl, Nat.le_of_ble_eq_true rfl⟩ ?_
    refine c_refuse (k := 4) (by decide) (by decide) hS hA (fun f1 S1 hS1 hA1 hF1 => ⟨_, rfl, ?_⟩)
    exact x_ireturn rfl rfl rfl (Nat.le_of_ble_eq_true rfl) (Nat.le_of_ble_eq_true rfl) (h _ _ hS1 hA1 hF1)
theorem c_put (hS : x_Sys z f S) (hA : c_is S A) (ho : a_ok A) (h : c_ends z f post (s_put A a b)) : Y E 9 mX5_put [.ref 0, .int a, .int b] z f 0 0 post := by
  refine Y.intro gX5_put (lv := [(0, .ref 0), (1, .int a), (2, .int b)]) rfl (Nat.le_of_ble_eq_true rfl) ?_
  obtain ⟨b1, b2, b3, b4, b5, b6, b7, b8⟩ := id hA
  have hn9 := ho.1.1
  refine x_aload_n (pc' := 1) rfl rfl rfl ?_
  refine x_get (pc' := 4) rfl rfl rfl (hS.1) rfl ?_
  refine x_iload_n (pc' := 5) rfl rfl rfl ?_
  refine x_cV1i (d := 1) (pc' := 8) rfl rfl sX5_90 gX3_has ((hS.2.1 0 (by decide)).1) ⟨Nat.le_of_ble_eq_true rfl, Nat.le_of_ble_eq_true rfl⟩ (Nat.le_of_ble_eq_true rfl) ⟨Nat.le_of_ble_eq_true rfl, Nat.le_of_ble_eq_true rfl⟩ ?_
  refine c_has hS hA ho (fun d1 => ⟨_, rfl, ?_⟩) (fun d1 => ⟨_, rfl, ?_⟩)
  · obtain ⟨k, hk, hk2, rfl, hcl⟩ := q_in_k d1
    refine x_if_ne (tgt := 17) (pc' := 11) rfl rfl rfl (fun _ => ?_) (fun c8 => absurd c8 ((by decide)))
    refine x_iload_n (pc' := 18) rfl rfl rfl ?_
    refine x_if_ge (tgt := 28) (pc' := 21) rfl rfl rfl (fun c18 => ?_) (fun c18 => ?_)
    · have d2 : ¬ b < 0 := Int32.not_lt.mpr c18
      refine x_iload_n (pc' := 29) rfl rfl rfl ?_
      refine x_bipush (pc' := 31) rfl rfl bipush_20 ?_
      refine x_icmp_le (tgt := 41) (pc' := 34) rfl rfl rfl (fun c31 => ?_) (fun c31 => ?_)
      · rw [show s_put A (nI k) b = _ from (if_pos d1).trans ((if_neg d2).trans (if_neg (Int32.not_lt.mpr c31)))] at h
        refine x_aload_n (pc' := 42) rfl rfl rfl ?_
        refine x_get (pc' := 45) rfl rfl rfl (hS.1) rfl ?_
        refine x_iload_n (pc' := 46) rfl rfl rfl ?_
        refine x_cV1i (d := 2) (pc' := 49) rfl rfl sX5_96 gX3_beansOf ((hS.2.1 0 (by decide)).1) ⟨Nat.le_of_ble_eq_true rfl, Nat.le_of_ble_eq_true rfl⟩ (Nat.le_of_ble_eq_true rfl) ⟨Nat.le_of_ble_eq_true rfl, Nat.le_of_ble_eq_true rfl⟩ ?_
        refine w_beansOf (hS.2.1 0 (by decide)) (fun g => ⟨_, rfl, ?_⟩) (fun g => absurd (t_has_nI b1.2.2.2.1 hn9 hk) g)
        refine x_eqi (show (S.2.1 0).2.1 (nI k).toNatClampNeg = nI (g_β (a_g A) (nI k).toNatClampNeg) from by rw [b1.2.1]) ?_
        refine x_istore_n (pc' := 50) (lv' := [(3, _), (0, _), (1, _), (2, _)]) rfl rfl (Nat.le_of_ble_eq_true rfl) rfl ?_
        refine x_aload_n (pc' := 51) rfl rfl rfl ?_
        refine x_get (pc' := 54) rfl rfl rfl (hS.1) rfl ?_
        refine x_iload_n (pc' := 55) rfl rfl rfl ?_
        refine x_iload_n (pc' := 56) rfl rfl rfl ?_
        refine x_cV2v (d := 2) (pc' := 59) rfl rfl sX5_105 gX3_lay ((hS.2.1 0 (by decide)).1) ⟨Nat.le_of_ble_eq_true rfl, Nat.le_of_ble_eq_true rfl⟩ (Nat.le_of_ble_eq_true rfl) ⟨Nat.le_of_ble_eq_true rfl, Nat.le_of_ble_eq_true rfl⟩ ?_
        refine w_lay (hS.2.1 0 (by decide)) (fun _ f1 hT1 hF1 => ⟨rfl, ?_⟩) (fun g => absurd (t_has_nI b1.2.2.2.1 hn9 hk) g)
        have hS1 := hS.tab 0 (by decide) hT1 hF1
        obtain ⟨kb, hkb, rfl⟩ := nI_of d2
        refine x_iload_n (pc' := 60) rfl rfl rfl ?_
        exact x_ireturn rfl rfl rfl (Nat.le_of_ble_eq_true rfl) (Nat.le_of_ble_eq_true rfl) (h _ _ hS1 ⟨⟨b1.1, by show upd (S.2.1 0).2.1 (nI k).toNatClampNeg (nI kb) = fun i => nI (q_up (g_β (a_g A)) (nI k).toNatClampNeg (nI kb).toNatClampNeg i); rw [b1.2.1, q_up_I, nI_clamp hkb], b1.2.2⟩, b2, b3, b4, b5, b6, b7, b8⟩ (c_fr0 (j := 0) (by decide) hF1))
      · rw [show s_put A (nI k) b = _ from (if_pos d1).trans ((if_neg d2).trans (if_pos (Int32.not_le.mp c31)))] at h
        refine x_aload_n (pc' := 35) rfl rfl rfl ?_
        refine x_bipush (pc' := 37) rfl rfl bipush_m6 ?_
        refine x_cV1i (d := 1) (pc' := 40) rfl rfl sX5_68 gX5_refuse (hS.1) ⟨Nat.le_of_ble_eq_true rfl, Nat.le_of_ble_eq_true rfl⟩ (Nat.le_of_ble_eq_true rfl) ⟨Nat.le_of_ble_eq_true rfl, Nat.le_of_ble_eq_true rfl⟩ ?_
        refine c_refuse (k := 6) (by decide) (by decide) hS hA (fun f1 S1 hS1 hA1 hF1 => ⟨_, rfl, ?_⟩)
        exact x_ireturn rfl rfl rfl (Nat.le_of_ble_eq_true rfl) (Nat.le_of_ble_eq_true rfl) (h _ _ hS1 hA1 hF1)
    · rw [show s_put A (nI k) b = _ from (if_pos d1).trans (if_pos (Int32.not_le.mp c18))] at h
      refine x_aload_n (pc' := 22) rfl rfl rfl ?_
      refine x_bipush (pc' := 24) rfl rfl bipush_m4 ?_
      refine x_cV1i (d := 1) (pc' := 27) rfl rfl sX5_68 gX5_refuse (hS.1) ⟨Nat.le_of_ble_eq_true rfl, Nat.le_of_ble_eq_true rfl⟩ (Nat.le_of_ble_eq_true rfl) ⟨Nat.le_of_ble_eq_true rfl, Nat.le_of_ble_eq_true rfl⟩ ?_
      refine c_refuse (k := 4) (by decide) (by decide) hS hA (fun f1 S1 hS1 hA1 hF1 => ⟨_, rfl, ?_⟩)
      exact x_ireturn rfl rfl rfl (Nat.le_of_ble_eq_true rfl) (Nat.le_of_ble_eq_true rfl) (h _ _ hS1 hA1 hF1)
  · rw [show s_put A a b = _ from if_neg d1] at h
    refine x_if_ne (tgt := 17) (pc' := 11) rfl rfl rfl (fun c8 => absurd ((by decide)) c8) (fun _ => ?_)
    refine x_aload_n (pc' := 12) rfl rfl rfl ?_
    refine x_iconst (pc' := 13) rfl rfl iconst_m1 ?_
    refine x_cV1i (d := 1) (pc' := 16) rfl rfl sX5_68 gX5_refuse (hS.1) ⟨Nat.le_of_ble_eq_true rfl, Nat.le_of_ble_eq_true rfl⟩ (Nat.le_of_ble_eq_true rfl) ⟨Nat.le_of_ble_eq_true rfl, Nat.le_of_ble_eq_true rfl⟩ ?_
    refine c_refuse (k := 1) (by decide) (by decide) hS hA (fun f1 S1 hS1 hA1 hF1 => ⟨_, rfl, ?_⟩)
    exact x_ireturn rfl rfl rfl (Nat.le_of_ble_eq_true rfl) (Nat.le_of_ble_eq_true rfl) (h _ _ hS1 hA1 hF1)
theorem c_set (hS : x_Sys z f S) (hA : c_is S A) (h : c_ends z f post (s_set A a b)) : Y E 9 mX5_set [.ref 0, .int a, .int b] z f 0 0 post := by
  refine Y.intro gX5_set (lv := [(0, .ref 0), (1, .int a), (2, .int b)]) rfl (Nat.le_of_ble_eq_true rfl) ?_
  obtain ⟨b1, b2, b3, b4, b5, b6, b7, b8⟩ := id hA
  obtain ⟨t1, t2, t3, t4, t5, t6, t7⟩ := id b1
  have hT := hS.2.1 0 (by decide)
  by_cases d0 : a < 0
  · rw [show s_set A a b = _ from if_pos (Or.inl d0)] at h
    refine x_iload_n (pc' := 1) rfl rfl rfl ?_
    refine x_if_lt (tgt := 9) (pc' := 4) rfl rfl rfl (fun _ => ?_) (fun c1 => absurd (d0) c1)
    refine x_aload_n (pc' := 10) rfl rfl rfl ?_
    refine x_bipush (pc' := 12) rfl rfl bipush_m2 ?_
    refine x_cV1i (d := 1) (pc' := 15) rfl rfl sX5_68 gX5_refuse (hS.1) ⟨Nat.le_of_ble_eq_true rfl, Nat.le_of_ble_eq_true rfl⟩ (Nat.le_of_ble_eq_true rfl) ⟨Nat.le_of_ble_eq_true rfl, Nat.le_of_ble_eq_true rfl⟩ ?_
    refine c_refuse (k := 2) (by decide) (by decide) hS hA (fun f1 S1 hS1 hA1 hF1 => ⟨_, rfl, ?_⟩)
    exact x_ireturn rfl rfl rfl (Nat.le_of_ble_eq_true rfl) (Nat.le_of_ble_eq_true rfl) (h _ _ hS1 hA1 hF1)
  by_cases d9 : 2 < a
  · rw [show s_set A a b = _ from if_pos (Or.inr d9)] at h
    refine x_iload_n (pc' := 1) rfl rfl rfl ?_
    refine x_if_lt (tgt := 9) (pc' := 4) rfl rfl rfl (fun c1 => absurd c1 (d0)) (fun _ => ?_)
    refine x_iload_n (pc' := 5) rfl rfl rfl ?_
    refine x_iconst (pc' := 6) rfl rfl iconst_2 ?_
    refine x_icmp_le (tgt := 16) (pc' := 9) rfl rfl rfl (fun c6 => absurd c6 (Int32.not_le.mpr d9)) (fun _ => ?_)
    refine x_aload_n (pc' := 10) rfl rfl rfl ?_
    refine x_bipush (pc' := 12) rfl rfl bipush_m2 ?_
    refine x_cV1i (d := 1) (pc' := 15) rfl rfl sX5_68 gX5_refuse (hS.1) ⟨Nat.le_of_ble_eq_true rfl, Nat.le_of_ble_eq_true rfl⟩ (Nat.le_of_ble_eq_true rfl) ⟨Nat.le_of_ble_eq_true rfl, Nat.le_of_ble_eq_true rfl⟩ ?_
    refine c_refuse (k := 2) (by decide) (by decide) hS hA (fun f1 S1 hS1 hA1 hF1 => ⟨_, rfl, ?_⟩)
    exact x_ireturn rfl rfl rfl (Nat.le_of_ble_eq_true rfl) (Nat.le_of_ble_eq_true rfl) (h _ _ hS1 hA1 hF1)
  rcases i3_of (fun q => q.elim d0 d9) with rfl | rfl | rfl
  · rw [s_set0] at h
    refine x_iload_n (pc' := 1) rfl rfl rfl ?_
    refine x_if_lt (tgt := 9) (pc' := 4) rfl rfl rfl (fun c1 => absurd c1 ((by decide))) (fun _ => ?_)
    refine x_iload_n (pc' := 5) rfl rfl rfl ?_
    refine x_iconst (pc' := 6) rfl rfl iconst_2 ?_
    refine x_icmp_le (tgt := 16) (pc' := 9) rfl rfl rfl (fun _ => ?_) (fun c6 => absurd ((by decide)) c6)
    refine x_iload_n (pc' := 17) rfl rfl rfl ?_
    refine x_iload_n (pc' := 18) rfl rfl rfl ?_
    refine x_if_ne (tgt := 25) (pc' := 21) rfl rfl rfl (fun c18 => absurd (rfl) c18) (fun _ => ?_)
    refine x_iconst (pc' := 22) rfl rfl iconst_1 ?_
    refine x_goto (tgt := 26) rfl rfl ?_
    refine x_icmp_ge (tgt := 36) (pc' := 29) rfl rfl rfl (fun c26 => ?_) (fun c26 => ?_)
    · have d2 : ¬ b < 1 := Int32.not_lt.mpr c26
      rw [if_neg d2] at h
      refine x_iload_n (pc' := 37) rfl rfl rfl ?_
      refine x_iload_n (pc' := 38) rfl rfl rfl ?_
      refine x_if_ne (tgt := 46) (pc' := 41) rfl rfl rfl (fun c38 => absurd (rfl) c38) (fun _ => ?_)
      refine x_bipush (pc' := 43) rfl rfl bipush_9 ?_
      refine x_goto (tgt := 47) rfl rfl ?_
      refine x_icmp_le (tgt := 57) (pc' := 50) rfl rfl rfl (fun c47 => ?_) (fun c47 => ?_)
      · rw [if_neg (Int32.not_lt.mpr c47)] at h
        refine x_iload_n (pc' := 58) rfl rfl rfl ?_
        refine x_if_ne (tgt := 80) (pc' := 61) rfl rfl rfl (fun c58 => absurd (rfl) c58) (fun _ => ?_)
        refine x_aload_n (pc' := 62) rfl rfl rfl ?_
        refine x_get (pc' := 65) rfl rfl rfl (hS.1) rfl ?_
        refine x_get (pc' := 68) rfl rfl rfl (hT.1) rfl ?_
        refine x_eqi t5 ?_
        refine x_istore_n (pc' := 69) (lv' := [(3, _), (0, _), (1, _), (2, _)]) rfl rfl (Nat.le_of_ble_eq_true rfl) rfl ?_
        refine x_aload_n (pc' := 70) rfl rfl rfl ?_
        refine x_get (pc' := 73) rfl rfl rfl (hS.1) rfl ?_
        refine x_iload_n (pc' := 74) rfl rfl rfl ?_
        refine x_put (pc' := 77) rfl rfl rfl (hT.1) (Nat.le_of_ble_eq_true rfl) rfl rfl rfl rfl (fun f1 e1 => ?_)
        have hT1 := hT.num 1 e1 (x_tFs1 _ _ _)
        have hF1 := (x_fr.rf (P := x_ot 1)).up e1 (by decide)
        have hS1 := hS.tab 0 (by decide) hT1 hF1
        obtain ⟨kb, hkb, rfl⟩ := nI_of (fun q => d2 (Int32.lt_of_lt_of_le q (by decide)))
        refine x_goto (tgt := 120) rfl rfl ?_
        refine x_iload_n (pc' := 121) rfl rfl rfl ?_
        exact x_ireturn rfl rfl rfl (Nat.le_of_ble_eq_true rfl) (Nat.le_of_ble_eq_true rfl) (h _ _ hS1 ⟨(by rw [nI_clamp hkb]; exact ⟨t1, t2, t3, t4, rfl, t6, t7⟩), b2, b3, b4, b5, b6, b7, b8⟩ (c_fr0 (j := 0) (by decide) hF1))
      · rw [if_pos (Int32.not_le.mp c47)] at h
        refine x_aload_n (pc' := 51) rfl rfl rfl ?_
        refine x_bipush (pc' := 53) rfl rfl bipush_m6 ?_
        refine x_cV1i (d := 1) (pc' := 56) rfl rfl sX5_68 gX5_refuse (hS.1) ⟨Nat.le_of_ble_eq_true rfl, Nat.le_of_ble_eq_true rfl⟩ (Nat.le_of_ble_eq_true rfl) ⟨Nat.le_of_ble_eq_true rfl, Nat.le_of_ble_eq_true rfl⟩ ?_
        refine c_refuse (k := 6) (by decide) (by decide) hS hA (fun f1 S1 hS1 hA1 hF1 => ⟨_, rfl, ?_⟩)
        exact x_ireturn rfl rfl rfl (Nat.le_of_ble_eq_true rfl) (Nat.le_of_ble_eq_true rfl) (h _ _ hS1 hA1 hF1)
    · rw [if_pos (Int32.not_le.mp c26)] at h
      refine x_aload_n (pc' := 30) rfl rfl rfl ?_
      refine x_bipush (pc' := 32) rfl rfl bipush_m4 ?_
      refine x_cV1i (d := 1) (pc' := 35) rfl rfl sX5_68 gX5_refuse (hS.1) ⟨Nat.le_of_ble_eq_true rfl, Nat.le_of_ble_eq_true rfl⟩ (Nat.le_of_ble_eq_true rfl) ⟨Nat.le_of_ble_eq_true rfl, Nat.le_of_ble_eq_true rfl⟩ ?_
      refine c_refuse (k := 4) (by decide) (by decide) hS hA (fun f1 S1 hS1 hA1 hF1 => ⟨_, rfl, ?_⟩)
      exact x_ireturn rfl rfl rfl (Nat.le_of_ble_eq_true rfl) (Nat.le_of_ble_eq_true rfl) (h _ _ hS1 hA1 hF1)
  · rw [s_set1] at h
    refine x_iload_n (pc' := 1) rfl rfl rfl ?_
    refine x_if_lt (tgt := 9) (pc' := 4) rfl rfl rfl (fun c1 => absurd c1 ((by decide))) (fun _ => ?_)
    refine x_iload_n (pc' := 5) rfl rfl rfl ?_
    refine x_iconst (pc' := 6) rfl rfl iconst_2 ?_
    refine x_icmp_le (tgt := 16) (pc' := 9) rfl rfl rfl (fun _ => ?_) (fun c6 => absurd ((by decide)) c6)
    refine x_iload_n (pc' := 17) rfl rfl rfl ?_
    refine x_iload_n (pc' := 18) rfl rfl rfl ?_
    refine x_if_ne (tgt := 25) (pc' := 21) rfl rfl rfl (fun _ => ?_) (fun c18 => absurd c18 ((by decide)))
    refine x_iconst (pc' := 26) rfl rfl iconst_0 ?_
    refine x_icmp_ge (tgt := 36) (pc' := 29) rfl rfl rfl (fun c26 => ?_) (fun c26 => ?_)
    · have d2 : ¬ b < 0 := Int32.not_lt.mpr c26
      rw [if_neg d2] at h
      refine x_iload_n (pc' := 37) rfl rfl rfl ?_
      refine x_iload_n (pc' := 38) rfl rfl rfl ?_
      refine x_if_ne (tgt := 46) (pc' := 41) rfl rfl rfl (fun _ => ?_) (fun c38 => absurd c38 ((by decide)))
      refine x_iconst (pc' := 47) rfl rfl iconst_1 ?_
      refine x_icmp_le (tgt := 57) (pc' := 50) rfl rfl rfl (fun c47 => ?_) (fun c47 => ?_)
      · rw [if_neg (Int32.not_lt.mpr c47)] at h
        refine x_iload_n (pc' := 58) rfl rfl rfl ?_
        refine x_if_ne (tgt := 80) (pc' := 61) rfl rfl rfl (fun _ => ?_) (fun c58 => absurd c58 ((by decide)))
        refine x_iload_n (pc' := 81) rfl rfl rfl ?_
        refine x_iconst (pc' := 82) rfl rfl iconst_1 ?_
        refine x_icmp_ne (tgt := 104) (pc' := 85) rfl rfl rfl (fun c82 => absurd (rfl) c82) (fun _ => ?_)
        refine x_aload_n (pc' := 86) rfl rfl rfl ?_
        refine x_get (pc' := 89) rfl rfl rfl (hS.1) rfl ?_
        refine x_get (pc' := 92) rfl rfl rfl (hT.1) rfl ?_
        refine x_eqi t6 ?_
        refine x_istore_n (pc' := 93) (lv' := [(3, _), (0, _), (1, _), (2, _)]) rfl rfl (Nat.le_of_ble_eq_true rfl) rfl ?_
        refine x_aload_n (pc' := 94) rfl rfl rfl ?_
        refine x_get (pc' := 97) rfl rfl rfl (hS.1) rfl ?_
        refine x_iload_n (pc' := 98) rfl rfl rfl ?_
        refine x_put (pc' := 101) rfl rfl rfl (hT.1) (Nat.le_of_ble_eq_true rfl) rfl rfl rfl rfl (fun f1 e1 => ?_)
        have hT1 := hT.num 2 e1 (x_tFs2 _ _ _)
        have hF1 := (x_fr.rf (P := x_ot 1)).up e1 (by decide)
        have hS1 := hS.tab 0 (by decide) hT1 hF1
        obtain ⟨kb, hkb, rfl⟩ := nI_of (fun q => d2 (Int32.lt_of_lt_of_le q (by decide)))
        refine x_goto (tgt := 120) rfl rfl ?_
        refine x_iload_n (pc' := 121) rfl rfl rfl ?_
        exact x_ireturn rfl rfl rfl (Nat.le_of_ble_eq_true rfl) (Nat.le_of_ble_eq_true rfl) (h _ _ hS1 ⟨(by rw [nI_clamp hkb]; exact ⟨t1, t2, t3, t4, t5, rfl, t7⟩), b2, b3, b4, b5, b6, b7, b8⟩ (c_fr0 (j := 0) (by decide) hF1))
      · rw [if_pos (Int32.not_le.mp c47)] at h
        refine x_aload_n (pc' := 51) rfl rfl rfl ?_
        refine x_bipush (pc' := 53) rfl rfl bipush_m6 ?_
        refine x_cV1i (d := 1) (pc' := 56) rfl rfl sX5_68 gX5_refuse (hS.1) ⟨Nat.le_of_ble_eq_true rfl, Nat.le_of_ble_eq_true rfl⟩ (Nat.le_of_ble_eq_true rfl) ⟨Nat.le_of_ble_eq_true rfl, Nat.le_of_ble_eq_true rfl⟩ ?_
        refine c_refuse (k := 6) (by decide) (by decide) hS hA (fun f1 S1 hS1 hA1 hF1 => ⟨_, rfl, ?_⟩)
        exact x_ireturn rfl rfl rfl (Nat.le_of_ble_eq_true rfl) (Nat.le_of_ble_eq_true rfl) (h _ _ hS1 hA1 hF1)
    · rw [if_pos (Int32.not_le.mp c26)] at h
      refine x_aload_n (pc' := 30) rfl rfl rfl ?_
      refine x_bipush (pc' := 32) rfl rfl bipush_m4 ?_
      refine x_cV1i (d := 1) (pc' := 35) rfl rfl sX5_68 gX5_refuse (hS.1) ⟨Nat.le_of_ble_eq_true rfl, Nat.le_of_ble_eq_true rfl⟩ (Nat.le_of_ble_eq_true rfl) ⟨Nat.le_of_ble_eq_true rfl, Nat.le_of_ble_eq_true rfl⟩ ?_
      refine c_refuse (k := 4) (by decide) (by decide) hS hA (fun f1 S1 hS1 hA1 hF1 => ⟨_, rfl, ?_⟩)
      exact x_ireturn rfl rfl rfl (Nat.le_of_ble_eq_true rfl) (Nat.le_of_ble_eq_true rfl) (h _ _ hS1 hA1 hF1)
  · rw [s_set2] at h
    refine x_iload_n (pc' := 1) rfl rfl rfl ?_
    refine x_if_lt (tgt := 9) (pc' := 4) rfl rfl rfl (fun c1 => absurd c1 ((by decide))) (fun _ => ?_)
    refine x_iload_n (pc' := 5) rfl rfl rfl ?_
    refine x_iconst (pc' := 6) rfl rfl iconst_2 ?_
    refine x_icmp_le (tgt := 16) (pc' := 9) rfl rfl rfl (fun _ => ?_) (fun c6 => absurd ((by decide)) c6)
    refine x_iload_n (pc' := 17) rfl rfl rfl ?_
    refine x_iload_n (pc' := 18) rfl rfl rfl ?_
    refine x_if_ne (tgt := 25) (pc' := 21) rfl rfl rfl (fun _ => ?_) (fun c18 => absurd c18 ((by decide)))
    refine x_iconst (pc' := 26) rfl rfl iconst_0 ?_
    refine x_icmp_ge (tgt := 36) (pc' := 29) rfl rfl rfl (fun c26 => ?_) (fun c26 => ?_)
    · have d2 : ¬ b < 0 := Int32.not_lt.mpr c26
      rw [if_neg d2] at h
      refine x_iload_n (pc' := 37) rfl rfl rfl ?_
      refine x_iload_n (pc' := 38) rfl rfl rfl ?_
      refine x_if_ne (tgt := 46) (pc' := 41) rfl rfl rfl (fun _ => ?_) (fun c38 => absurd c38 ((by decide)))
      refine x_iconst (pc' := 47) rfl rfl iconst_1 ?_
      refine x_icmp_le (tgt := 57) (pc' := 50) rfl rfl rfl (fun c47 => ?_) (fun c47 => ?_)
      · rw [if_neg (Int32.not_lt.mpr c47)] at h
        refine x_iload_n (pc' := 58) rfl rfl rfl ?_
        refine x_if_ne (tgt := 80) (pc' := 61) rfl rfl rfl (fun _ => ?_) (fun c58 => absurd c58 ((by decide)))
        refine x_iload_n (pc' := 81) rfl rfl rfl ?_
        refine x_iconst (pc' := 82) rfl rfl iconst_1 ?_
        refine x_icmp_ne (tgt := 104) (pc' := 85) rfl rfl rfl (fun _ => ?_) (fun c82 => absurd c82 ((by decide)))
        refine x_aload_n (pc' := 105) rfl rfl rfl ?_
        refine x_get (pc' := 108) rfl rfl rfl (hS.1) rfl ?_
        refine x_get (pc' := 111) rfl rfl rfl (hT.1) rfl ?_
        refine x_eqi t7 ?_
        refine x_istore_n (pc' := 112) (lv' := [(3, _), (0, _), (1, _), (2, _)]) rfl rfl (Nat.le_of_ble_eq_true rfl) rfl ?_
        refine x_aload_n (pc' := 113) rfl rfl rfl ?_
        refine x_get (pc' := 116) rfl rfl rfl (hS.1) rfl ?_
        refine x_iload_n (pc' := 117) rfl rfl rfl ?_
        refine x_put (pc' := 120) rfl rfl rfl (hT.1) (Nat.le_of_ble_eq_true rfl) rfl rfl rfl rfl (fun f1 e1 => ?_)
        have hT1 := hT.num 3 e1 (x_tFs3 _ _ _)
        have hF1 := (x_fr.rf (P := x_ot 1)).up e1 (by decide)
        have hS1 := hS.tab 0 (by decide) hT1 hF1
        obtain ⟨kb, hkb, rfl⟩ := nI_of (fun q => d2 (Int32.lt_of_lt_of_le q (by decide)))
        refine x_iload_n (pc' := 121) rfl rfl rfl ?_
        exact x_ireturn rfl rfl rfl (Nat.le_of_ble_eq_true rfl) (Nat.le_of_ble_eq_true rfl) (h _ _ hS1 ⟨(by rw [nI_clamp hkb]; exact ⟨t1, t2, t3, t4, t5, t6, rfl⟩), b2, b3, b4, b5, b6, b7, b8⟩ (c_fr0 (j := 0) (by decide) hF1))
      · rw [if_pos (Int32.not_le.mp c47)] at h
        refine x_aload_n (pc' := 51) rfl rfl rfl ?_
        refine x_bipush (pc' := 53) rfl rfl bipush_m6 ?_
        refine x_cV1i (d := 1) (pc' := 56) rfl rfl sX5_68 gX5_refuse (hS.1) ⟨Nat.le_of_ble_eq_true rfl, Nat.le_of_ble_eq_true rfl⟩ (Nat.le_of_ble_eq_true rfl) ⟨Nat.le_of_ble_eq_true rfl, Nat.le_of_ble_eq_true rfl⟩ ?_
        refine c_refuse (k := 6) (by decide) (by decide) hS hA (fun f1 S1 hS1 hA1 hF1 => ⟨_, rfl, ?_⟩)
        exact x_ireturn rfl rfl rfl (Nat.le_of_ble_eq_true rfl) (Nat.le_of_ble_eq_true rfl) (h _ _ hS1 hA1 hF1)
    · rw [if_pos (Int32.not_le.mp c26)] at h
      refine x_aload_n (pc' := 30) rfl rfl rfl ?_
      refine x_bipush (pc' := 32) rfl rfl bipush_m4 ?_
      refine x_cV1i (d := 1) (pc' := 35) rfl rfl sX5_68 gX5_refuse (hS.1) ⟨Nat.le_of_ble_eq_true rfl, Nat.le_of_ble_eq_true rfl⟩ (Nat.le_of_ble_eq_true rfl) ⟨Nat.le_of_ble_eq_true rfl, Nat.le_of_ble_eq_true rfl⟩ ?_
      refine c_refuse (k := 4) (by decide) (by decide) hS hA (fun f1 S1 hS1 hA1 hF1 => ⟨_, rfl, ?_⟩)
      exact x_ireturn rfl rfl rfl (Nat.le_of_ble_eq_true rfl) (Nat.le_of_ble_eq_true rfl) (h _ _ hS1 hA1 hF1)
theorem c_move (hS : x_Sys z f S) (hA : c_is S A) (ho : a_ok A) (h : c_ends z f post (s_move A a)) : Y E 9 mX5_move [.ref 0, .int a] z f 0 0 post := by
  refine Y.intro gX5_move (lv := [(0, .ref 0), (1, .int a)]) rfl (Nat.le_of_ble_eq_true rfl) ?_
  obtain ⟨b1, b2, b3, b4, b5, b6, b7, b8⟩ := id hA
  have hmv := ho.2.1
  have hT := hS.2.1 0 (by decide)
  refine x_aload_n (pc' := 1) rfl rfl rfl ?_
  refine x_get (pc' := 4) rfl rfl rfl (hS.1) rfl ?_
  refine x_iload_n (pc' := 5) rfl rfl rfl ?_
  refine x_cV1i (d := 1) (pc' := 8) rfl rfl sX5_90 gX3_has (hT.1) ⟨Nat.le_of_ble_eq_true rfl, Nat.le_of_ble_eq_true rfl⟩ (Nat.le_of_ble_eq_true rfl) ⟨Nat.le_of_ble_eq_true rfl, Nat.le_of_ble_eq_true rfl⟩ ?_
  refine c_has hS hA ho (fun d1 => ⟨_, rfl, ?_⟩) (fun d1 => ⟨_, rfl, ?_⟩)
  · obtain ⟨k, hk, hk2, rfl, hcl⟩ := q_in_k d1
    refine x_if_ne (tgt := 17) (pc' := 11) rfl rfl rfl (fun _ => ?_) (fun c8 => absurd c8 ((by decide)))
    refine x_aload_n (pc' := 18) rfl rfl rfl ?_
    refine x_get (pc' := 21) rfl rfl rfl (hS.1) rfl ?_
    refine x_iload_n (pc' := 22) rfl rfl rfl ?_
    refine x_cV1i (d := 2) (pc' := 25) rfl rfl sX5_118 gX3_canMove (hT.1) ⟨Nat.le_of_ble_eq_true rfl, Nat.le_of_ble_eq_true rfl⟩ (Nat.le_of_ble_eq_true rfl) ⟨Nat.le_of_ble_eq_true rfl, Nat.le_of_ble_eq_true rfl⟩ ?_
    refine w_can hT b1 ho.1 (by decide) hk2 (fun d2 => ⟨_, rfl, ?_⟩) (fun d2 => ⟨_, rfl, ?_⟩)
    · have d3 : 2 ≤ g_n (a_g A) ∧ 0 < g_β (a_g A) (nI k).toNatClampNeg := ⟨d2.1, by rw [hcl]; exact d2.2.2⟩
      refine x_if_ne (tgt := 35) (pc' := 28) rfl rfl rfl (fun _ => ?_) (fun c25 => absurd c25 ((by decide)))
      refine x_aload_n (pc' := 36) rfl rfl rfl ?_
      refine x_get (pc' := 39) rfl rfl rfl (hS.1) rfl ?_
      refine x_get (pc' := 42) rfl rfl rfl (hT.1) rfl ?_
      refine x_eqi b2 ?_
      refine x_sipush (pc' := 45) rfl rfl sipush_999 ?_
      refine x_icmp_lt (tgt := 55) (pc' := 48) rfl rfl rfl (fun c45 => ?_) (fun c45 => ?_)
      · rw [show s_move A (nI k) = _ from (if_pos d1).trans ((if_pos d3).trans (if_neg ((nI_999 hmv).mp c45)))] at h
        refine x_aload_n (pc' := 56) rfl rfl rfl ?_
        refine x_get (pc' := 59) rfl rfl rfl (hS.1) rfl ?_
        refine x_iload_n (pc' := 60) rfl rfl rfl ?_
        refine x_cV1v (d := 4) (pc' := 63) rfl rfl sX5_124 gX3_makeMove (hT.1) ⟨Nat.le_of_ble_eq_true rfl, Nat.le_of_ble_eq_true rfl⟩ (Nat.le_of_ble_eq_true rfl) ⟨Nat.le_of_ble_eq_true rfl, Nat.le_of_ble_eq_true rfl⟩ ?_
        refine w_move hT b1 ho.1 (by decide) hk (fun f1 T1 hT1 g1 g4 g5 g6 g7 g8 hF1 => ⟨rfl, ?_⟩)
        have hS1 := hS.tab 0 (by decide) hT1 hF1
        rw [hcl] at h
        refine x_aload_n (pc' := 64) rfl rfl rfl ?_
        refine x_get (pc' := 67) rfl rfl rfl (hS1.1) rfl ?_
        refine x_get (pc' := 70) rfl rfl rfl (hT1.1) rfl ?_
        exact x_ireturn rfl rfl rfl (Nat.le_of_ble_eq_true rfl) (Nat.le_of_ble_eq_true rfl) (by rw [g8]; exact h _ _ hS1 ⟨g1, g4.trans (by rw [b2]; exact nI_1 _), b3, b4, b5, b6, b7, b8⟩ (c_fr0 (j := 0) (by decide) hF1))
      · rw [show s_move A (nI k) = _ from (if_pos d1).trans ((if_pos d3).trans (if_pos (Decidable.not_not.mp (fun q => c45 ((nI_999 hmv).mpr q)))))] at h
        refine x_aload_n (pc' := 49) rfl rfl rfl ?_
        refine x_bipush (pc' := 51) rfl rfl bipush_m6 ?_
        refine x_cV1i (d := 1) (pc' := 54) rfl rfl sX5_68 gX5_refuse (hS.1) ⟨Nat.le_of_ble_eq_true rfl, Nat.le_of_ble_eq_true rfl⟩ (Nat.le_of_ble_eq_true rfl) ⟨Nat.le_of_ble_eq_true rfl, Nat.le_of_ble_eq_true rfl⟩ ?_
        refine c_refuse (k := 6) (by decide) (by decide) hS hA (fun f1 S1 hS1 hA1 hF1 => ⟨_, rfl, ?_⟩)
        exact x_ireturn rfl rfl rfl (Nat.le_of_ble_eq_true rfl) (Nat.le_of_ble_eq_true rfl) (h _ _ hS1 hA1 hF1)
    · have d3 : ¬ (2 ≤ g_n (a_g A) ∧ 0 < g_β (a_g A) (nI k).toNatClampNeg) := fun q => d2 ⟨q.1, hk, by rw [← hcl]; exact q.2⟩
      rw [show s_move A (nI k) = _ from (if_pos d1).trans (if_neg d3)] at h
      refine x_if_ne (tgt := 35) (pc' := 28) rfl rfl rfl (fun c25 => absurd ((by decide)) c25) (fun _ => ?_)
      refine x_aload_n (pc' := 29) rfl rfl rfl ?_
      refine x_bipush (pc' := 31) rfl rfl bipush_m3 ?_
      refine x_cV1i (d := 1) (pc' := 34) rfl rfl sX5_68 gX5_refuse (hS.1) ⟨Nat.le_of_ble_eq_true rfl, Nat.le_of_ble_eq_true rfl⟩ (Nat.le_of_ble_eq_true rfl) ⟨Nat.le_of_ble_eq_true rfl, Nat.le_of_ble_eq_true rfl⟩ ?_
      refine c_refuse (k := 3) (by decide) (by decide) hS hA (fun f1 S1 hS1 hA1 hF1 => ⟨_, rfl, ?_⟩)
      exact x_ireturn rfl rfl rfl (Nat.le_of_ble_eq_true rfl) (Nat.le_of_ble_eq_true rfl) (h _ _ hS1 hA1 hF1)
  · rw [show s_move A a = _ from if_neg d1] at h
    refine x_if_ne (tgt := 17) (pc' := 11) rfl rfl rfl (fun c8 => absurd ((by decide)) c8) (fun _ => ?_)
    refine x_aload_n (pc' := 12) rfl rfl rfl ?_
    refine x_iconst (pc' := 13) rfl rfl iconst_m1 ?_
    refine x_cV1i (d := 1) (pc' := 16) rfl rfl sX5_68 gX5_refuse (hS.1) ⟨Nat.le_of_ble_eq_true rfl, Nat.le_of_ble_eq_true rfl⟩ (Nat.le_of_ble_eq_true rfl) ⟨Nat.le_of_ble_eq_true rfl, Nat.le_of_ble_eq_true rfl⟩ ?_
    refine c_refuse (k := 1) (by decide) (by decide) hS hA (fun f1 S1 hS1 hA1 hF1 => ⟨_, rfl, ?_⟩)
    exact x_ireturn rfl rfl rfl (Nat.le_of_ble_eq_true rfl) (Nat.le_of_ble_eq_true rfl) (h _ _ hS1 hA1 hF1)
theorem c_bowl (hS : x_Sys z f S) (hA : c_is S A) (ho : a_ok A) (h : c_ends z f post (s_bowl A a b)) : Y E 9 mX5_bowl [.ref 0, .int a, .int b] z f 0 0 post := by
  refine Y.intro gX5_bowl (lv := [(0, .ref 0), (1, .int a), (2, .int b)]) rfl (Nat.le_of_ble_eq_true rfl) ?_
  obtain ⟨b1, b2, b3, b4, b5, b6, b7, b8⟩ := id hA
  obtain ⟨t1, t2, t3, t4, t5, t6, t7⟩ := id b1
  obtain ⟨a1, a2, a3, a4, a5, a6, a7, a8, a9⟩ := ho.1
  have hT := hS.2.1 0 (by decide)
  by_cases d1 : q_in (g_n (a_g A)) a
  · obtain ⟨k, hk, hk2, rfl, hcl⟩ := q_in_k d1
    have hhas := t_has_nI (T := S.2.1 0) t4 a1 hk
    rw [show s_bowl A (nI k) b = _ from if_pos d1, hcl] at h
    by_cases e0 : b = 0
    · rw [if_pos e0] at h
      subst e0
      refine x_aload_n (pc' := 1) rfl rfl rfl ?_
      refine x_get (pc' := 4) rfl rfl rfl (hS.1) rfl ?_
      refine x_iload_n (pc' := 5) rfl rfl rfl ?_
      refine x_cV1i (d := 1) (pc' := 8) rfl rfl sX5_90 gX3_has (hT.1) ⟨Nat.le_of_ble_eq_true rfl, Nat.le_of_ble_eq_true rfl⟩ (Nat.le_of_ble_eq_true rfl) ⟨Nat.le_of_ble_eq_true rfl, Nat.le_of_ble_eq_true rfl⟩ ?_
      refine w_has hT (fun _ => ⟨_, rfl, ?_⟩) (fun g => absurd hhas g)
      refine x_if_ne (tgt := 17) (pc' := 11) rfl rfl rfl (fun _ => ?_) (fun c8 => absurd c8 ((by decide)))
      refine x_iload_n (pc' := 18) rfl rfl rfl ?_
      refine x_tableIn (tgt := 48) rfl (by decide) (by decide) rfl rfl ?_
      refine x_aload_n (pc' := 49) rfl rfl rfl ?_
      refine x_get (pc' := 52) rfl rfl rfl (hS.1) rfl ?_
      refine x_iload_n (pc' := 53) rfl rfl rfl ?_
      refine x_cV1i (d := 2) (pc' := 56) rfl rfl sX5_93 gX3_kindOf (hT.1) ⟨Nat.le_of_ble_eq_true rfl, Nat.le_of_ble_eq_true rfl⟩ (Nat.le_of_ble_eq_true rfl) ⟨Nat.le_of_ble_eq_true rfl, Nat.le_of_ble_eq_true rfl⟩ ?_
      refine w_kindOf hT (fun _ => ⟨_, rfl, ?_⟩) (fun g => absurd hhas g)
      refine x_eqi (show (S.2.1 0).1 (nI k).toNatClampNeg = nI (g_κ (a_g A) k) from by rw [hcl, t1]) ?_
      exact x_ireturn rfl rfl rfl (Nat.le_of_ble_eq_true rfl) (Nat.le_of_ble_eq_true rfl) (h _ _ hS hA x_fr.rf)
    rw [if_neg e0] at h
    by_cases e1 : b = 1
    · rw [if_pos e1] at h
      subst e1
      refine x_aload_n (pc' := 1) rfl rfl rfl ?_
      refine x_get (pc' := 4) rfl rfl rfl (hS.1) rfl ?_
      refine x_iload_n (pc' := 5) rfl rfl rfl ?_
      refine x_cV1i (d := 1) (pc' := 8) rfl rfl sX5_90 gX3_has (hT.1) ⟨Nat.le_of_ble_eq_true rfl, Nat.le_of_ble_eq_true rfl⟩ (Nat.le_of_ble_eq_true rfl) ⟨Nat.le_of_ble_eq_true rfl, Nat.le_of_ble_eq_true rfl⟩ ?_
      refine w_has hT (fun _ => ⟨_, rfl, ?_⟩) (fun g => absurd hhas g)
      refine x_if_ne (tgt := 17) (pc' := 11) rfl rfl rfl (fun _ => ?_) (fun c8 => absurd c8 ((by decide)))
      refine x_iload_n (pc' := 18) rfl rfl rfl ?_
      refine x_tableIn (tgt := 57) rfl (by decide) (by decide) rfl rfl ?_
      refine x_aload_n (pc' := 58) rfl rfl rfl ?_
      refine x_get (pc' := 61) rfl rfl rfl (hS.1) rfl ?_
      refine x_iload_n (pc' := 62) rfl rfl rfl ?_
      refine x_cV1i (d := 2) (pc' := 65) rfl rfl sX5_96 gX3_beansOf (hT.1) ⟨Nat.le_of_ble_eq_true rfl, Nat.le_of_ble_eq_true rfl⟩ (Nat.le_of_ble_eq_true rfl) ⟨Nat.le_of_ble_eq_true rfl, Nat.le_of_ble_eq_true rfl⟩ ?_
      refine w_beansOf hT (fun _ => ⟨_, rfl, ?_⟩) (fun g => absurd hhas g)
      refine x_eqi (show (S.2.1 0).2.1 (nI k).toNatClampNeg = nI (g_β (a_g A) k) from by rw [hcl, t2]) ?_
      exact x_ireturn rfl rfl rfl (Nat.le_of_ble_eq_true rfl) (Nat.le_of_ble_eq_true rfl) (h _ _ hS hA x_fr.rf)
    rw [if_neg e1] at h
    by_cases e2 : b = 2
    · rw [if_pos e2] at h
      subst e2
      refine x_aload_n (pc' := 1) rfl rfl rfl ?_
      refine x_get (pc' := 4) rfl rfl rfl (hS.1) rfl ?_
      refine x_iload_n (pc' := 5) rfl rfl rfl ?_
      refine x_cV1i (d := 1) (pc' := 8) rfl rfl sX5_90 gX3_has (hT.1) ⟨Nat.le_of_ble_eq_true rfl, Nat.le_of_ble_eq_true rfl⟩ (Nat.le_of_ble_eq_true rfl) ⟨Nat.le_of_ble_eq_true rfl, Nat.le_of_ble_eq_true rfl⟩ ?_
      refine w_has hT (fun _ => ⟨_, rfl, ?_⟩) (fun g => absurd hhas g)
      refine x_if_ne (tgt := 17) (pc' := 11) rfl rfl rfl (fun _ => ?_) (fun c8 => absurd c8 ((by decide)))
      refine x_iload_n (pc' := 18) rfl rfl rfl ?_
      refine x_tableIn (tgt := 66) rfl (by decide) (by decide) rfl rfl ?_
      refine x_aload_n (pc' := 67) rfl rfl rfl ?_
      refine x_get (pc' := 70) rfl rfl rfl (hS.1) rfl ?_
      refine x_iload_n (pc' := 71) rfl rfl rfl ?_
      refine x_cV1i (d := 2) (pc' := 74) rfl rfl sX5_99 gX3_soundsFrom (hT.1) ⟨Nat.le_of_ble_eq_true rfl, Nat.le_of_ble_eq_true rfl⟩ (Nat.le_of_ble_eq_true rfl) ⟨Nat.le_of_ble_eq_true rfl, Nat.le_of_ble_eq_true rfl⟩ ?_
      refine w_sounds hT t4 a1 t5 (by omega) t1 a5 hk ⟨_, rfl, ?_⟩
      exact x_ireturn rfl rfl rfl (Nat.le_of_ble_eq_true rfl) (Nat.le_of_ble_eq_true rfl) (h _ _ hS hA x_fr.rf)
    rw [if_neg e2] at h
    by_cases e3 : b = 3
    · rw [if_pos e3] at h
      subst e3
      refine x_aload_n (pc' := 1) rfl rfl rfl ?_
      refine x_get (pc' := 4) rfl rfl rfl (hS.1) rfl ?_
      refine x_iload_n (pc' := 5) rfl rfl rfl ?_
      refine x_cV1i (d := 1) (pc' := 8) rfl rfl sX5_90 gX3_has (hT.1) ⟨Nat.le_of_ble_eq_true rfl, Nat.le_of_ble_eq_true rfl⟩ (Nat.le_of_ble_eq_true rfl) ⟨Nat.le_of_ble_eq_true rfl, Nat.le_of_ble_eq_true rfl⟩ ?_
      refine w_has hT (fun _ => ⟨_, rfl, ?_⟩) (fun g => absurd hhas g)
      refine x_if_ne (tgt := 17) (pc' := 11) rfl rfl rfl (fun _ => ?_) (fun c8 => absurd c8 ((by decide)))
      refine x_iload_n (pc' := 18) rfl rfl rfl ?_
      refine x_tableIn (tgt := 75) rfl (by decide) (by decide) rfl rfl ?_
      refine x_aload_n (pc' := 76) rfl rfl rfl ?_
      refine x_get (pc' := 79) rfl rfl rfl (hS.1) rfl ?_
      refine x_iload_n (pc' := 80) rfl rfl rfl ?_
      refine x_cV1i (d := 2) (pc' := 83) rfl rfl sX5_102 gX3_takes (hT.1) ⟨Nat.le_of_ble_eq_true rfl, Nat.le_of_ble_eq_true rfl⟩ (Nat.le_of_ble_eq_true rfl) ⟨Nat.le_of_ble_eq_true rfl, Nat.le_of_ble_eq_true rfl⟩ ?_
      refine w_takes hT t4 a1 t5 (by omega) t1 t2 a5 (fun i => Nat.le_trans (a6 i) (by decide)) hk (fun d => ⟨_, rfl, ?_⟩) (fun d => ⟨_, rfl, ?_⟩)
      · rw [if_pos d] at h
        refine x_if_eq (tgt := 90) (pc' := 86) rfl rfl rfl (fun c83 => absurd c83 ((by decide))) (fun _ => ?_)
        refine x_iconst (pc' := 87) rfl rfl iconst_1 ?_
        refine x_goto (tgt := 91) rfl rfl ?_
        exact x_ireturn rfl rfl rfl (Nat.le_of_ble_eq_true rfl) (Nat.le_of_ble_eq_true rfl) (h _ _ hS hA x_fr.rf)
      · rw [if_neg d] at h
        refine x_if_eq (tgt := 90) (pc' := 86) rfl rfl rfl (fun _ => ?_) (fun c83 => absurd ((by decide)) c83)
        refine x_iconst (pc' := 91) rfl rfl iconst_0 ?_
        exact x_ireturn rfl rfl rfl (Nat.le_of_ble_eq_true rfl) (Nat.le_of_ble_eq_true rfl) (h _ _ hS hA x_fr.rf)
    rw [if_neg e3] at h
    refine x_aload_n (pc' := 1) rfl rfl rfl ?_
    refine x_get (pc' := 4) rfl rfl rfl (hS.1) rfl ?_
    refine x_iload_n (pc' := 5) rfl rfl rfl ?_
    refine x_cV1i (d := 1) (pc' := 8) rfl rfl sX5_90 gX3_has (hT.1) ⟨Nat.le_of_ble_eq_true rfl, Nat.le_of_ble_eq_true rfl⟩ (Nat.le_of_ble_eq_true rfl) ⟨Nat.le_of_ble_eq_true rfl, Nat.le_of_ble_eq_true rfl⟩ ?_
    refine w_has hT (fun _ => ⟨_, rfl, ?_⟩) (fun g => absurd hhas g)
    refine x_if_ne (tgt := 17) (pc' := 11) rfl rfl rfl (fun _ => ?_) (fun c8 => absurd c8 ((by decide)))
    refine x_iload_n (pc' := 18) rfl rfl rfl ?_
    refine x_tableOut (tgt := 92) rfl (x_tab_out (fun q h1 h2 => (by have h3 : q = 0 ∨ q = 1 ∨ q = 2 ∨ q = 3 := (by omega); rcases h3 with rfl | rfl | rfl | rfl <;> assumption))) rfl ?_
    refine x_aload_n (pc' := 93) rfl rfl rfl ?_
    refine x_bipush (pc' := 95) rfl rfl bipush_m2 ?_
    refine x_cV1i (d := 1) (pc' := 98) rfl rfl sX5_68 gX5_refuse (hS.1) ⟨Nat.le_of_ble_eq_true rfl, Nat.le_of_ble_eq_true rfl⟩ (Nat.le_of_ble_eq_true rfl) ⟨Nat.le_of_ble_eq_true rfl, Nat.le_of_ble_eq_true rfl⟩ ?_
    refine c_refuse (k := 2) (by decide) (by decide) hS hA (fun f1 S1 hS1 hA1 hF1 => ⟨_, rfl, ?_⟩)
    exact x_ireturn rfl rfl rfl (Nat.le_of_ble_eq_true rfl) (Nat.le_of_ble_eq_true rfl) (h _ _ hS1 hA1 hF1)
  · rw [show s_bowl A a b = _ from if_neg d1] at h
    refine x_aload_n (pc' := 1) rfl rfl rfl ?_
    refine x_get (pc' := 4) rfl rfl rfl (hS.1) rfl ?_
    refine x_iload_n (pc' := 5) rfl rfl rfl ?_
    refine x_cV1i (d := 1) (pc' := 8) rfl rfl sX5_90 gX3_has (hT.1) ⟨Nat.le_of_ble_eq_true rfl, Nat.le_of_ble_eq_true rfl⟩ (Nat.le_of_ble_eq_true rfl) ⟨Nat.le_of_ble_eq_true rfl, Nat.le_of_ble_eq_true rfl⟩ ?_
    refine c_has hS hA ho (fun g => absurd g d1) (fun g => ⟨_, rfl, ?_⟩)
    refine x_if_ne (tgt := 17) (pc' := 11) rfl rfl rfl (fun c8 => absurd ((by decide)) c8) (fun _ => ?_)
    refine x_aload_n (pc' := 12) rfl rfl rfl ?_
    refine x_iconst (pc' := 13) rfl rfl iconst_m1 ?_
    refine x_cV1i (d := 1) (pc' := 16) rfl rfl sX5_68 gX5_refuse (hS.1) ⟨Nat.le_of_ble_eq_true rfl, Nat.le_of_ble_eq_true rfl⟩ (Nat.le_of_ble_eq_true rfl) ⟨Nat.le_of_ble_eq_true rfl, Nat.le_of_ble_eq_true rfl⟩ ?_
    refine c_refuse (k := 1) (by decide) (by decide) hS hA (fun f1 S1 hS1 hA1 hF1 => ⟨_, rfl, ?_⟩)
    exact x_ireturn rfl rfl rfl (Nat.le_of_ble_eq_true rfl) (Nat.le_of_ble_eq_true rfl) (h _ _ hS1 hA1 hF1)
theorem c_tryMove {k : Nat} (hS : x_Sys z f S) (hA : c_is S A) (ho : a_ok A) (hk2 : k < 2 ^ 31) (h1 : g_can (a_g A) k → ∀ (f' : x_H) (T' : x_T), x_Sys z f' (S.1, x_ut S.2.1 2 T', S.2.2.1, S.2.2.2) → t_is T' (g_mv (a_g A) k) → T'.2.2.2 5 = nI (g_v (a_g A) k).2.1 → T'.2.2.2 6 = q_lI (g_v (a_g A) k).2.2.2 → T'.2.2.2 7 = nI (g_v (a_g A) k).2.2.1 → T'.2.2.2 8 = (if q_tk1 (g_v (a_g A) k).1 (g_π (a_g A) (g_t (a_g A))) (g_v (a_g A) k).2.2.2 = true then 1 else 0) → x_fr (fun q => 59 ≤ q) f f' → post (some (.int 1)) f') (h0 : ¬ g_can (a_g A) k → post (some (.int 0)) f) : Y E 5 mX5_tryMove [.ref 0, .int (nI k)] z f 0 0 post := by
  refine Y.intro gX5_tryMove (lv := [(0, .ref 0), (1, .int (nI k))]) rfl (Nat.le_of_ble_eq_true rfl) ?_
  obtain ⟨b1, b2, b3, b4, b5, b6, b7, b8⟩ := id hA
  have hT := hS.2.1 0 (by decide)
  refine x_aload_n (pc' := 1) rfl rfl rfl ?_
  refine x_get (pc' := 4) rfl rfl rfl (hS.1) rfl ?_
  refine x_iload_n (pc' := 5) rfl rfl rfl ?_
  refine x_cV1i (d := 2) (pc' := 8) rfl rfl sX5_118 gX3_canMove (hT.1) ⟨Nat.le_of_ble_eq_true rfl, Nat.le_of_ble_eq_true rfl⟩ (Nat.le_of_ble_eq_true rfl) ⟨Nat.le_of_ble_eq_true rfl, Nat.le_of_ble_eq_true rfl⟩ ?_
  refine w_can hT b1 ho.1 (by decide) hk2 (fun d2 => ⟨_, rfl, ?_⟩) (fun d2 => ⟨_, rfl, ?_⟩)
  · refine x_if_ne (tgt := 13) (pc' := 11) rfl rfl rfl (fun _ => ?_) (fun c8 => absurd c8 (by decide))
    refine x_aload_n (pc' := 14) rfl rfl rfl ?_
    refine x_get (pc' := 17) rfl rfl rfl (hS.1) rfl ?_
    refine x_aload_n (pc' := 18) rfl rfl rfl ?_
    refine x_get (pc' := 21) rfl rfl rfl (hS.1) rfl ?_
    refine x_cV1v (d := 1) (pc' := 24) rfl rfl sX5_79 gX3_copyFrom ((hS.2.1 2 (by decide)).1) ⟨Nat.le_of_ble_eq_true rfl, Nat.le_of_ble_eq_true rfl⟩ (Nat.le_of_ble_eq_true rfl) ⟨Nat.le_of_ble_eq_true rfl, Nat.le_of_ble_eq_true rfl⟩ ?_
    refine w_copyFrom (hS.2.1 2 (by decide)) hT (by decide) (fun f1 hT1 hF1 => ⟨rfl, ?_⟩)
    have hS1 := hS.tab 2 (by decide) hT1 hF1
    refine x_aload_n (pc' := 25) rfl rfl rfl ?_
    refine x_get (pc' := 28) rfl rfl rfl (hS1.1) rfl ?_
    refine x_iload_n (pc' := 29) rfl rfl rfl ?_
    refine x_cV1v (d := 4) (pc' := 32) rfl rfl sX5_124 gX3_makeMove (hT1.1) ⟨Nat.le_of_ble_eq_true rfl, Nat.le_of_ble_eq_true rfl⟩ (Nat.le_of_ble_eq_true rfl) ⟨Nat.le_of_ble_eq_true rfl, Nat.le_of_ble_eq_true rfl⟩ ?_
    refine w_move hT1 (x_cp_is b1) ho.1 (by decide) d2.2.1 (fun f2 T2 hT2 g1 g4 g5 g6 g7 g8 hF2 => ⟨rfl, ?_⟩)
    have hS2 := hS.tab 2 (by decide) hT2 (hF1.trans hF2)
    refine x_iconst (pc' := 33) rfl rfl iconst_1 ?_
    exact x_ireturn rfl rfl rfl (Nat.le_of_ble_eq_true rfl) (Nat.le_of_ble_eq_true rfl) (h1 d2 _ T2 hS2 g1 g5 g6 g7 g8 (c_fr0 (j := 2) (by decide) (hF1.trans hF2)))
  · refine x_if_ne (tgt := 13) (pc' := 11) rfl rfl rfl (fun c8 => absurd (by decide) c8) (fun _ => ?_)
    refine x_iconst (pc' := 12) rfl rfl iconst_0 ?_
    exact x_ireturn rfl rfl rfl (Nat.le_of_ble_eq_true rfl) (Nat.le_of_ble_eq_true rfl) (h0 d2)
end CA
end
section
-- == 40.classB
/-! The class's calls that make moves in mind; the picture; counts. -/
theorem i_tab {b : Int32} {n : Nat} (h : ∀ k : Nat, k ≤ n → b ≠ nI k) : b.toInt < 0 ∨ (n : Int) < b.toInt := x_tab_out (fun q h1 h2 => by
  obtain ⟨k, rfl⟩ : ∃ k : Nat, q = k := ⟨q.toNat, by omega⟩
  exact h k (by omega))
/-- the row is played: made, state -/
def q_plays (rf : Nat → Nat) : Nat → Nat → q_G → Nat × q_G
  | 0, i, g => (i, g)
  | k + 1, i, g => if g_can g (rf i) then q_plays rf k (i + 1) (g_mv g (rf i)) else (i, g)
theorem q_plays_ok {rf : Nat → Nat} {C : Nat} (hC : 99 ≤ C) (hC2 : C ≤ 100) : ∀ (k i : Nat) (g : q_G), g_ok C g → g_ok C (q_plays rf k i g).2 ∧ i ≤ (q_plays rf k i g).1 ∧ (q_plays rf k i g).1 ≤ i + k
  | 0, i, g, h => ⟨h, Nat.le_refl _, Nat.le_refl _⟩
  | k + 1, i, g, h => by
    unfold q_plays
    split
    · rename_i hc
      have h2 := q_plays_ok hC hC2 (rf := rf) k (i + 1) (g_mv g (rf i)) (g_mv_ok h hC hC2 hc.2.1)
      exact ⟨h2.1, by omega, by omega⟩
    · exact ⟨h, Nat.le_refl _, by omega⟩
def g_flip (g : q_G) : q_G := (g.1, g.2.1, g.2.2.1, g_n g, g_f g, g_l g, 1 - g_t g)
theorem g_flip_ok {C : Nat} {g : q_G} (h : g_ok C g) : g_ok C (g_flip g) := ⟨h.1, h.2.1, h.2.2.1, (by show 1 - g_t g ≤ 1; omega), h.2.2.2.2⟩
def q_z (z : Int32) : Int32 := z * 1664525 + 1013904223
def q_zb (z : Int32) (n : Nat) : Nat := z.toBitVec.toNat % 2 ^ 31 / 256 % n
/-- a game by lot -/
def q_lot : Nat → Int32 → q_G → Int32 × q_G
  | 0, z, g => (z, g)
  | k + 1, z, g => q_lot k (q_z z) (if g_can g (q_zb (q_z z) (g_n g)) then g_mv g (q_zb (q_z z) (g_n g)) else g_flip g)
def q_lotN (z : Int32) (n : Nat) : Nat := q_zb z n
section CB
variable {E : x_E} {z : Nat} {f : x_H} {S : x_S} {A : q_A} {post : Option Value → x_H → Prop} {a b : Int32}
theorem c_tr {T : x_T} (h : c_is S A) : c_is (S.1, x_ut S.2.1 2 T, S.2.2.1, S.2.2.2) A := h.sc (c_sc.tab (by decide) (by decide))
theorem c_by (hS : x_Sys z f S) (hA : c_is S A) (ho : a_ok A) (h : c_ends z f post (s_by A a b)) : Y E 9 mX5_by [.ref 0, .int a, .int b] z f 0 0 post := by
  refine Y.intro gX5_by (lv := [(0, .ref 0), (1, .int a), (2, .int b)]) rfl (Nat.le_of_ble_eq_true rfl) ?_
  obtain ⟨b1, b2, b3, b4, b5, b6, b7, b8⟩ := id hA
  have hT := hS.2.1 0 (by decide)
  by_cases d1 : q_in (g_n (a_g A)) a
  · obtain ⟨k, hk, hk2, rfl, hcl⟩ := q_in_k d1
    have hhas := t_has_nI (T := S.2.1 0) b1.2.2.2.1 ho.1.1 hk
    rw [show s_by A (nI k) b = _ from if_pos d1, hcl] at h
    by_cases e0 : b < 0
    · rw [if_pos (Or.inl e0)] at h
      refine x_aload_n (pc' := 1) rfl rfl rfl ?_
      refine x_get (pc' := 4) rfl rfl rfl (hS.1) rfl ?_
      refine x_iload_n (pc' := 5) rfl rfl rfl ?_
      refine x_cV1i (d := 1) (pc' := 8) rfl rfl sX5_90 gX3_has (hT.1) ⟨Nat.le_of_ble_eq_true rfl, Nat.le_of_ble_eq_true rfl⟩ (Nat.le_of_ble_eq_true rfl) ⟨Nat.le_of_ble_eq_true rfl, Nat.le_of_ble_eq_true rfl⟩ ?_
      refine w_has hT (fun _ => ⟨_, rfl, ?_⟩) (fun g => absurd hhas g)
      refine x_if_ne (tgt := 17) (pc' := 11) rfl rfl rfl (fun _ => ?_) (fun c8 => absurd c8 ((by decide)))
      refine x_iload_n (pc' := 18) rfl rfl rfl ?_
      refine x_if_lt (tgt := 26) (pc' := 21) rfl rfl rfl (fun _ => ?_) (fun c18 => absurd (e0) c18)
      refine x_aload_n (pc' := 27) rfl rfl rfl ?_
      refine x_bipush (pc' := 29) rfl rfl bipush_m2 ?_
      refine x_cV1i (d := 1) (pc' := 32) rfl rfl sX5_68 gX5_refuse (hS.1) ⟨Nat.le_of_ble_eq_true rfl, Nat.le_of_ble_eq_true rfl⟩ (Nat.le_of_ble_eq_true rfl) ⟨Nat.le_of_ble_eq_true rfl, Nat.le_of_ble_eq_true rfl⟩ ?_
      refine c_refuse (k := 2) (by decide) (by decide) hS hA (fun f1 S1 hS1 hA1 hF1 => ⟨_, rfl, ?_⟩)
      exact x_ireturn rfl rfl rfl (Nat.le_of_ble_eq_true rfl) (Nat.le_of_ble_eq_true rfl) (h _ _ hS1 hA1 hF1)
    by_cases e4 : 4 < b
    · rw [if_pos (Or.inr e4)] at h
      refine x_aload_n (pc' := 1) rfl rfl rfl ?_
      refine x_get (pc' := 4) rfl rfl rfl (hS.1) rfl ?_
      refine x_iload_n (pc' := 5) rfl rfl rfl ?_
      refine x_cV1i (d := 1) (pc' := 8) rfl rfl sX5_90 gX3_has (hT.1) ⟨Nat.le_of_ble_eq_true rfl, Nat.le_of_ble_eq_true rfl⟩ (Nat.le_of_ble_eq_true rfl) ⟨Nat.le_of_ble_eq_true rfl, Nat.le_of_ble_eq_true rfl⟩ ?_
      refine w_has hT (fun _ => ⟨_, rfl, ?_⟩) (fun g => absurd hhas g)
      refine x_if_ne (tgt := 17) (pc' := 11) rfl rfl rfl (fun _ => ?_) (fun c8 => absurd c8 ((by decide)))
      refine x_iload_n (pc' := 18) rfl rfl rfl ?_
      refine x_if_lt (tgt := 26) (pc' := 21) rfl rfl rfl (fun c18 => absurd c18 (e0)) (fun _ => ?_)
      refine x_iload_n (pc' := 22) rfl rfl rfl ?_
      refine x_iconst (pc' := 23) rfl rfl iconst_4 ?_
      refine x_icmp_le (tgt := 33) (pc' := 26) rfl rfl rfl (fun c23 => absurd c23 (Int32.not_le.mpr e4)) (fun _ => ?_)
      refine x_aload_n (pc' := 27) rfl rfl rfl ?_
      refine x_bipush (pc' := 29) rfl rfl bipush_m2 ?_
      refine x_cV1i (d := 1) (pc' := 32) rfl rfl sX5_68 gX5_refuse (hS.1) ⟨Nat.le_of_ble_eq_true rfl, Nat.le_of_ble_eq_true rfl⟩ (Nat.le_of_ble_eq_true rfl) ⟨Nat.le_of_ble_eq_true rfl, Nat.le_of_ble_eq_true rfl⟩ ?_
      refine c_refuse (k := 2) (by decide) (by decide) hS hA (fun f1 S1 hS1 hA1 hF1 => ⟨_, rfl, ?_⟩)
      exact x_ireturn rfl rfl rfl (Nat.le_of_ble_eq_true rfl) (Nat.le_of_ble_eq_true rfl) (h _ _ hS1 hA1 hF1)
    rw [if_neg (fun q => q.elim e0 e4)] at h
    obtain ⟨kb, hkb, rfl⟩ := nI_of2 (n := 4) (M := 4) rfl e0 (Int32.not_lt.mp e4)
    have hkb5 : kb = 0 ∨ kb = 1 ∨ kb = 2 ∨ kb = 3 ∨ kb = 4 := by omega
    refine x_aload_n (pc' := 1) rfl rfl rfl ?_
    refine x_get (pc' := 4) rfl rfl rfl (hS.1) rfl ?_
    refine x_iload_n (pc' := 5) rfl rfl rfl ?_
    refine x_cV1i (d := 1) (pc' := 8) rfl rfl sX5_90 gX3_has (hT.1) ⟨Nat.le_of_ble_eq_true rfl, Nat.le_of_ble_eq_true rfl⟩ (Nat.le_of_ble_eq_true rfl) ⟨Nat.le_of_ble_eq_true rfl, Nat.le_of_ble_eq_true rfl⟩ ?_
    refine w_has hT (fun _ => ⟨_, rfl, ?_⟩) (fun g => absurd hhas g)
    refine x_if_ne (tgt := 17) (pc' := 11) rfl rfl rfl (fun _ => ?_) (fun c8 => absurd c8 ((by decide)))
    refine x_iload_n (pc' := 18) rfl rfl rfl ?_
    refine x_if_lt (tgt := 26) (pc' := 21) rfl rfl rfl (fun c18 => absurd c18 (e0)) (fun _ => ?_)
    refine x_iload_n (pc' := 22) rfl rfl rfl ?_
    refine x_iconst (pc' := 23) rfl rfl iconst_4 ?_
    refine x_icmp_le (tgt := 33) (pc' := 26) rfl rfl rfl (fun _ => ?_) (fun c23 => absurd (Int32.not_lt.mp e4) c23)
    refine x_aload_n (pc' := 34) rfl rfl rfl ?_
    refine x_iload_n (pc' := 35) rfl rfl rfl ?_
    refine x_cV1i (d := 5) (pc' := 38) rfl rfl sX5_131 gX5_tryMove (hS.1) ⟨Nat.le_of_ble_eq_true rfl, Nat.le_of_ble_eq_true rfl⟩ (Nat.le_of_ble_eq_true rfl) ⟨Nat.le_of_ble_eq_true rfl, Nat.le_of_ble_eq_true rfl⟩ ?_
    refine c_tryMove hS hA ho hk2 (fun d2 f1 T1 hS1 g1 g5 g6 g7 g8 hF1 => ⟨_, rfl, ?_⟩) (fun d2 => ⟨_, rfl, ?_⟩)
    · have hT1 : x_t z f1 9 T1 := hS1.2.1 2 (by decide)
      have hA1 := c_tr (T := T1) hA
      rw [if_pos ⟨d2.1, d2.2.2⟩] at h
      rcases hkb5 with rfl | rfl | rfl | rfl | rfl
      · rw [if_pos (by decide)] at h
        refine x_if_ne (tgt := 48) (pc' := 41) rfl rfl rfl (fun _ => ?_) (fun c38 => absurd c38 ((by decide)))
        refine x_iload_n (pc' := 49) rfl rfl rfl ?_
        refine x_tableIn (tgt := 80) rfl (by decide) (by decide) rfl rfl ?_
        refine x_aload_n (pc' := 81) rfl rfl rfl ?_
        refine x_get (pc' := 84) rfl rfl rfl (hS1.1) rfl ?_
        refine x_get (pc' := 87) rfl rfl rfl (hT1.1) rfl ?_
        exact x_ireturn rfl rfl rfl (Nat.le_of_ble_eq_true rfl) (Nat.le_of_ble_eq_true rfl) (by rw [g5]; exact h _ _ hS1 hA1 hF1)
      · rw [if_neg (by decide), if_pos (by decide)] at h
        refine x_if_ne (tgt := 48) (pc' := 41) rfl rfl rfl (fun _ => ?_) (fun c38 => absurd c38 ((by decide)))
        refine x_iload_n (pc' := 49) rfl rfl rfl ?_
        refine x_tableIn (tgt := 88) rfl (by decide) (by decide) rfl rfl ?_
        refine x_aload_n (pc' := 89) rfl rfl rfl ?_
        refine x_get (pc' := 92) rfl rfl rfl (hS1.1) rfl ?_
        refine x_get (pc' := 95) rfl rfl rfl (hT1.1) rfl ?_
        exact x_ireturn rfl rfl rfl (Nat.le_of_ble_eq_true rfl) (Nat.le_of_ble_eq_true rfl) (by rw [g6]; exact h _ _ hS1 hA1 hF1)
      · rw [if_neg (by decide), if_neg (by decide), if_pos (by decide)] at h
        refine x_if_ne (tgt := 48) (pc' := 41) rfl rfl rfl (fun _ => ?_) (fun c38 => absurd c38 ((by decide)))
        refine x_iload_n (pc' := 49) rfl rfl rfl ?_
        refine x_tableIn (tgt := 96) rfl (by decide) (by decide) rfl rfl ?_
        refine x_aload_n (pc' := 97) rfl rfl rfl ?_
        refine x_get (pc' := 100) rfl rfl rfl (hS1.1) rfl ?_
        refine x_get (pc' := 103) rfl rfl rfl (hT1.1) rfl ?_
        exact x_ireturn rfl rfl rfl (Nat.le_of_ble_eq_true rfl) (Nat.le_of_ble_eq_true rfl) (by rw [g7]; exact h _ _ hS1 hA1 hF1)
      · rw [if_neg (by decide), if_neg (by decide), if_neg (by decide), if_pos (by decide)] at h
        refine x_if_ne (tgt := 48) (pc' := 41) rfl rfl rfl (fun _ => ?_) (fun c38 => absurd c38 ((by decide)))
        refine x_iload_n (pc' := 49) rfl rfl rfl ?_
        refine x_tableIn (tgt := 104) rfl (by decide) (by decide) rfl rfl ?_
        refine x_aload_n (pc' := 105) rfl rfl rfl ?_
        refine x_get (pc' := 108) rfl rfl rfl (hS1.1) rfl ?_
        refine x_get (pc' := 111) rfl rfl rfl (hT1.1) rfl ?_
        exact x_ireturn rfl rfl rfl (Nat.le_of_ble_eq_true rfl) (Nat.le_of_ble_eq_true rfl) (by rw [g8]; exact h _ _ hS1 hA1 hF1)
      · rw [if_neg (by decide), if_neg (by decide), if_neg (by decide), if_neg (by decide)] at h
        refine x_if_ne (tgt := 48) (pc' := 41) rfl rfl rfl (fun _ => ?_) (fun c38 => absurd c38 ((by decide)))
        refine x_iload_n (pc' := 49) rfl rfl rfl ?_
        refine x_tableOut (tgt := 112) rfl ((by decide)) rfl ?_
        refine x_aload_n (pc' := 113) rfl rfl rfl ?_
        refine x_get (pc' := 116) rfl rfl rfl (hS1.1) rfl ?_
        refine x_cV0i (d := 3) (pc' := 119) rfl rfl sX5_143 gX3_allBeans (hT1.1) ⟨Nat.le_of_ble_eq_true rfl, Nat.le_of_ble_eq_true rfl⟩ (Nat.le_of_ble_eq_true rfl) ⟨Nat.le_of_ble_eq_true rfl, Nat.le_of_ble_eq_true rfl⟩ ?_
        refine w_allBeans hT1 g1.2.2.2.1 ho.1.1 ⟨_, rfl, ?_⟩
        refine x_eqi (show x_sum T1.2.1 (g_n (g_mv (a_g A) k)) = nI (q_sum (g_β (g_mv (a_g A) k)) (g_n (a_g A))) from by rw [g1.2.1, q_sum_I]; rfl) ?_
        exact x_ireturn rfl rfl rfl (Nat.le_of_ble_eq_true rfl) (Nat.le_of_ble_eq_true rfl) (h _ _ hS1 hA1 hF1)
    · rw [if_neg (fun q => d2 ⟨q.1, hk, q.2⟩)] at h
      refine x_if_ne (tgt := 48) (pc' := 41) rfl rfl rfl (fun c38 => absurd ((by decide)) c38) (fun _ => ?_)
      refine x_aload_n (pc' := 42) rfl rfl rfl ?_
      refine x_bipush (pc' := 44) rfl rfl bipush_m3 ?_
      refine x_cV1i (d := 1) (pc' := 47) rfl rfl sX5_68 gX5_refuse (hS.1) ⟨Nat.le_of_ble_eq_true rfl, Nat.le_of_ble_eq_true rfl⟩ (Nat.le_of_ble_eq_true rfl) ⟨Nat.le_of_ble_eq_true rfl, Nat.le_of_ble_eq_true rfl⟩ ?_
      refine c_refuse (k := 3) (by decide) (by decide) hS hA (fun f1 S1 hS1 hA1 hF1 => ⟨_, rfl, ?_⟩)
      exact x_ireturn rfl rfl rfl (Nat.le_of_ble_eq_true rfl) (Nat.le_of_ble_eq_true rfl) (h _ _ hS1 hA1 hF1)
  · rw [show s_by A a b = _ from if_neg d1] at h
    refine x_aload_n (pc' := 1) rfl rfl rfl ?_
    refine x_get (pc' := 4) rfl rfl rfl (hS.1) rfl ?_
    refine x_iload_n (pc' := 5) rfl rfl rfl ?_
    refine x_cV1i (d := 1) (pc' := 8) rfl rfl sX5_90 gX3_has (hT.1) ⟨Nat.le_of_ble_eq_true rfl, Nat.le_of_ble_eq_true rfl⟩ (Nat.le_of_ble_eq_true rfl) ⟨Nat.le_of_ble_eq_true rfl, Nat.le_of_ble_eq_true rfl⟩ ?_
    refine c_has hS hA ho (fun g => absurd g d1) (fun g => ⟨_, rfl, ?_⟩)
    refine x_if_ne (tgt := 17) (pc' := 11) rfl rfl rfl (fun c8 => absurd ((by decide)) c8) (fun _ => ?_)
    refine x_aload_n (pc' := 12) rfl rfl rfl ?_
    refine x_iconst (pc' := 13) rfl rfl iconst_m1 ?_
    refine x_cV1i (d := 1) (pc' := 16) rfl rfl sX5_68 gX5_refuse (hS.1) ⟨Nat.le_of_ble_eq_true rfl, Nat.le_of_ble_eq_true rfl⟩ (Nat.le_of_ble_eq_true rfl) ⟨Nat.le_of_ble_eq_true rfl, Nat.le_of_ble_eq_true rfl⟩ ?_
    refine c_refuse (k := 1) (by decide) (by decide) hS hA (fun f1 S1 hS1 hA1 hF1 => ⟨_, rfl, ?_⟩)
    exact x_ireturn rfl rfl rfl (Nat.le_of_ble_eq_true rfl) (Nat.le_of_ble_eq_true rfl) (h _ _ hS1 hA1 hF1)
theorem c_behind (hS : x_Sys z f S) (hA : c_is S A) (ho : a_ok A) (h : c_ends z f post (s_behind A a b)) : Y E 9 mX5_behind [.ref 0, .int a, .int b] z f 0 0 post := by
  refine Y.intro gX5_behind (lv := [(0, .ref 0), (1, .int a), (2, .int b)]) rfl (Nat.le_of_ble_eq_true rfl) ?_
  obtain ⟨b1, b2, b3, b4, b5, b6, b7, b8⟩ := id hA
  have hT := hS.2.1 0 (by decide)
  by_cases d1 : q_in (g_n (a_g A)) a
  · obtain ⟨k, hk, hk2, rfl, hcl⟩ := q_in_k d1
    have hhas := t_has_nI (T := S.2.1 0) b1.2.2.2.1 ho.1.1 hk
    by_cases d2 : q_in (g_n (a_g A)) b
    · obtain ⟨k', hk', hk2', rfl, hcl'⟩ := q_in_k d2
      have hhas' := t_has_nI (T := S.2.1 0) b1.2.2.2.1 ho.1.1 hk'
      rw [show s_behind A (nI k) (nI k') = _ from if_pos ⟨d1, d2⟩, hcl, hcl'] at h
      refine x_aload_n (pc' := 1) rfl rfl rfl ?_
      refine x_get (pc' := 4) rfl rfl rfl (hS.1) rfl ?_
      refine x_iload_n (pc' := 5) rfl rfl rfl ?_
      refine x_cV1i (d := 1) (pc' := 8) rfl rfl sX5_90 gX3_has (hT.1) ⟨Nat.le_of_ble_eq_true rfl, Nat.le_of_ble_eq_true rfl⟩ (Nat.le_of_ble_eq_true rfl) ⟨Nat.le_of_ble_eq_true rfl, Nat.le_of_ble_eq_true rfl⟩ ?_
      refine w_has hT (fun _ => ⟨_, rfl, ?_⟩) (fun g => absurd hhas g)
      refine x_if_eq (tgt := 22) (pc' := 11) rfl rfl rfl (fun c8 => absurd c8 ((by decide))) (fun _ => ?_)
      refine x_aload_n (pc' := 12) rfl rfl rfl ?_
      refine x_get (pc' := 15) rfl rfl rfl (hS.1) rfl ?_
      refine x_iload_n (pc' := 16) rfl rfl rfl ?_
      refine x_cV1i (d := 1) (pc' := 19) rfl rfl sX5_90 gX3_has (hT.1) ⟨Nat.le_of_ble_eq_true rfl, Nat.le_of_ble_eq_true rfl⟩ (Nat.le_of_ble_eq_true rfl) ⟨Nat.le_of_ble_eq_true rfl, Nat.le_of_ble_eq_true rfl⟩ ?_
      refine w_has hT (fun _ => ⟨_, rfl, ?_⟩) (fun g => absurd hhas' g)
      refine x_if_ne (tgt := 28) (pc' := 22) rfl rfl rfl (fun _ => ?_) (fun c19 => absurd c19 ((by decide)))
      refine x_aload_n (pc' := 29) rfl rfl rfl ?_
      refine x_iload_n (pc' := 30) rfl rfl rfl ?_
      refine x_cV1i (d := 5) (pc' := 33) rfl rfl sX5_131 gX5_tryMove (hS.1) ⟨Nat.le_of_ble_eq_true rfl, Nat.le_of_ble_eq_true rfl⟩ (Nat.le_of_ble_eq_true rfl) ⟨Nat.le_of_ble_eq_true rfl, Nat.le_of_ble_eq_true rfl⟩ ?_
      refine c_tryMove hS hA ho hk2 (fun d2 f1 T1 hS1 g1 g5 g6 g7 g8 hF1 => ⟨_, rfl, ?_⟩) (fun d2 => ⟨_, rfl, ?_⟩)
      · have hT1 : x_t z f1 9 T1 := hS1.2.1 2 (by decide)
        rw [if_pos ⟨d2.1, d2.2.2⟩] at h
        refine x_if_eq (tgt := 47) (pc' := 36) rfl rfl rfl (fun c33 => absurd c33 ((by decide))) (fun _ => ?_)
        refine x_aload_n (pc' := 37) rfl rfl rfl ?_
        refine x_get (pc' := 40) rfl rfl rfl (hS1.1) rfl ?_
        refine x_iload_n (pc' := 41) rfl rfl rfl ?_
        refine x_cV1i (d := 2) (pc' := 44) rfl rfl sX5_96 gX3_beansOf (hT1.1) ⟨Nat.le_of_ble_eq_true rfl, Nat.le_of_ble_eq_true rfl⟩ (Nat.le_of_ble_eq_true rfl) ⟨Nat.le_of_ble_eq_true rfl, Nat.le_of_ble_eq_true rfl⟩ ?_
        refine w_beansOf hT1 (fun g => ⟨_, rfl, ?_⟩) (fun g => absurd (t_has_nI (T := T1) (n := g_n (a_g A)) g1.2.2.2.1 ho.1.1 hk') g)
        refine x_eqi (show T1.2.1 (nI k').toNatClampNeg = nI (g_β (g_mv (a_g A) k) k') from by rw [hcl', g1.2.1]) ?_
        refine x_goto (tgt := 53) rfl rfl ?_
        exact x_ireturn rfl rfl rfl (Nat.le_of_ble_eq_true rfl) (Nat.le_of_ble_eq_true rfl) (h _ _ hS1 (c_tr hA) hF1)
      · rw [if_neg (fun q => d2 ⟨q.1, hk, q.2⟩)] at h
        refine x_if_eq (tgt := 47) (pc' := 36) rfl rfl rfl (fun _ => ?_) (fun c33 => absurd ((by decide)) c33)
        refine x_aload_n (pc' := 48) rfl rfl rfl ?_
        refine x_bipush (pc' := 50) rfl rfl bipush_m3 ?_
        refine x_cV1i (d := 1) (pc' := 53) rfl rfl sX5_68 gX5_refuse (hS.1) ⟨Nat.le_of_ble_eq_true rfl, Nat.le_of_ble_eq_true rfl⟩ (Nat.le_of_ble_eq_true rfl) ⟨Nat.le_of_ble_eq_true rfl, Nat.le_of_ble_eq_true rfl⟩ ?_
        refine c_refuse (k := 3) (by decide) (by decide) hS hA (fun f1 S1 hS1 hA1 hF1 => ⟨_, rfl, ?_⟩)
        exact x_ireturn rfl rfl rfl (Nat.le_of_ble_eq_true rfl) (Nat.le_of_ble_eq_true rfl) (h _ _ hS1 hA1 hF1)
    · rw [show s_behind A (nI k) b = _ from if_neg (fun q => d2 q.2)] at h
      refine x_aload_n (pc' := 1) rfl rfl rfl ?_
      refine x_get (pc' := 4) rfl rfl rfl (hS.1) rfl ?_
      refine x_iload_n (pc' := 5) rfl rfl rfl ?_
      refine x_cV1i (d := 1) (pc' := 8) rfl rfl sX5_90 gX3_has (hT.1) ⟨Nat.le_of_ble_eq_true rfl, Nat.le_of_ble_eq_true rfl⟩ (Nat.le_of_ble_eq_true rfl) ⟨Nat.le_of_ble_eq_true rfl, Nat.le_of_ble_eq_true rfl⟩ ?_
      refine w_has hT (fun _ => ⟨_, rfl, ?_⟩) (fun g => absurd hhas g)
      refine x_if_eq (tgt := 22) (pc' := 11) rfl rfl rfl (fun c8 => absurd c8 ((by decide))) (fun _ => ?_)
      refine x_aload_n (pc' := 12) rfl rfl rfl ?_
      refine x_get (pc' := 15) rfl rfl rfl (hS.1) rfl ?_
      refine x_iload_n (pc' := 16) rfl rfl rfl ?_
      refine x_cV1i (d := 1) (pc' := 19) rfl rfl sX5_90 gX3_has (hT.1) ⟨Nat.le_of_ble_eq_true rfl, Nat.le_of_ble_eq_true rfl⟩ (Nat.le_of_ble_eq_true rfl) ⟨Nat.le_of_ble_eq_true rfl, Nat.le_of_ble_eq_true rfl⟩ ?_
      refine c_has hS hA ho (fun g => absurd g d2) (fun g => ⟨_, rfl, ?_⟩)
      refine x_if_ne (tgt := 28) (pc' := 22) rfl rfl rfl (fun c19 => absurd ((by decide)) c19) (fun _ => ?_)
      refine x_aload_n (pc' := 23) rfl rfl rfl ?_
      refine x_iconst (pc' := 24) rfl rfl iconst_m1 ?_
      refine x_cV1i (d := 1) (pc' := 27) rfl rfl sX5_68 gX5_refuse (hS.1) ⟨Nat.le_of_ble_eq_true rfl, Nat.le_of_ble_eq_true rfl⟩ (Nat.le_of_ble_eq_true rfl) ⟨Nat.le_of_ble_eq_true rfl, Nat.le_of_ble_eq_true rfl⟩ ?_
      refine c_refuse (k := 1) (by decide) (by decide) hS hA (fun f1 S1 hS1 hA1 hF1 => ⟨_, rfl, ?_⟩)
      exact x_ireturn rfl rfl rfl (Nat.le_of_ble_eq_true rfl) (Nat.le_of_ble_eq_true rfl) (h _ _ hS1 hA1 hF1)
  · rw [show s_behind A a b = _ from if_neg (fun q => d1 q.1)] at h
    refine x_aload_n (pc' := 1) rfl rfl rfl ?_
    refine x_get (pc' := 4) rfl rfl rfl (hS.1) rfl ?_
    refine x_iload_n (pc' := 5) rfl rfl rfl ?_
    refine x_cV1i (d := 1) (pc' := 8) rfl rfl sX5_90 gX3_has (hT.1) ⟨Nat.le_of_ble_eq_true rfl, Nat.le_of_ble_eq_true rfl⟩ (Nat.le_of_ble_eq_true rfl) ⟨Nat.le_of_ble_eq_true rfl, Nat.le_of_ble_eq_true rfl⟩ ?_
    refine c_has hS hA ho (fun g => absurd g d1) (fun g => ⟨_, rfl, ?_⟩)
    refine x_if_eq (tgt := 22) (pc' := 11) rfl rfl rfl (fun _ => ?_) (fun c8 => absurd ((by decide)) c8)
    refine x_aload_n (pc' := 23) rfl rfl rfl ?_
    refine x_iconst (pc' := 24) rfl rfl iconst_m1 ?_
    refine x_cV1i (d := 1) (pc' := 27) rfl rfl sX5_68 gX5_refuse (hS.1) ⟨Nat.le_of_ble_eq_true rfl, Nat.le_of_ble_eq_true rfl⟩ (Nat.le_of_ble_eq_true rfl) ⟨Nat.le_of_ble_eq_true rfl, Nat.le_of_ble_eq_true rfl⟩ ?_
    refine c_refuse (k := 1) (by decide) (by decide) hS hA (fun f1 S1 hS1 hA1 hF1 => ⟨_, rfl, ?_⟩)
    exact x_ireturn rfl rfl rfl (Nat.le_of_ble_eq_true rfl) (Nat.le_of_ble_eq_true rfl) (h _ _ hS1 hA1 hF1)
/-- which bowls are empty -/
def q_bits (β : Nat → Nat) : Nat → Int32
  | 0 => 0
  | i + 1 => if β i = 0 then q_bits β i ||| ((1 : Int32) <<< (nI i &&& 31)) else q_bits β i
def s_empties (A : q_A) (a : Int32) : q_A × Int32 := if q_in (g_n (a_g A)) a then (if 2 ≤ g_n (a_g A) ∧ 0 < g_β (a_g A) a.toNatClampNeg then (A, q_bits (g_β (g_mv (a_g A) a.toNatClampNeg)) (g_n (a_g A))) else (s_no A 3, -3)) else (s_no A 1, -1)
theorem c_emptiesL {T : x_T} {n : Nat} {β : Nat → Nat} (hS : x_Sys z f S) (hT : x_t z f 9 T) (hn : T.2.2.2 0 = nI n) (hn9 : n ≤ 9) (hβ : T.2.1 = fun i => nI (β i)) (hβ5 : ∀ i, β i ≤ 100) (h : post (some (.int (q_bits β n))) f) : ∀ (k i : Nat), i + k = n → X E (x_rm 9 0 0) mX5_empties (x_QM E z 0 0 post) 36 [(3, .int (nI i)), (2, .int (q_bits β i)), (0, .ref 0), (1, .int a)] [] z f 0 0 := by
  intro k
  induction k with
  | zero =>
    intro i hi
    have hi2 : i = n := by omega
    subst hi2
    refine x_iload_n (pc' := 37) rfl rfl rfl ?_
    refine x_aload_n (pc' := 38) rfl rfl rfl ?_
    refine x_get (pc' := 41) rfl rfl rfl (hS.1) rfl ?_
    refine x_get (pc' := 44) rfl rfl rfl (hT.1) rfl ?_
    refine x_icmp_ge (tgt := 70) (pc' := 47) rfl rfl rfl (fun _ => ?_) (fun c44 => absurd ((by rw [hn]; exact Int32.le_refl _)) c44)
    refine x_iload_n (pc' := 71) rfl rfl rfl ?_
    exact x_ireturn rfl rfl rfl (Nat.le_of_ble_eq_true rfl) (Nat.le_of_ble_eq_true rfl) (h)
  | succ k ih =>
    intro i hi
    have hb := hβ5 i
    have e1 : q_bits β (i + 1) = if β i = 0 then q_bits β i ||| ((1 : Int32) <<< (nI i &&& 31)) else q_bits β i := rfl
    refine x_iload_n (pc' := 37) rfl rfl rfl ?_
    refine x_aload_n (pc' := 38) rfl rfl rfl ?_
    refine x_get (pc' := 41) rfl rfl rfl (hS.1) rfl ?_
    refine x_get (pc' := 44) rfl rfl rfl (hT.1) rfl ?_
    refine x_icmp_ge (tgt := 70) (pc' := 47) rfl rfl rfl (fun c44 => absurd c44 ((by rw [hn]; exact Int32.not_le.mpr (nI_lt (by omega) (by omega))))) (fun _ => ?_)
    refine x_aload_n (pc' := 48) rfl rfl rfl ?_
    refine x_get (pc' := 51) rfl rfl rfl (hS.1) rfl ?_
    refine x_iload_n (pc' := 52) rfl rfl rfl ?_
    refine x_cV1i (d := 2) (pc' := 55) rfl rfl sX5_96 gX3_beansOf (hT.1) ⟨Nat.le_of_ble_eq_true rfl, Nat.le_of_ble_eq_true rfl⟩ (Nat.le_of_ble_eq_true rfl) ⟨Nat.le_of_ble_eq_true rfl, Nat.le_of_ble_eq_true rfl⟩ ?_
    refine w_beansOf hT (fun g => ⟨_, rfl, ?_⟩) (fun g => absurd (t_has_nI hn hn9 (by omega)) g)
    refine x_eqi (show T.2.1 (nI i).toNatClampNeg = nI (β i) from by rw [nI_clamp (by omega), hβ]) ?_
    by_cases d : β i = 0
    · rw [if_pos d] at e1
      refine x_if_ne (tgt := 64) (pc' := 58) rfl rfl rfl (fun q => absurd (show nI (β i) = 0 by rw [d]; rfl) q) (fun _ => ?_)
      refine x_iload_n (pc' := 59) rfl rfl rfl ?_
      refine x_iconst (pc' := 60) rfl rfl iconst_1 ?_
      refine x_iload_n (pc' := 61) rfl rfl rfl ?_
      refine x_ishl (pc' := 62) rfl rfl ?_
      refine x_ior (pc' := 63) rfl rfl ?_
      refine x_istore_n (pc' := 64) (lv' := [(2, _), (3, _), (0, _), (1, _)]) rfl rfl (Nat.le_of_ble_eq_true rfl) rfl ?_
      refine x_iinc (pc' := 67) (lv' := [(3, _), (2, _), (0, _), (1, _)]) rfl rfl (Nat.le_of_ble_eq_true rfl) rfl (nI_1 i) rfl ?_
      refine x_goto (tgt := 36) rfl rfl ?_
      have h9 := ih (i + 1) (by omega)
      rw [e1] at h9
      exact h9
    · rw [if_neg d] at e1
      refine x_if_ne (tgt := 64) (pc' := 58) rfl rfl rfl (fun _ => ?_) (fun q => absurd q (nI_ne0 (by omega) (by omega)))
      refine x_iinc (pc' := 67) (lv' := [(3, _), (2, _), (0, _), (1, _)]) rfl rfl (Nat.le_of_ble_eq_true rfl) rfl (nI_1 i) rfl ?_
      refine x_goto (tgt := 36) rfl rfl ?_
      have h9 := ih (i + 1) (by omega)
      rw [e1] at h9
      exact h9
theorem c_empties (hS : x_Sys z f S) (hA : c_is S A) (ho : a_ok A) (h : c_ends z f post (s_empties A a)) : Y E 9 mX5_empties [.ref 0, .int a] z f 0 0 post := by
  refine Y.intro gX5_empties (lv := [(0, .ref 0), (1, .int a)]) rfl (Nat.le_of_ble_eq_true rfl) ?_
  obtain ⟨b1, b2, b3, b4, b5, b6, b7, b8⟩ := id hA
  have hT := hS.2.1 0 (by decide)
  by_cases d1 : q_in (g_n (a_g A)) a
  · obtain ⟨k, hk, hk2, rfl, hcl⟩ := q_in_k d1
    have hhas := t_has_nI (T := S.2.1 0) b1.2.2.2.1 ho.1.1 hk
    rw [show s_empties A (nI k) = _ from if_pos d1, hcl] at h
    refine x_aload_n (pc' := 1) rfl rfl rfl ?_
    refine x_get (pc' := 4) rfl rfl rfl (hS.1) rfl ?_
    refine x_iload_n (pc' := 5) rfl rfl rfl ?_
    refine x_cV1i (d := 1) (pc' := 8) rfl rfl sX5_90 gX3_has (hT.1) ⟨Nat.le_of_ble_eq_true rfl, Nat.le_of_ble_eq_true rfl⟩ (Nat.le_of_ble_eq_true rfl) ⟨Nat.le_of_ble_eq_true rfl, Nat.le_of_ble_eq_true rfl⟩ ?_
    refine w_has hT (fun _ => ⟨_, rfl, ?_⟩) (fun g => absurd hhas g)
    refine x_if_ne (tgt := 17) (pc' := 11) rfl rfl rfl (fun _ => ?_) (fun c8 => absurd c8 ((by decide)))
    refine x_aload_n (pc' := 18) rfl rfl rfl ?_
    refine x_iload_n (pc' := 19) rfl rfl rfl ?_
    refine x_cV1i (d := 5) (pc' := 22) rfl rfl sX5_131 gX5_tryMove (hS.1) ⟨Nat.le_of_ble_eq_true rfl, Nat.le_of_ble_eq_true rfl⟩ (Nat.le_of_ble_eq_true rfl) ⟨Nat.le_of_ble_eq_true rfl, Nat.le_of_ble_eq_true rfl⟩ ?_
    refine c_tryMove hS hA ho hk2 (fun d2 f1 T1 hS1 g1 g5 g6 g7 g8 hF1 => ⟨_, rfl, ?_⟩) (fun d2 => ⟨_, rfl, ?_⟩)
    · have hT1 : x_t z f1 9 T1 := hS1.2.1 2 (by decide)
      rw [if_pos ⟨d2.1, d2.2.2⟩] at h
      refine x_if_ne (tgt := 32) (pc' := 25) rfl rfl rfl (fun _ => ?_) (fun c22 => absurd c22 ((by decide)))
      refine x_iconst (pc' := 33) rfl rfl iconst_0 ?_
      refine x_istore_n (pc' := 34) (lv' := [(2, _), (0, _), (1, _)]) rfl rfl (Nat.le_of_ble_eq_true rfl) rfl ?_
      refine x_iconst (pc' := 35) rfl rfl iconst_0 ?_
      refine x_istore_n (pc' := 36) (lv' := [(3, _), (2, _), (0, _), (1, _)]) rfl rfl (Nat.le_of_ble_eq_true rfl) rfl ?_
      refine x_lvp [0, 1, 2, 3] rfl ?_
      exact c_emptiesL (n := g_n (a_g A)) (β := g_β (g_mv (a_g A) k)) hS1 hT1 g1.2.2.2.1 ho.1.1 g1.2.1 (fun i => (g_mv_ok (ho.1.mono (by decide : 99 ≤ 100)) (by decide) (by decide) d2.2.1).2.2.2.2.2.1 i) (h _ _ hS1 (c_tr hA) hF1) (g_n (a_g A)) 0 (by omega)
    · rw [if_neg (fun q => d2 ⟨q.1, hk, q.2⟩)] at h
      refine x_if_ne (tgt := 32) (pc' := 25) rfl rfl rfl (fun c22 => absurd ((by decide)) c22) (fun _ => ?_)
      refine x_aload_n (pc' := 26) rfl rfl rfl ?_
      refine x_bipush (pc' := 28) rfl rfl bipush_m3 ?_
      refine x_cV1i (d := 1) (pc' := 31) rfl rfl sX5_68 gX5_refuse (hS.1) ⟨Nat.le_of_ble_eq_true rfl, Nat.le_of_ble_eq_true rfl⟩ (Nat.le_of_ble_eq_true rfl) ⟨Nat.le_of_ble_eq_true rfl, Nat.le_of_ble_eq_true rfl⟩ ?_
      refine c_refuse (k := 3) (by decide) (by decide) hS hA (fun f1 S1 hS1 hA1 hF1 => ⟨_, rfl, ?_⟩)
      exact x_ireturn rfl rfl rfl (Nat.le_of_ble_eq_true rfl) (Nat.le_of_ble_eq_true rfl) (h _ _ hS1 hA1 hF1)
  · rw [show s_empties A a = _ from if_neg d1] at h
    refine x_aload_n (pc' := 1) rfl rfl rfl ?_
    refine x_get (pc' := 4) rfl rfl rfl (hS.1) rfl ?_
    refine x_iload_n (pc' := 5) rfl rfl rfl ?_
    refine x_cV1i (d := 1) (pc' := 8) rfl rfl sX5_90 gX3_has (hT.1) ⟨Nat.le_of_ble_eq_true rfl, Nat.le_of_ble_eq_true rfl⟩ (Nat.le_of_ble_eq_true rfl) ⟨Nat.le_of_ble_eq_true rfl, Nat.le_of_ble_eq_true rfl⟩ ?_
    refine c_has hS hA ho (fun g => absurd g d1) (fun g => ⟨_, rfl, ?_⟩)
    refine x_if_ne (tgt := 17) (pc' := 11) rfl rfl rfl (fun c8 => absurd ((by decide)) c8) (fun _ => ?_)
    refine x_aload_n (pc' := 12) rfl rfl rfl ?_
    refine x_iconst (pc' := 13) rfl rfl iconst_m1 ?_
    refine x_cV1i (d := 1) (pc' := 16) rfl rfl sX5_68 gX5_refuse (hS.1) ⟨Nat.le_of_ble_eq_true rfl, Nat.le_of_ble_eq_true rfl⟩ (Nat.le_of_ble_eq_true rfl) ⟨Nat.le_of_ble_eq_true rfl, Nat.le_of_ble_eq_true rfl⟩ ?_
    refine c_refuse (k := 1) (by decide) (by decide) hS hA (fun f1 S1 hS1 hA1 hF1 => ⟨_, rfl, ?_⟩)
    exact x_ireturn rfl rfl rfl (Nat.le_of_ble_eq_true rfl) (Nat.le_of_ble_eq_true rfl) (h _ _ hS1 hA1 hF1)
/-- the bowl that sows the most, how many -/
def q_lng (g : q_G) : Nat → Int32 × Nat
  | 0 => (-9, 0)
  | i + 1 => if g_can g i ∧ (q_lng g i).2 < (g_v g i).2.2.1 then (nI i, (g_v g i).2.2.1) else q_lng g i
theorem q_hands_s {κ : Nat → Nat} {n fu ln : Nat} : ∀ (k : Nat) (β : Nat → Nat) (b hs s : Nat) (l : Option Nat), b < n → (∀ i, β i ≤ 100) → (∀ p, l = some p → p < n) → (q_hands κ n fu ln k β b hs s l).2.2.1 ≤ s + 100 * k
  | 0, β, b, hs, s, l, hb, hβ, hl => Nat.le_refl _
  | k + 1, β, b, hs, s, l, hb, hβ, hl => by
    have h1 := q_hand_le (κ := κ) (n := n) (fu := fu) (ln := ln) (b := b) (l := l) (C := 100) (by decide) hβ
    have h2 := q_hand_l (κ := κ) (fu := fu) (ln := ln) hb hβ hl
    have h4 := h1.2
    rw [q_hands]
    split
    · rename_i hg
      obtain ⟨p, hp, hpn⟩ := h2.2 hg.1
      have h3 := q_hands_s (κ := κ) (fu := fu) (ln := ln) k (q_hand κ n fu ln β b l).1 ((q_hand κ n fu ln β b l).2.2.getD 0) (hs + 1) (s + (q_hand κ n fu ln β b l).2.1) (q_hand κ n fu ln β b l).2.2 (by rw [hp]; exact hpn) h1.1 h2.1
      omega
    · show s + (q_hand κ n fu ln β b l).2.1 ≤ _
      omega
theorem g_v_s {C : Nat} {g : q_G} {b : Nat} (h : g_ok C g) (hC2 : C ≤ 100) (hb : b < g_n g) : (g_v g b).2.2.1 ≤ 6000 := by
  unfold g_v q_mv
  split
  · have := q_hands_s (κ := g_κ g) (n := g_n g) (fu := g_f g) (ln := g_l g) 60 (g_β g) b 0 0 none hb (fun i => Nat.le_trans (h.2.2.2.2.2.1 i) hC2) (fun p hp => by cases hp)
    omega
  · exact Nat.zero_le _
theorem q_lng_le {C : Nat} {g : q_G} (h : g_ok C g) (hC2 : C ≤ 100) : ∀ i, (q_lng g i).2 ≤ 6000
  | 0 => Nat.zero_le _
  | i + 1 => by
    unfold q_lng
    split
    · rename_i hc
      exact g_v_s h hC2 hc.1.2.1
    · exact q_lng_le h hC2 i
theorem c_longestL (ho : a_ok A) (f0 : x_H) (h : c_ends z f0 post (A, (q_lng (a_g A) (g_n (a_g A))).1)) : ∀ (k i : Nat) (f : x_H) (S : x_S), i + k = g_n (a_g A) → x_Sys z f S → c_is S A → x_fr (fun q => 59 ≤ q) f0 f → X E (x_rm 9 0 0) mX5_longest (x_QM E z 0 0 post) 7 [(3, .int (nI i)), (2, .int (nI (q_lng (a_g A) i).2)), (1, .int (q_lng (a_g A) i).1), (0, .ref 0)] [] z f 0 0 := by
  intro k
  induction k with
  | zero =>
    intro i f S hi hS hA hF
    have hi2 : i = g_n (a_g A) := by omega
    subst hi2
    refine x_iload_n (pc' := 8) rfl rfl rfl ?_
    refine x_aload_n (pc' := 9) rfl rfl rfl ?_
    refine x_get (pc' := 12) rfl rfl rfl (hS.1) rfl ?_
    refine x_get (pc' := 15) rfl rfl rfl ((hS.2.1 0 (by decide)).1) rfl ?_
    refine x_icmp_ge (tgt := 53) (pc' := 18) rfl rfl rfl (fun _ => ?_) (fun c15 => absurd ((by rw [hA.1.2.2.2.1]; exact Int32.le_refl _)) c15)
    refine x_iload_n (pc' := 54) rfl rfl rfl ?_
    exact x_ireturn rfl rfl rfl (Nat.le_of_ble_eq_true rfl) (Nat.le_of_ble_eq_true rfl) (h _ _ hS hA hF)
  | succ k ih =>
    intro i f S hi hS hA hF
    have hn9 := ho.1.1
    have hq := q_lng_le ho.1 (by decide) i
    have e1 : q_lng (a_g A) (i + 1) = if g_can (a_g A) i ∧ (q_lng (a_g A) i).2 < (g_v (a_g A) i).2.2.1 then (nI i, (g_v (a_g A) i).2.2.1) else q_lng (a_g A) i := rfl
    refine x_iload_n (pc' := 8) rfl rfl rfl ?_
    refine x_aload_n (pc' := 9) rfl rfl rfl ?_
    refine x_get (pc' := 12) rfl rfl rfl (hS.1) rfl ?_
    refine x_get (pc' := 15) rfl rfl rfl ((hS.2.1 0 (by decide)).1) rfl ?_
    refine x_icmp_ge (tgt := 53) (pc' := 18) rfl rfl rfl (fun c15 => absurd c15 ((by rw [hA.1.2.2.2.1]; exact Int32.not_le.mpr (nI_lt (by omega) (by omega))))) (fun _ => ?_)
    refine x_aload_n (pc' := 19) rfl rfl rfl ?_
    refine x_iload_n (pc' := 20) rfl rfl rfl ?_
    refine x_cV1i (d := 5) (pc' := 23) rfl rfl sX5_131 gX5_tryMove (hS.1) ⟨Nat.le_of_ble_eq_true rfl, Nat.le_of_ble_eq_true rfl⟩ (Nat.le_of_ble_eq_true rfl) ⟨Nat.le_of_ble_eq_true rfl, Nat.le_of_ble_eq_true rfl⟩ ?_
    refine c_tryMove hS hA ho (by omega) (fun d2 f1 T1 hS1 g1 g5 g6 g7 g8 hF1 => ⟨_, rfl, ?_⟩) (fun d2 => ⟨_, rfl, ?_⟩)
    · have hT1 : x_t z f1 9 T1 := hS1.2.1 2 (by decide)
      have hs := g_v_s ho.1 (by decide) d2.2.1
      refine x_if_eq (tgt := 47) (pc' := 26) rfl rfl rfl (fun c23 => absurd c23 ((by decide))) (fun _ => ?_)
      refine x_aload_n (pc' := 27) rfl rfl rfl ?_
      refine x_get (pc' := 30) rfl rfl rfl (hS1.1) rfl ?_
      refine x_get (pc' := 33) rfl rfl rfl (hT1.1) rfl ?_
      refine x_eqi g7 ?_
      refine x_iload_n (pc' := 34) rfl rfl rfl ?_
      refine x_icmp_le (tgt := 47) (pc' := 37) rfl rfl rfl (fun c34 => ?_) (fun c34 => ?_)
      · rw [if_neg (fun q => Int32.not_lt.mpr c34 (nI_lt q.2 (by omega)))] at e1
        refine x_iinc (pc' := 50) (lv' := [(3, _), (2, _), (1, _), (0, _)]) rfl rfl (Nat.le_of_ble_eq_true rfl) rfl (nI_1 i) rfl ?_
        refine x_goto (tgt := 7) rfl rfl ?_
        have h9 := ih (i + 1) _ _ (by omega) hS1 (c_tr hA) (hF.trans hF1)
        rw [e1] at h9
        exact h9
      · rw [if_pos ⟨d2, (nI_ltI (by omega) (by omega)).mp (Int32.not_le.mp c34)⟩] at e1
        refine x_aload_n (pc' := 38) rfl rfl rfl ?_
        refine x_get (pc' := 41) rfl rfl rfl (hS1.1) rfl ?_
        refine x_get (pc' := 44) rfl rfl rfl (hT1.1) rfl ?_
        refine x_eqi g7 ?_
        refine x_istore_n (pc' := 45) (lv' := [(2, _), (3, _), (1, _), (0, _)]) rfl rfl (Nat.le_of_ble_eq_true rfl) rfl ?_
        refine x_iload_n (pc' := 46) rfl rfl rfl ?_
        refine x_istore_n (pc' := 47) (lv' := [(1, _), (2, _), (3, _), (0, _)]) rfl rfl (Nat.le_of_ble_eq_true rfl) rfl ?_
        refine x_iinc (pc' := 50) (lv' := [(3, _), (1, _), (2, _), (0, _)]) rfl rfl (Nat.le_of_ble_eq_true rfl) rfl (nI_1 i) rfl ?_
        refine x_goto (tgt := 7) rfl rfl ?_
        refine x_lvp [0, 2, 1, 3] rfl ?_
        have h9 := ih (i + 1) _ _ (by omega) hS1 (c_tr hA) (hF.trans hF1)
        rw [e1] at h9
        exact h9
    · rw [if_neg (fun q => d2 q.1)] at e1
      refine x_if_eq (tgt := 47) (pc' := 26) rfl rfl rfl (fun _ => ?_) (fun c23 => absurd ((by decide)) c23)
      refine x_iinc (pc' := 50) (lv' := [(3, _), (2, _), (1, _), (0, _)]) rfl rfl (Nat.le_of_ble_eq_true rfl) rfl (nI_1 i) rfl ?_
      refine x_goto (tgt := 7) rfl rfl ?_
      have h9 := ih (i + 1) _ _ (by omega) hS hA hF
      rw [e1] at h9
      exact h9
theorem c_longest (hS : x_Sys z f S) (hA : c_is S A) (ho : a_ok A) (h : c_ends z f post (A, (q_lng (a_g A) (g_n (a_g A))).1)) : Y E 9 mX5_longest [.ref 0] z f 0 0 post := by
  refine Y.intro gX5_longest (lv := [(0, .ref 0)]) rfl (Nat.le_of_ble_eq_true rfl) ?_
  refine x_bipush (pc' := 2) rfl rfl bipush_m9 ?_
  refine x_istore_n (pc' := 3) (lv' := [(1, _), (0, _)]) rfl rfl (Nat.le_of_ble_eq_true rfl) rfl ?_
  refine x_iconst (pc' := 4) rfl rfl iconst_0 ?_
  refine x_istore_n (pc' := 5) (lv' := [(2, _), (1, _), (0, _)]) rfl rfl (Nat.le_of_ble_eq_true rfl) rfl ?_
  refine x_iconst (pc' := 6) rfl rfl iconst_0 ?_
  refine x_istore_n (pc' := 7) (lv' := [(3, _), (2, _), (1, _), (0, _)]) rfl rfl (Nat.le_of_ble_eq_true rfl) rfl ?_
  exact c_longestL ho f h (g_n (a_g A)) 0 f S (by omega) hS hA x_fr.rf
/-- whether some bowl of the first i can be sown -/
def q_any (g : q_G) : Nat → Bool
  | 0 => false
  | i + 1 => q_any g i || decide (g_can g i)
theorem c_lostL (hS : x_Sys z f S) (hA : c_is S A) (ho : a_ok A) (h1 : post (some (.int 1)) f) (h0 : ∀ i, i < g_n (a_g A) → g_can (a_g A) i → post (some (.int 0)) f) : ∀ (k i : Nat), i + k = g_n (a_g A) → X E (x_rm 9 0 0) mX5_lost (x_QM E z 0 0 post) 2 [(1, .int (nI i)), (0, .ref 0)] [] z f 0 0 := by
  have hn9 := ho.1.1
  have hT := hS.2.1 0 (by decide)
  intro k
  induction k with
  | zero =>
    intro i hi
    refine x_iload_n (pc' := 3) rfl rfl rfl ?_
    refine x_aload_n (pc' := 4) rfl rfl rfl ?_
    refine x_get (pc' := 7) rfl rfl rfl (hS.1) rfl ?_
    refine x_get (pc' := 10) rfl rfl rfl (hT.1) rfl ?_
    refine x_icmp_ge (tgt := 32) (pc' := 13) rfl rfl rfl (fun _ => ?_) (fun c10 => absurd ((by rw [hA.1.2.2.2.1]; exact nI_le (by omega) (by omega))) c10)
    refine x_iconst (pc' := 33) rfl rfl iconst_1 ?_
    exact x_ireturn rfl rfl rfl (Nat.le_of_ble_eq_true rfl) (Nat.le_of_ble_eq_true rfl) (h1)
  | succ k ih =>
    intro i hi
    refine x_iload_n (pc' := 3) rfl rfl rfl ?_
    refine x_aload_n (pc' := 4) rfl rfl rfl ?_
    refine x_get (pc' := 7) rfl rfl rfl (hS.1) rfl ?_
    refine x_get (pc' := 10) rfl rfl rfl (hT.1) rfl ?_
    refine x_icmp_ge (tgt := 32) (pc' := 13) rfl rfl rfl (fun c10 => absurd c10 ((by rw [hA.1.2.2.2.1]; exact Int32.not_le.mpr (nI_lt (by omega) (by omega))))) (fun _ => ?_)
    refine x_aload_n (pc' := 14) rfl rfl rfl ?_
    refine x_get (pc' := 17) rfl rfl rfl (hS.1) rfl ?_
    refine x_iload_n (pc' := 18) rfl rfl rfl ?_
    refine x_cV1i (d := 2) (pc' := 21) rfl rfl sX5_118 gX3_canMove (hT.1) ⟨Nat.le_of_ble_eq_true rfl, Nat.le_of_ble_eq_true rfl⟩ (Nat.le_of_ble_eq_true rfl) ⟨Nat.le_of_ble_eq_true rfl, Nat.le_of_ble_eq_true rfl⟩ ?_
    refine w_can hT hA.1 ho.1 (by decide) (by omega) (fun d2 => ⟨_, rfl, ?_⟩) (fun d2 => ⟨_, rfl, ?_⟩)
    · refine x_if_eq (tgt := 26) (pc' := 24) rfl rfl rfl (fun c21 => absurd c21 (by decide)) (fun _ => ?_)
      refine x_iconst (pc' := 25) rfl rfl iconst_0 ?_
      exact x_ireturn rfl rfl rfl (Nat.le_of_ble_eq_true rfl) (Nat.le_of_ble_eq_true rfl) (h0 i (by omega) d2)
    · refine x_if_eq (tgt := 26) (pc' := 24) rfl rfl rfl (fun _ => ?_) (fun c21 => absurd (by decide) c21)
      refine x_iinc (pc' := 29) (lv' := [(1, _), (0, _)]) rfl rfl (Nat.le_of_ble_eq_true rfl) rfl (nI_1 i) rfl ?_
      refine x_goto (tgt := 2) rfl rfl ?_
      exact ih (i + 1) (by omega)
end CB
end
section
-- == 41.classC
/-! The class: the row, lots, the picture, counts. -/
theorem q_zI (w : Int32) {n : Nat} (h0 : 0 < n) (hn : n ≤ 9) : (w &&& 2147483647) / 256 - (w &&& 2147483647) / 256 / nI n * nI n = nI (q_zb w n) := by
  rw [pk_and w (m := 2147483647) 31 (by decide)]
  have h1 : w.toBitVec.toNat % 2 ^ 31 < 2 ^ 31 := Nat.mod_lt _ (by decide)
  rw [show (256 : Int32) = nI 256 from rfl, pk_div h1 (by decide) (by decide)]
  exact pk_rem (by omega) h0 (by omega)
section CC
variable {E : x_E} {z : Nat} {f : x_H} {S : x_S} {A : q_A} {post : Option Value → x_H → Prop} {a b : Int32}
theorem c_lost (hS : x_Sys z f S) (hA : c_is S A) (ho : a_ok A) (h1 : post (some (.int 1)) f) (h0 : ∀ i, i < g_n (a_g A) → g_can (a_g A) i → post (some (.int 0)) f) : Y E 9 mX5_lost [.ref 0] z f 0 0 post := by
  refine Y.intro gX5_lost (lv := [(0, .ref 0)]) rfl (Nat.le_of_ble_eq_true rfl) ?_
  refine x_iconst (pc' := 1) rfl rfl iconst_0 ?_
  refine x_istore_n (pc' := 2) (lv' := [(1, _), (0, _)]) rfl rfl (Nat.le_of_ble_eq_true rfl) rfl ?_
  exact c_lostL hS hA ho h1 h0 (g_n (a_g A)) 0 (by omega)
abbrev a_plays (A : q_A) : Nat × q_G := q_plays (a_rf A) (a_rc A) 0 (a_g A)
theorem c_playL (ho : a_ok A) (f0 : x_H) (S0 : x_S) (hA : c_is S0 A) (h : ∀ (f' : x_H) (T' : x_T), x_Sys z f' (S0.1, x_ut S0.2.1 2 T', S0.2.2.1, S0.2.2.2) → t_is T' (a_plays A).2 → x_fr (fun q => 59 ≤ q) f0 f' → post (some (.int (nI (a_plays A).1))) f') : ∀ (k i : Nat) (g : q_G) (f : x_H) (T : x_T), i + k = a_rc A → g_ok 99 g → q_plays (a_rf A) k i g = a_plays A → x_Sys z f (S0.1, x_ut S0.2.1 2 T, S0.2.2.1, S0.2.2.2) → t_is T g → x_fr (fun q => 59 ≤ q) f0 f → X E (x_rm 5 0 0) mX5_playRow (x_QM E z 0 0 post) 13 [(1, .int (nI i)), (0, .ref 0)] [] z f 0 0 := by
  have hrc := ho.2.2.2.2.2.1
  have b6 : S0.1 1 = nI (a_rc A) := hA.2.2.2.2.2.1
  have b7 : S0.2.2.1 5 = fun i => nI (a_rf A i) := hA.2.2.2.2.2.2.1
  intro k
  induction k with
  | zero =>
    intro i g f T hi hg he hS hT hF
    have hi2 : i = a_rc A := by omega
    have he2 : (i, g) = a_plays A := he
    rw [← he2] at h
    refine x_iload_n (pc' := 14) rfl rfl rfl ?_
    refine x_aload_n (pc' := 15) rfl rfl rfl ?_
    refine x_get (pc' := 18) rfl rfl rfl (hS.1) rfl ?_
    refine x_eqi b6 ?_
    refine x_icmp_ge (tgt := 65) (pc' := 21) rfl rfl rfl (fun _ => ?_) (fun c18 => absurd ((by rw [hi2]; exact Int32.le_refl _)) c18)
    refine x_iload_n (pc' := 66) rfl rfl rfl ?_
    exact x_ireturn rfl rfl rfl (Nat.le_of_ble_eq_true rfl) (Nat.le_of_ble_eq_true rfl) (h _ T hS hT hF)
  | succ k ih =>
    intro i g f T hi hg he hS hT hF
    have hTt : x_t z f 9 T := hS.2.1 2 (by decide)
    have hrf := ho.2.2.2.2.2.2 i
    have hcl : (nI i).toNatClampNeg = i := nI_clamp (by omega)
    have hv : vp_in (nI i) 12 := vp_in_nI (by omega) (by decide)
    have e1 : S0.2.2.1 5 (nI i).toNatClampNeg = nI (a_rf A i) := by rw [hcl, b7]
    replace he : (if g_can g (a_rf A i) then q_plays (a_rf A) k (i + 1) (g_mv g (a_rf A i)) else (i, g)) = a_plays A := he
    refine x_iload_n (pc' := 14) rfl rfl rfl ?_
    refine x_aload_n (pc' := 15) rfl rfl rfl ?_
    refine x_get (pc' := 18) rfl rfl rfl (hS.1) rfl ?_
    refine x_eqi b6 ?_
    refine x_icmp_ge (tgt := 65) (pc' := 21) rfl rfl rfl (fun c18 => absurd c18 ((nI_ge (by omega) (by omega)))) (fun _ => ?_)
    refine x_iload_n (pc' := 22) rfl rfl rfl ?_
    refine x_aload_n (pc' := 23) rfl rfl rfl ?_
    refine x_get (pc' := 26) rfl rfl rfl (hS.1) rfl ?_
    refine x_alen (pc' := 27) rfl rfl (hS.2.2.1 5 (by decide)) ?_
    refine x_icmp_ge (tgt := 65) (pc' := 30) rfl rfl rfl (fun c27 => absurd c27 ((nI_ge (a := i) (b := 12) (by omega) (by decide)))) (fun _ => ?_)
    refine x_aload_n (pc' := 31) rfl rfl rfl ?_
    refine x_get (pc' := 34) rfl rfl rfl (hS.1) rfl ?_
    refine x_aload_n (pc' := 35) rfl rfl rfl ?_
    refine x_get (pc' := 38) rfl rfl rfl (hS.1) rfl ?_
    refine x_iload_n (pc' := 39) rfl rfl rfl ?_
    refine x_iaload (pc' := 40) rfl rfl (hS.2.2.1 5 (by decide)) (hv) ?_
    refine x_eqi e1 ?_
    refine x_cV1i (d := 2) (pc' := 43) rfl rfl sX5_118 gX3_canMove (hTt.1) ⟨Nat.le_of_ble_eq_true rfl, Nat.le_of_ble_eq_true rfl⟩ (Nat.le_of_ble_eq_true rfl) ⟨Nat.le_of_ble_eq_true rfl, Nat.le_of_ble_eq_true rfl⟩ ?_
    refine w_can hTt hT hg (by decide) (by omega) (fun d2 => ⟨_, rfl, ?_⟩) (fun d2 => ⟨_, rfl, ?_⟩)
    · rw [if_pos d2] at he
      refine x_if_eq (tgt := 65) (pc' := 46) rfl rfl rfl (fun c43 => absurd c43 ((by decide))) (fun _ => ?_)
      refine x_aload_n (pc' := 47) rfl rfl rfl ?_
      refine x_get (pc' := 50) rfl rfl rfl (hS.1) rfl ?_
      refine x_aload_n (pc' := 51) rfl rfl rfl ?_
      refine x_get (pc' := 54) rfl rfl rfl (hS.1) rfl ?_
      refine x_iload_n (pc' := 55) rfl rfl rfl ?_
      refine x_iaload (pc' := 56) rfl rfl (hS.2.2.1 5 (by decide)) (hv) ?_
      refine x_eqi e1 ?_
      refine x_cV1v (d := 4) (pc' := 59) rfl rfl sX5_124 gX3_makeMove (hTt.1) ⟨Nat.le_of_ble_eq_true rfl, Nat.le_of_ble_eq_true rfl⟩ (Nat.le_of_ble_eq_true rfl) ⟨Nat.le_of_ble_eq_true rfl, Nat.le_of_ble_eq_true rfl⟩ ?_
      refine w_move hTt hT hg (by decide) d2.2.1 (fun f1 T1 hT1 g1 g4 g5 g6 g7 g8 hF1 => ⟨rfl, ?_⟩)
      have hS1 := (hS.tab 2 (by decide) hT1 hF1)
      refine x_iinc (pc' := 62) (lv' := [(1, _), (0, _)]) rfl rfl (Nat.le_of_ble_eq_true rfl) rfl (nI_1 i) rfl ?_
      refine x_goto (tgt := 13) rfl rfl ?_
      refine ih (i + 1) _ _ T1 (by omega) (g_mv_ok hg (by decide) (by decide) d2.2.1) he ?_ g1 (hF.trans (c_fr0 (j := 2) (by decide) hF1))
      have e9 : x_ut (x_ut S0.2.1 2 T) 2 T1 = x_ut S0.2.1 2 T1 := by
        funext j
        unfold x_ut
        split <;> rfl
      rw [← e9]
      exact hS1
    · rw [if_neg d2] at he
      rw [← he] at h
      refine x_if_eq (tgt := 65) (pc' := 46) rfl rfl rfl (fun _ => ?_) (fun c43 => absurd ((by decide)) c43)
      refine x_iload_n (pc' := 66) rfl rfl rfl ?_
      exact x_ireturn rfl rfl rfl (Nat.le_of_ble_eq_true rfl) (Nat.le_of_ble_eq_true rfl) (h _ T hS hT hF)
theorem c_playRow (hS : x_Sys z f S) (hA : c_is S A) (ho : a_ok A) (h : ∀ (f' : x_H) (T' : x_T), x_Sys z f' (S.1, x_ut S.2.1 2 T', S.2.2.1, S.2.2.2) → t_is T' (a_plays A).2 → x_fr (fun q => 59 ≤ q) f f' → post (some (.int (nI (a_plays A).1))) f') : Y E 5 mX5_playRow [.ref 0] z f 0 0 post := by
  refine Y.intro gX5_playRow (lv := [(0, .ref 0)]) rfl (Nat.le_of_ble_eq_true rfl) ?_
  have hT := hS.2.1 0 (by decide)
  refine x_aload_n (pc' := 1) rfl rfl rfl ?_
  refine x_get (pc' := 4) rfl rfl rfl (hS.1) rfl ?_
  refine x_aload_n (pc' := 5) rfl rfl rfl ?_
  refine x_get (pc' := 8) rfl rfl rfl (hS.1) rfl ?_
  refine x_cV1v (d := 1) (pc' := 11) rfl rfl sX5_79 gX3_copyFrom ((hS.2.1 2 (by decide)).1) ⟨Nat.le_of_ble_eq_true rfl, Nat.le_of_ble_eq_true rfl⟩ (Nat.le_of_ble_eq_true rfl) ⟨Nat.le_of_ble_eq_true rfl, Nat.le_of_ble_eq_true rfl⟩ ?_
  refine w_copyFrom (hS.2.1 2 (by decide)) hT (by decide) (fun f1 hT1 hF1 => ⟨rfl, ?_⟩)
  have hS1 := hS.tab 2 (by decide) hT1 hF1
  refine x_iconst (pc' := 12) rfl rfl iconst_0 ?_
  refine x_istore_n (pc' := 13) (lv' := [(1, _), (0, _)]) rfl rfl (Nat.le_of_ble_eq_true rfl) rfl ?_
  exact c_playL ho f S hA h (a_rc A) 0 (a_g A) _ _ (by omega) ho.1 rfl hS1 (x_cp_is hA.1) (c_fr0 (j := 2) (by decide) hF1)
def s_judge (A : q_A) : q_A × Int32 := ((A.1, A.2.1, A.2.2.1, (0, a_rf A), A.2.2.2.2), if (a_plays A).1 < a_rc A then nI (a_plays A).1 else (-9))
theorem c_judge (hS : x_Sys z f S) (hA : c_is S A) (ho : a_ok A) (h : c_ends z f post (s_judge A)) : Y E 9 mX5_judge [.ref 0] z f 0 0 post := by
  refine Y.intro gX5_judge (lv := [(0, .ref 0)]) rfl (Nat.le_of_ble_eq_true rfl) ?_
  obtain ⟨b1, b2, b3, b4, b5, b6, b7, b8⟩ := id hA
  have hrc := ho.2.2.2.2.2.1
  have hp : (a_plays A).1 ≤ 0 + a_rc A := (q_plays_ok (rf := a_rf A) (by decide : 99 ≤ 99) (by decide) (a_rc A) 0 (a_g A) ho.1).2.2
  unfold s_judge at h
  refine x_aload_n (pc' := 1) rfl rfl rfl ?_
  refine x_cV0i (d := 5) (pc' := 4) rfl rfl sX5_202 gX5_playRow (hS.1) ⟨Nat.le_of_ble_eq_true rfl, Nat.le_of_ble_eq_true rfl⟩ (Nat.le_of_ble_eq_true rfl) ⟨Nat.le_of_ble_eq_true rfl, Nat.le_of_ble_eq_true rfl⟩ ?_
  refine c_playRow hS hA ho (fun f1 T1 hS1 g1 hF1 => ⟨_, rfl, ?_⟩)
  refine x_istore_n (pc' := 5) (lv' := [(1, _), (0, _)]) rfl rfl (Nat.le_of_ble_eq_true rfl) rfl ?_
  refine x_iload_n (pc' := 6) rfl rfl rfl ?_
  refine x_aload_n (pc' := 7) rfl rfl rfl ?_
  refine x_get (pc' := 10) rfl rfl rfl (hS1.1) rfl ?_
  refine x_eqi b6 ?_
  refine x_icmp_ge (tgt := 17) (pc' := 13) rfl rfl rfl (fun c10 => ?_) (fun c10 => ?_)
  · rw [if_neg (fun q => absurd c10 (nI_ge q (by omega)))] at h
    refine x_bipush (pc' := 19) rfl rfl bipush_m9 ?_
    refine x_istore_n (pc' := 20) (lv' := [(2, _), (1, _), (0, _)]) rfl rfl (Nat.le_of_ble_eq_true rfl) rfl ?_
    refine x_aload_n (pc' := 21) rfl rfl rfl ?_
    refine x_iconst (pc' := 22) rfl rfl iconst_0 ?_
    refine x_put (pc' := 25) rfl rfl rfl (hS1.1) (Nat.le_of_ble_eq_true rfl) rfl rfl rfl rfl (fun f1 e1 => ?_)
    have hS2 := hS1.num0 (upd S.1 1 0) (e1.trans (by rw [show (S.1, x_ut S.2.1 2 T1, S.2.2.1, S.2.2.2).1 = S.1 from rfl, x_oFs1])) (fun i hi => pk_un (by omega))
    have hF2 := hF1.up e1 (by decide)
    refine x_iload_n (pc' := 26) rfl rfl rfl ?_
    exact x_ireturn rfl rfl rfl (Nat.le_of_ble_eq_true rfl) (Nat.le_of_ble_eq_true rfl) (h _ _ hS2 ⟨b1, b2, b3, b4, b5, rfl, b7, b8⟩ hF2)
  · rw [if_pos (Nat.not_le.mp (fun q => c10 (nI_le q (by omega))))] at h
    refine x_iload_n (pc' := 14) rfl rfl rfl ?_
    refine x_goto (tgt := 19) rfl rfl ?_
    refine x_istore_n (pc' := 20) (lv' := [(2, _), (1, _), (0, _)]) rfl rfl (Nat.le_of_ble_eq_true rfl) rfl ?_
    refine x_aload_n (pc' := 21) rfl rfl rfl ?_
    refine x_iconst (pc' := 22) rfl rfl iconst_0 ?_
    refine x_put (pc' := 25) rfl rfl rfl (hS1.1) (Nat.le_of_ble_eq_true rfl) rfl rfl rfl rfl (fun f2 e2 => ?_)
    have hS2 := hS1.num0 (upd S.1 1 0) (e2.trans (by rw [show (S.1, x_ut S.2.1 2 T1, S.2.2.1, S.2.2.2).1 = S.1 from rfl, x_oFs1])) (fun i hi => pk_un (by omega))
    have hF2 := hF1.up e2 (by decide)
    refine x_iload_n (pc' := 26) rfl rfl rfl ?_
    exact x_ireturn rfl rfl rfl (Nat.le_of_ble_eq_true rfl) (Nat.le_of_ble_eq_true rfl) (h _ _ hS2 ⟨b1, b2, b3, b4, b5, rfl, b7, b8⟩ hF2)
def s_played (A : q_A) (a : Int32) : q_A × Int32 := if a < 0 ∨ 1 < a then (s_no A 2, -2) else (A, nI (g_π (a_plays A).2 a.toNatClampNeg))
theorem c_played (hS : x_Sys z f S) (hA : c_is S A) (ho : a_ok A) (h : c_ends z f post (s_played A a)) : Y E 9 mX5_played [.ref 0, .int a] z f 0 0 post := by
  refine Y.intro gX5_played (lv := [(0, .ref 0), (1, .int a)]) rfl (Nat.le_of_ble_eq_true rfl) ?_
  refine x_iload_n (pc' := 1) rfl rfl rfl ?_
  refine x_if_lt (tgt := 9) (pc' := 4) rfl rfl rfl (fun c1 => ?_) (fun c1 => ?_)
  · rw [show s_played A a = _ from if_pos (Or.inl c1)] at h
    refine x_aload_n (pc' := 10) rfl rfl rfl ?_
    refine x_bipush (pc' := 12) rfl rfl bipush_m2 ?_
    refine x_cV1i (d := 1) (pc' := 15) rfl rfl sX5_68 gX5_refuse (hS.1) ⟨Nat.le_of_ble_eq_true rfl, Nat.le_of_ble_eq_true rfl⟩ (Nat.le_of_ble_eq_true rfl) ⟨Nat.le_of_ble_eq_true rfl, Nat.le_of_ble_eq_true rfl⟩ ?_
    refine c_refuse (k := 2) (by decide) (by decide) hS hA (fun f1 S1 hS1 hA1 hF1 => ⟨_, rfl, ?_⟩)
    exact x_ireturn rfl rfl rfl (Nat.le_of_ble_eq_true rfl) (Nat.le_of_ble_eq_true rfl) (h _ _ hS1 hA1 hF1)
  · refine x_iload_n (pc' := 5) rfl rfl rfl ?_
    refine x_iconst (pc' := 6) rfl rfl iconst_1 ?_
    refine x_icmp_le (tgt := 16) (pc' := 9) rfl rfl rfl (fun c6 => ?_) (fun c6 => ?_)
    · have d1 : ¬ (a < 0 ∨ 1 < a) := fun q => q.elim c1 (Int32.not_lt.mpr c6)
      rw [show s_played A a = _ from if_neg d1] at h
      refine x_aload_n (pc' := 17) rfl rfl rfl ?_
      refine x_cV0i (d := 5) (pc' := 20) rfl rfl sX5_202 gX5_playRow (hS.1) ⟨Nat.le_of_ble_eq_true rfl, Nat.le_of_ble_eq_true rfl⟩ (Nat.le_of_ble_eq_true rfl) ⟨Nat.le_of_ble_eq_true rfl, Nat.le_of_ble_eq_true rfl⟩ ?_
      refine c_playRow hS hA ho (fun f1 T1 hS1 g1 hF1 => ⟨_, rfl, ?_⟩)
      have hT1 : x_t z f1 9 T1 := hS1.2.1 2 (by decide)
      refine x_pop (pc' := 21) rfl rfl rfl ?_
      refine x_aload_n (pc' := 22) rfl rfl rfl ?_
      refine x_get (pc' := 25) rfl rfl rfl (hS1.1) rfl ?_
      refine x_iload_n (pc' := 26) rfl rfl rfl ?_
      refine x_cV1i (d := 1) (pc' := 29) rfl rfl sX5_205 gX3_purseOf (hT1.1) ⟨Nat.le_of_ble_eq_true rfl, Nat.le_of_ble_eq_true rfl⟩ (Nat.le_of_ble_eq_true rfl) ⟨Nat.le_of_ble_eq_true rfl, Nat.le_of_ble_eq_true rfl⟩ ?_
      refine w_purseOf hT1 (fun q => ⟨_, rfl, ?_⟩) (fun q => absurd ⟨c1, Int32.lt_of_le_of_lt c6 (by decide)⟩ q)
      refine x_eqi (show T1.2.2.1 a.toNatClampNeg = nI (g_π (a_plays A).2 a.toNatClampNeg) from by rw [g1.2.2.1]) ?_
      exact x_ireturn rfl rfl rfl (Nat.le_of_ble_eq_true rfl) (Nat.le_of_ble_eq_true rfl) (h _ _ hS1 (c_tr hA) hF1)
    · rw [show s_played A a = _ from if_pos (Or.inr (Int32.not_le.mp c6))] at h
      refine x_aload_n (pc' := 10) rfl rfl rfl ?_
      refine x_bipush (pc' := 12) rfl rfl bipush_m2 ?_
      refine x_cV1i (d := 1) (pc' := 15) rfl rfl sX5_68 gX5_refuse (hS.1) ⟨Nat.le_of_ble_eq_true rfl, Nat.le_of_ble_eq_true rfl⟩ (Nat.le_of_ble_eq_true rfl) ⟨Nat.le_of_ble_eq_true rfl, Nat.le_of_ble_eq_true rfl⟩ ?_
      refine c_refuse (k := 2) (by decide) (by decide) hS hA (fun f1 S1 hS1 hA1 hF1 => ⟨_, rfl, ?_⟩)
      exact x_ireturn rfl rfl rfl (Nat.le_of_ble_eq_true rfl) (Nat.le_of_ble_eq_true rfl) (h _ _ hS1 hA1 hF1)
theorem c_image (hS : x_Sys z f S) (hA : c_is S A) (h : c_ends z f post (s_image A)) : Y E 9 mX5_image [.ref 0] z f 0 0 post := by
  refine Y.intro gX5_image (lv := [(0, .ref 0)]) rfl (Nat.le_of_ble_eq_true rfl) ?_
  obtain ⟨b1, b2, b3, b4, b5, b6, b7, b8⟩ := id hA
  have hT := hS.2.1 0 (by decide)
  refine x_aload_n (pc' := 1) rfl rfl rfl ?_
  refine x_get (pc' := 4) rfl rfl rfl (hS.1) rfl ?_
  refine x_aload_n (pc' := 5) rfl rfl rfl ?_
  refine x_get (pc' := 8) rfl rfl rfl (hS.1) rfl ?_
  refine x_cV1v (d := 1) (pc' := 11) rfl rfl sX5_79 gX3_copyFrom ((hS.2.1 1 (by decide)).1) ⟨Nat.le_of_ble_eq_true rfl, Nat.le_of_ble_eq_true rfl⟩ (Nat.le_of_ble_eq_true rfl) ⟨Nat.le_of_ble_eq_true rfl, Nat.le_of_ble_eq_true rfl⟩ ?_
  refine w_copyFrom (hS.2.1 1 (by decide)) hT (by decide) (fun f1 hT1 hF1 => ⟨rfl, ?_⟩)
  have hS1 := hS.tab 1 (by decide) hT1 hF1
  refine x_aload_n (pc' := 12) rfl rfl rfl ?_
  refine x_iconst (pc' := 13) rfl rfl iconst_1 ?_
  refine x_put (pc' := 16) rfl rfl rfl (hS1.1) (Nat.le_of_ble_eq_true rfl) rfl rfl rfl rfl (fun f1 e1 => ?_)
  have hS2 := hS1.num0 (upd S.1 0 1) (e1.trans (by rw [show (S.1, x_ut S.2.1 1 (x_cp (S.2.1 1) (S.2.1 0)), S.2.2.1, S.2.2.2).1 = S.1 from rfl, x_oFs0])) (fun i hi => pk_un (by omega))
  have hF2 := (c_fr0 (j := 1) (by decide) hF1).up e1 (by decide)
  refine x_aload_n (pc' := 17) rfl rfl rfl ?_
  refine x_get (pc' := 20) rfl rfl rfl (hS2.1) rfl ?_
  refine x_get (pc' := 23) rfl rfl rfl ((hS2.2.1 0 (by decide)).1) rfl ?_
  refine x_eqi (show (S.2.1 0).2.2.2 4 = nI (a_mv A) from b2) ?_
  exact x_ireturn rfl rfl rfl (Nat.le_of_ble_eq_true rfl) (Nat.le_of_ble_eq_true rfl) (h _ _ hS2 ⟨b1, b2, ⟨rfl, x_cp_is b1, b2⟩, b4, b5, b6, b7, b8⟩ hF2)
theorem c_on (hS : x_Sys z f S) (hA : c_is S A) (h : c_ends z f post (s_on A)) : Y E 9 mX5_on [.ref 0] z f 0 0 post := by
  refine Y.intro gX5_on (lv := [(0, .ref 0)]) rfl (Nat.le_of_ble_eq_true rfl) ?_
  obtain ⟨b1, b2, b3, b4, b5, b6, b7, b8⟩ := id hA
  rcases hp : a_pi A with _ | ⟨g, m⟩
  · rw [show s_on A = (s_no A 3, -3) from by unfold s_on; rw [hp]] at h
    rw [hp] at b3
    refine x_aload_n (pc' := 1) rfl rfl rfl ?_
    refine x_get (pc' := 4) rfl rfl rfl (hS.1) rfl ?_
    refine x_eqi (show S.1 0 = 0 from b3) ?_
    refine x_if_ne (tgt := 14) (pc' := 7) rfl rfl rfl (fun c4 => absurd (rfl) c4) (fun _ => ?_)
    refine x_aload_n (pc' := 8) rfl rfl rfl ?_
    refine x_bipush (pc' := 10) rfl rfl bipush_m3 ?_
    refine x_cV1i (d := 1) (pc' := 13) rfl rfl sX5_68 gX5_refuse (hS.1) ⟨Nat.le_of_ble_eq_true rfl, Nat.le_of_ble_eq_true rfl⟩ (Nat.le_of_ble_eq_true rfl) ⟨Nat.le_of_ble_eq_true rfl, Nat.le_of_ble_eq_true rfl⟩ ?_
    refine c_refuse (k := 3) (by decide) (by decide) hS hA (fun f1 S1 hS1 hA1 hF1 => ⟨_, rfl, ?_⟩)
    exact x_ireturn rfl rfl rfl (Nat.le_of_ble_eq_true rfl) (Nat.le_of_ble_eq_true rfl) (h _ _ hS1 hA1 hF1)
  · rw [show s_on A = (((g, m), A.2), nI m) from by unfold s_on; rw [hp]] at h
    rw [hp] at b3
    obtain ⟨p1, p2, p3⟩ := b3
    refine x_aload_n (pc' := 1) rfl rfl rfl ?_
    refine x_get (pc' := 4) rfl rfl rfl (hS.1) rfl ?_
    refine x_eqi (show S.1 0 = 1 from p1) ?_
    refine x_if_ne (tgt := 14) (pc' := 7) rfl rfl rfl (fun _ => ?_) (fun c4 => absurd c4 ((by decide)))
    refine x_aload_n (pc' := 15) rfl rfl rfl ?_
    refine x_get (pc' := 18) rfl rfl rfl (hS.1) rfl ?_
    refine x_aload_n (pc' := 19) rfl rfl rfl ?_
    refine x_get (pc' := 22) rfl rfl rfl (hS.1) rfl ?_
    refine x_cV1v (d := 1) (pc' := 25) rfl rfl sX5_79 gX3_copyFrom ((hS.2.1 0 (by decide)).1) ⟨Nat.le_of_ble_eq_true rfl, Nat.le_of_ble_eq_true rfl⟩ (Nat.le_of_ble_eq_true rfl) ⟨Nat.le_of_ble_eq_true rfl, Nat.le_of_ble_eq_true rfl⟩ ?_
    refine w_copyFrom (hS.2.1 0 (by decide)) (hS.2.1 1 (by decide)) (by decide) (fun f1 hT1 hF1 => ⟨rfl, ?_⟩)
    have hS1 := hS.tab 0 (by decide) hT1 hF1
    refine x_aload_n (pc' := 26) rfl rfl rfl ?_
    refine x_get (pc' := 29) rfl rfl rfl (hS1.1) rfl ?_
    refine x_get (pc' := 32) rfl rfl rfl (hT1.1) rfl ?_
    refine x_eqi (show (S.2.1 1).2.2.2 4 = nI m from p3) ?_
    exact x_ireturn rfl rfl rfl (Nat.le_of_ble_eq_true rfl) (Nat.le_of_ble_eq_true rfl) (h _ _ hS1 ⟨x_cp_is p2, p3, (by show c_pic (S.1 0) (S.2.1 1) (a_pi A); rw [hp]; exact ⟨p1, p2, p3⟩), b4, b5, b6, b7, b8⟩ (c_fr0 (j := 0) (by decide) hF1))
theorem c_count (hS : x_Sys z f S) (hA : c_is S A) (ho : a_ok A) (h : c_ends z f post (s_count A a)) : Y E 9 mX5_count [.ref 0, .int a] z f 0 0 post := by
  refine Y.intro gX5_count (lv := [(0, .ref 0), (1, .int a)]) rfl (Nat.le_of_ble_eq_true rfl) ?_
  obtain ⟨b1, b2, b3, b4, b5, b6, b7, b8⟩ := id hA
  obtain ⟨t1, t2, t3, t4, t5, t6, t7⟩ := id b1
  have hT := hS.2.1 0 (by decide)
  unfold s_count at h
  by_cases e0 : a = 0
  · rw [if_pos e0] at h
    subst e0
    refine x_iload_n (pc' := 1) rfl rfl rfl ?_
    refine x_tableIn (tgt := 56) rfl (by decide) (by decide) rfl rfl ?_
    refine x_aload_n (pc' := 57) rfl rfl rfl ?_
    refine x_get (pc' := 60) rfl rfl rfl (hS.1) rfl ?_
    refine x_get (pc' := 63) rfl rfl rfl (hT.1) rfl ?_
    refine x_eqi t4 ?_
    exact x_ireturn rfl rfl rfl (Nat.le_of_ble_eq_true rfl) (Nat.le_of_ble_eq_true rfl) (h _ _ hS hA x_fr.rf)
  rw [if_neg e0] at h
  by_cases e1 : a = 1
  · rw [if_pos e1] at h
    subst e1
    refine x_iload_n (pc' := 1) rfl rfl rfl ?_
    refine x_tableIn (tgt := 64) rfl (by decide) (by decide) rfl rfl ?_
    refine x_aload_n (pc' := 65) rfl rfl rfl ?_
    refine x_get (pc' := 68) rfl rfl rfl (hS.1) rfl ?_
    refine x_cV0i (d := 3) (pc' := 71) rfl rfl sX5_143 gX3_allBeans (hT.1) ⟨Nat.le_of_ble_eq_true rfl, Nat.le_of_ble_eq_true rfl⟩ (Nat.le_of_ble_eq_true rfl) ⟨Nat.le_of_ble_eq_true rfl, Nat.le_of_ble_eq_true rfl⟩ ?_
    refine w_allBeans hT t4 ho.1.1 ⟨_, rfl, ?_⟩
    refine x_eqi (show x_sum (S.2.1 0).2.1 (g_n (a_g A)) = nI (q_sum (g_β (a_g A)) (g_n (a_g A))) from by rw [t2, q_sum_I]) ?_
    exact x_ireturn rfl rfl rfl (Nat.le_of_ble_eq_true rfl) (Nat.le_of_ble_eq_true rfl) (h _ _ hS hA x_fr.rf)
  rw [if_neg e1] at h
  by_cases e2 : a = 2
  · rw [if_pos e2] at h
    subst e2
    refine x_iload_n (pc' := 1) rfl rfl rfl ?_
    refine x_tableIn (tgt := 72) rfl (by decide) (by decide) rfl rfl ?_
    refine x_aload_n (pc' := 73) rfl rfl rfl ?_
    refine x_get (pc' := 76) rfl rfl rfl (hS.1) rfl ?_
    refine x_iconst (pc' := 77) rfl rfl iconst_0 ?_
    refine x_cV1i (d := 1) (pc' := 80) rfl rfl sX5_205 gX3_purseOf (hT.1) ⟨Nat.le_of_ble_eq_true rfl, Nat.le_of_ble_eq_true rfl⟩ (Nat.le_of_ble_eq_true rfl) ⟨Nat.le_of_ble_eq_true rfl, Nat.le_of_ble_eq_true rfl⟩ ?_
    refine w_purseOf hT (fun q => ⟨_, rfl, ?_⟩) (fun q => absurd (by decide) q)
    refine x_eqi (show (S.2.1 0).2.2.1 (Int32.toNatClampNeg 0) = nI (g_π (a_g A) 0) from by rw [t3]; rfl) ?_
    exact x_ireturn rfl rfl rfl (Nat.le_of_ble_eq_true rfl) (Nat.le_of_ble_eq_true rfl) (h _ _ hS hA x_fr.rf)
  rw [if_neg e2] at h
  by_cases e3 : a = 3
  · rw [if_pos e3] at h
    subst e3
    refine x_iload_n (pc' := 1) rfl rfl rfl ?_
    refine x_tableIn (tgt := 81) rfl (by decide) (by decide) rfl rfl ?_
    refine x_aload_n (pc' := 82) rfl rfl rfl ?_
    refine x_get (pc' := 85) rfl rfl rfl (hS.1) rfl ?_
    refine x_iconst (pc' := 86) rfl rfl iconst_1 ?_
    refine x_cV1i (d := 1) (pc' := 89) rfl rfl sX5_205 gX3_purseOf (hT.1) ⟨Nat.le_of_ble_eq_true rfl, Nat.le_of_ble_eq_true rfl⟩ (Nat.le_of_ble_eq_true rfl) ⟨Nat.le_of_ble_eq_true rfl, Nat.le_of_ble_eq_true rfl⟩ ?_
    refine w_purseOf hT (fun q => ⟨_, rfl, ?_⟩) (fun q => absurd (by decide) q)
    refine x_eqi (show (S.2.1 0).2.2.1 (Int32.toNatClampNeg 1) = nI (g_π (a_g A) 1) from by rw [t3]; rfl) ?_
    exact x_ireturn rfl rfl rfl (Nat.le_of_ble_eq_true rfl) (Nat.le_of_ble_eq_true rfl) (h _ _ hS hA x_fr.rf)
  rw [if_neg e3] at h
  by_cases e4 : a = 4
  · rw [if_pos e4] at h
    subst e4
    refine x_iload_n (pc' := 1) rfl rfl rfl ?_
    refine x_tableIn (tgt := 90) rfl (by decide) (by decide) rfl rfl ?_
    refine x_aload_n (pc' := 91) rfl rfl rfl ?_
    refine x_get (pc' := 94) rfl rfl rfl (hS.1) rfl ?_
    refine x_get (pc' := 97) rfl rfl rfl (hT.1) rfl ?_
    refine x_eqi t7 ?_
    exact x_ireturn rfl rfl rfl (Nat.le_of_ble_eq_true rfl) (Nat.le_of_ble_eq_true rfl) (h _ _ hS hA x_fr.rf)
  rw [if_neg e4] at h
  by_cases e5 : a = 5
  · rw [if_pos e5] at h
    subst e5
    refine x_iload_n (pc' := 1) rfl rfl rfl ?_
    refine x_tableIn (tgt := 98) rfl (by decide) (by decide) rfl rfl ?_
    refine x_aload_n (pc' := 99) rfl rfl rfl ?_
    refine x_get (pc' := 102) rfl rfl rfl (hS.1) rfl ?_
    refine x_get (pc' := 105) rfl rfl rfl (hT.1) rfl ?_
    refine x_eqi b2 ?_
    exact x_ireturn rfl rfl rfl (Nat.le_of_ble_eq_true rfl) (Nat.le_of_ble_eq_true rfl) (h _ _ hS hA x_fr.rf)
  rw [if_neg e5] at h
  by_cases e6 : a = 6
  · rw [if_pos e6] at h
    subst e6
    refine x_iload_n (pc' := 1) rfl rfl rfl ?_
    refine x_tableIn (tgt := 106) rfl (by decide) (by decide) rfl rfl ?_
    refine x_aload_n (pc' := 107) rfl rfl rfl ?_
    refine x_get (pc' := 110) rfl rfl rfl (hS.1) rfl ?_
    refine x_get (pc' := 113) rfl rfl rfl (hT.1) rfl ?_
    refine x_eqi t5 ?_
    exact x_ireturn rfl rfl rfl (Nat.le_of_ble_eq_true rfl) (Nat.le_of_ble_eq_true rfl) (h _ _ hS hA x_fr.rf)
  rw [if_neg e6] at h
  by_cases e7 : a = 7
  · rw [if_pos e7] at h
    subst e7
    refine x_iload_n (pc' := 1) rfl rfl rfl ?_
    refine x_tableIn (tgt := 114) rfl (by decide) (by decide) rfl rfl ?_
    refine x_aload_n (pc' := 115) rfl rfl rfl ?_
    refine x_get (pc' := 118) rfl rfl rfl (hS.1) rfl ?_
    refine x_get (pc' := 121) rfl rfl rfl (hT.1) rfl ?_
    refine x_eqi t6 ?_
    exact x_ireturn rfl rfl rfl (Nat.le_of_ble_eq_true rfl) (Nat.le_of_ble_eq_true rfl) (h _ _ hS hA x_fr.rf)
  rw [if_neg e7] at h
  by_cases e8 : a = 8
  · rw [if_pos e8] at h
    subst e8
    refine x_iload_n (pc' := 1) rfl rfl rfl ?_
    refine x_tableIn (tgt := 122) rfl (by decide) (by decide) rfl rfl ?_
    refine x_aload_n (pc' := 123) rfl rfl rfl ?_
    refine x_get (pc' := 126) rfl rfl rfl (hS.1) rfl ?_
    refine x_eqi b6 ?_
    exact x_ireturn rfl rfl rfl (Nat.le_of_ble_eq_true rfl) (Nat.le_of_ble_eq_true rfl) (h _ _ hS hA x_fr.rf)
  rw [if_neg e8] at h
  by_cases e9 : a = 9
  · rw [if_pos e9] at h
    subst e9
    refine x_iload_n (pc' := 1) rfl rfl rfl ?_
    refine x_tableIn (tgt := 127) rfl (by decide) (by decide) rfl rfl ?_
    refine x_aload_n (pc' := 128) rfl rfl rfl ?_
    refine x_get (pc' := 131) rfl rfl rfl (hS.1) rfl ?_
    refine x_get (pc' := 134) rfl rfl rfl (hS.lt) rfl ?_
    refine x_eqi b4 ?_
    exact x_ireturn rfl rfl rfl (Nat.le_of_ble_eq_true rfl) (Nat.le_of_ble_eq_true rfl) (h _ _ hS hA x_fr.rf)
  rw [if_neg e9] at h
  have hout : a.toInt < 0 ∨ (9 : Int) < a.toInt := x_tab_out (fun q h1 h2 => by
    have h3 : q = 0 ∨ q = 1 ∨ q = 2 ∨ q = 3 ∨ q = 4 ∨ q = 5 ∨ q = 6 ∨ q = 7 ∨ q = 8 ∨ q = 9 := by omega
    rcases h3 with rfl | rfl | rfl | rfl | rfl | rfl | rfl | rfl | rfl | rfl <;> assumption)
  refine x_iload_n (pc' := 1) rfl rfl rfl ?_
  refine x_tableOut (tgt := 135) rfl (hout) rfl ?_
  refine x_iload_n (pc' := 136) rfl rfl rfl ?_
  refine x_bipush (pc' := 138) rfl rfl bipush_11 ?_
  refine x_icmp_lt (tgt := 159) (pc' := 141) rfl rfl rfl (fun c138 => ?_) (fun c138 => ?_)
  · rw [if_neg (fun q => q.1 c138)] at h
    refine x_bipush (pc' := 161) rfl rfl bipush_m9 ?_
    exact x_ireturn rfl rfl rfl (Nat.le_of_ble_eq_true rfl) (Nat.le_of_ble_eq_true rfl) (h _ _ hS hA x_fr.rf)
  · refine x_iload_n (pc' := 142) rfl rfl rfl ?_
    refine x_bipush (pc' := 144) rfl rfl bipush_16 ?_
    refine x_icmp_gt (tgt := 159) (pc' := 147) rfl rfl rfl (fun c144 => ?_) (fun c144 => ?_)
    · rw [if_neg (fun q => q.2 c144)] at h
      refine x_bipush (pc' := 161) rfl rfl bipush_m9 ?_
      exact x_ireturn rfl rfl rfl (Nat.le_of_ble_eq_true rfl) (Nat.le_of_ble_eq_true rfl) (h _ _ hS hA x_fr.rf)
    · have d1 : ¬ a < 11 ∧ ¬ 16 < a := ⟨c138, c144⟩
      rw [if_pos d1] at h
      obtain ⟨ka, hka, rfl⟩ := nI_of2 (n := 16) (M := 16) rfl (fun q => c138 (Int32.lt_trans q (by decide))) (Int32.not_lt.mp c144)
      have hk11 : 11 ≤ ka := Nat.not_lt.mp (fun q => c138 (nI_lt (a := ka) (b := 11) q (by decide)))
      refine x_aload_n (pc' := 148) rfl rfl rfl ?_
      refine x_get (pc' := 151) rfl rfl rfl (hS.1) rfl ?_
      refine x_iload_n (pc' := 152) rfl rfl rfl ?_
      refine x_bipush (pc' := 154) rfl rfl bipush_10 ?_
      refine x_isub (pc' := 155) rfl rfl ?_
      refine x_eqi (show nI ka - 10 = nI (ka - 10) from pk_sub (a := ka) (b := 10) (by omega)) ?_
      refine x_iaload (pc' := 156) rfl rfl (hS.2.2.1 6 (by decide)) (vp_in_nI (N := 7) (by omega) (by decide)) ?_
      refine x_eqi (show S.2.2.1 6 (nI (ka - 10)).toNatClampNeg = a_no A ((nI ka).toNatClampNeg - 10) from by rw [nI_clamp (by omega), nI_clamp (by omega), b8]) ?_
      refine x_goto (tgt := 161) rfl rfl ?_
      exact x_ireturn rfl rfl rfl (Nat.le_of_ble_eq_true rfl) (Nat.le_of_ble_eq_true rfl) (h _ _ hS hA x_fr.rf)
end CC
end
section
-- == 42.classD
/-! The class: lots, back, loop. -/
def q_lots : Nat → Int32 → Int32 → q_G → Int32
  | 0, _, s, _ => s
  | k + 1, z, s, g => q_lots k (q_lot 20 z g).1 (s + (nI (g_π (q_lot 20 z g).2 (g_t g)) - nI (g_π (q_lot 20 z g).2 (1 - g_t g)))) g
def s_lots (A : q_A) (a z : Int32) : q_A × Int32 := if a < 1 then (s_no A 4, 1000000000 - (-4)) else if 20 < a then (s_no A 6, 1000000000 - (-6)) else if g_n (a_g A) < 2 then (s_no A 3, 1000000000 - (-3)) else (A, q_lots a.toNatClampNeg z 0 (a_g A))
theorem x_ut_ut (X : Nat → x_T) (j : Nat) (T U : x_T) : x_ut (x_ut X j T) j U = x_ut X j U := by
  funext i
  unfold x_ut
  split <;> rfl
section CD
variable {E : x_E} {z : Nat} {f : x_H} {S : x_S} {A : q_A} {post : Option Value → x_H → Prop} {a b : Int32}
theorem x_Sys.tt {f' : x_H} {j : Nat} {T U : x_T} (h : x_Sys z f (S.1, x_ut S.2.1 j T, S.2.2.1, S.2.2.2)) (hj : j < 11) (ht : x_t z f' (x_tp j) U) (hf : x_fr (x_ot (x_tp j)) f f') : x_Sys z f' (S.1, x_ut S.2.1 j U, S.2.2.1, S.2.2.2) := by
  have h2 := h.tab j hj ht hf
  rw [show (S.1, x_ut S.2.1 j T, S.2.2.1, S.2.2.2).2.1 = x_ut S.2.1 j T from rfl, x_ut_ut] at h2
  exact h2
theorem c_lotL {w0 : Int32} {n : Nat} (hn9 : n ≤ 9) (h2n : 2 ≤ n) (f0 : x_H) (S0 : x_S) (R : Int32 × q_G) (h : ∀ (f' : x_H) (T' : x_T), x_Sys z f' (S0.1, x_ut S0.2.1 2 T', S0.2.2.1, S0.2.2.2) → t_is T' R.2 → x_fr (fun q => 59 ≤ q) f0 f' → post (some (.int R.1)) f') : ∀ (k i : Nat) (w : Int32) (g : q_G) (f : x_H) (T : x_T), i + k = 20 → g_ok 99 g → g_n g = n → q_lot k w g = R → x_Sys z f (S0.1, x_ut S0.2.1 2 T, S0.2.2.1, S0.2.2.2) → t_is T g → x_fr (fun q => 59 ≤ q) f0 f → X E (x_rm 5 0 0) mX5_playLot (x_QM E z 0 0 post) 4 [(3, .int (nI i)), (2, .int w), (0, .ref 0), (1, .int w0)] [] z f 0 0 := by
  intro k
  induction k with
  | zero =>
    intro i w g f T hi hg hgn he hS hT hF
    have hi2 : i = 20 := by omega
    subst hi2
    have he2 : (w, g) = R := he
    subst he2
    refine x_iload_n (pc' := 5) rfl rfl rfl ?_
    refine x_bipush (pc' := 7) rfl rfl bipush_20 ?_
    refine x_icmp_ge (tgt := 92) (pc' := 10) rfl rfl rfl (fun _ => ?_) (fun c7 => absurd ((by decide : (20 : Int32) ≤ nI 20)) c7)
    refine x_iload_n (pc' := 93) rfl rfl rfl ?_
    exact x_ireturn rfl rfl rfl (Nat.le_of_ble_eq_true rfl) (Nat.le_of_ble_eq_true rfl) (h _ T hS hT hF)
  | succ k ih =>
    intro i w g f T hi hg hgn he hS hT hF
    have hTt : x_t z f 9 T := hS.2.1 2 (by decide)
    subst hgn
    have hTn : T.2.2.2 0 = nI (g_n g) := hT.2.2.2.1
    replace he : q_lot k (q_z w) (if g_can g (q_zb (q_z w) (g_n g)) then g_mv g (q_zb (q_z w) (g_n g)) else g_flip g) = R := he
    have hzb : q_zb (q_z w) (g_n g) < g_n g := Nat.mod_lt _ (by omega)
    refine x_iload_n (pc' := 5) rfl rfl rfl ?_
    refine x_bipush (pc' := 7) rfl rfl bipush_20 ?_
    refine x_icmp_ge (tgt := 92) (pc' := 10) rfl rfl rfl (fun c7 => absurd c7 ((nI_ge (a := i) (b := 20) (by omega) (by decide)))) (fun _ => ?_)
    refine x_aload_n (pc' := 11) rfl rfl rfl ?_
    refine x_get (pc' := 14) rfl rfl rfl (hS.1) rfl ?_
    refine x_get (pc' := 17) rfl rfl rfl (hTt.1) rfl ?_
    refine x_eqi hTn ?_
    refine x_if_le (tgt := 92) (pc' := 20) rfl rfl rfl (fun c17 => absurd c17 ((nI_nle (by omega) (by omega)))) (fun _ => ?_)
    refine x_iload_n (pc' := 21) rfl rfl rfl ?_
    refine x_ldc (pc' := 23) rfl rfl rfl ?_
    refine x_imul (pc' := 24) rfl rfl ?_
    refine x_ldc (pc' := 26) rfl rfl rfl ?_
    refine x_iadd (pc' := 27) rfl rfl ?_
    refine x_eqi (show w * 1664525 + 1013904223 = q_z w from rfl) ?_
    refine x_istore_n (pc' := 28) (lv' := [(2, _), (3, _), (0, _), (1, _)]) rfl rfl (Nat.le_of_ble_eq_true rfl) rfl ?_
    refine x_iload_n (pc' := 29) rfl rfl rfl ?_
    refine x_ldc (pc' := 31) rfl rfl rfl ?_
    refine x_iand (pc' := 32) rfl rfl ?_
    refine x_sipush (pc' := 35) rfl rfl sipush_256 ?_
    refine x_idiv (pc' := 36) rfl rfl (by decide) ?_
    refine x_aload_n (pc' := 37) rfl rfl rfl ?_
    refine x_get (pc' := 40) rfl rfl rfl (hS.1) rfl ?_
    refine x_get (pc' := 43) rfl rfl rfl (hTt.1) rfl ?_
    refine x_eqi hTn ?_
    refine x_irem (pc' := 44) rfl rfl (nI_ne0 (by omega) (by omega)) ?_
    refine x_eqi (q_zI (q_z w) (by omega) hn9) ?_
    refine x_istore (pc' := 46) (lv' := [(4, _), (2, _), (3, _), (0, _), (1, _)]) rfl rfl (Nat.le_of_ble_eq_true rfl) rfl ?_
    refine x_aload_n (pc' := 47) rfl rfl rfl ?_
    refine x_get (pc' := 50) rfl rfl rfl (hS.1) rfl ?_
    refine x_iload (pc' := 52) rfl rfl rfl ?_
    refine x_cV1i (d := 2) (pc' := 55) rfl rfl sX5_118 gX3_canMove (hTt.1) ⟨Nat.le_of_ble_eq_true rfl, Nat.le_of_ble_eq_true rfl⟩ (Nat.le_of_ble_eq_true rfl) ⟨Nat.le_of_ble_eq_true rfl, Nat.le_of_ble_eq_true rfl⟩ ?_
    refine w_can hTt hT hg (by decide) (by omega) (fun d2 => ⟨_, rfl, ?_⟩) (fun d2 => ⟨_, rfl, ?_⟩)
    · rw [if_pos d2] at he
      refine x_if_eq (tgt := 70) (pc' := 58) rfl rfl rfl (fun c55 => absurd c55 ((by decide))) (fun _ => ?_)
      refine x_aload_n (pc' := 59) rfl rfl rfl ?_
      refine x_get (pc' := 62) rfl rfl rfl (hS.1) rfl ?_
      refine x_iload (pc' := 64) rfl rfl rfl ?_
      refine x_cV1v (d := 4) (pc' := 67) rfl rfl sX5_124 gX3_makeMove (hTt.1) ⟨Nat.le_of_ble_eq_true rfl, Nat.le_of_ble_eq_true rfl⟩ (Nat.le_of_ble_eq_true rfl) ⟨Nat.le_of_ble_eq_true rfl, Nat.le_of_ble_eq_true rfl⟩ ?_
      refine w_move hTt hT hg (by decide) d2.2.1 (fun f1 T1 hT1 g1 g4 g5 g6 g7 g8 hF1 => ⟨rfl, ?_⟩)
      have hS1 := hS.tt (j := 2) (by decide) hT1 hF1
      refine x_goto (tgt := 86) rfl rfl ?_
      refine x_iinc (pc' := 89) (lv' := [(3, _), (4, _), (2, _), (0, _), (1, _)]) rfl rfl (Nat.le_of_ble_eq_true rfl) rfl (nI_1 i) rfl ?_
      refine x_goto (tgt := 4) rfl rfl ?_
      refine x_lvp [0, 2, 3, 4] rfl ?_
      exact ih (i + 1) _ _ _ _ (by omega) (g_mv_ok hg (by decide) (by decide) d2.2.1) rfl he hS1 g1 (hF.trans (c_fr0 (j := 2) (by decide) hF1))
    · rw [if_neg d2] at he
      refine x_if_eq (tgt := 70) (pc' := 58) rfl rfl rfl (fun _ => ?_) (fun c55 => absurd ((by decide)) c55)
      refine x_aload_n (pc' := 71) rfl rfl rfl ?_
      refine x_get (pc' := 74) rfl rfl rfl (hS.1) rfl ?_
      refine x_iconst (pc' := 75) rfl rfl iconst_1 ?_
      refine x_aload_n (pc' := 76) rfl rfl rfl ?_
      refine x_get (pc' := 79) rfl rfl rfl (hS.1) rfl ?_
      refine x_get (pc' := 82) rfl rfl rfl (hTt.1) rfl ?_
      refine x_eqi hT.2.2.2.2.2.2 ?_
      refine x_isub (pc' := 83) rfl rfl ?_
      refine x_eqi (show (1 : Int32) - nI (g_t g) = nI (1 - g_t g) from pk_sub (a := 1) hg.2.2.2.1) ?_
      refine x_put (pc' := 86) rfl rfl rfl (hTt.1) (Nat.le_of_ble_eq_true rfl) rfl rfl rfl rfl (fun f1 e1 => ?_)
      have hT1 := hTt.num 3 e1 (x_tFs3 _ _ _)
      have hF1 := (x_fr.rf (P := x_ot 9)).up e1 (by decide)
      have hS1 := hS.tt (j := 2) (by decide) hT1 hF1
      refine x_iinc (pc' := 89) (lv' := [(3, _), (4, _), (2, _), (0, _), (1, _)]) rfl rfl (Nat.le_of_ble_eq_true rfl) rfl (nI_1 i) rfl ?_
      refine x_goto (tgt := 4) rfl rfl ?_
      refine x_lvp [0, 2, 3, 4] rfl ?_
      exact ih (i + 1) _ (g_flip g) _ _ (by omega) (g_flip_ok hg) rfl he hS1 ⟨hT.1, hT.2.1, hT.2.2.1, hT.2.2.2.1, hT.2.2.2.2.1, hT.2.2.2.2.2.1, rfl⟩ (hF.trans (c_fr0 (j := 2) (by decide) hF1))
theorem c_playLot {w : Int32} {g : q_G} {T : x_T} (hS : x_Sys z f (S.1, x_ut S.2.1 2 T, S.2.2.1, S.2.2.2)) (hT : t_is T g) (hg : g_ok 99 g) (h2n : 2 ≤ g_n g) (h : ∀ (f' : x_H) (T' : x_T), x_Sys z f' (S.1, x_ut S.2.1 2 T', S.2.2.1, S.2.2.2) → t_is T' (q_lot 20 w g).2 → x_fr (fun q => 59 ≤ q) f f' → post (some (.int (q_lot 20 w g).1)) f') : Y E 5 mX5_playLot [.ref 0, .int w] z f 0 0 post := by
  refine Y.intro gX5_playLot (lv := [(0, .ref 0), (1, .int w)]) rfl (Nat.le_of_ble_eq_true rfl) ?_
  refine x_iload_n (pc' := 1) rfl rfl rfl ?_
  refine x_istore_n (pc' := 2) (lv' := [(2, _), (0, _), (1, _)]) rfl rfl (Nat.le_of_ble_eq_true rfl) rfl ?_
  refine x_iconst (pc' := 3) rfl rfl iconst_0 ?_
  refine x_istore_n (pc' := 4) (lv' := [(3, _), (2, _), (0, _), (1, _)]) rfl rfl (Nat.le_of_ble_eq_true rfl) rfl ?_
  exact c_lotL hg.1 h2n f S _ h 20 0 w g f T (by omega) hg rfl rfl hS hT x_fr.rf
theorem c_lotsL {w0 : Int32} {N : Nat} (hN : N ≤ 20) (ho : a_ok A) (h2n : 2 ≤ g_n (a_g A)) (f0 : x_H) (S0 : x_S) (hA : c_is S0 A) (r : Int32) (h : c_ends z f0 post (A, r)) : ∀ (k i : Nat) (w s : Int32) (f : x_H) (T : x_T), i + k = N → q_lots k w s (a_g A) = r → x_Sys z f (S0.1, x_ut S0.2.1 2 T, S0.2.2.1, S0.2.2.2) → x_fr (fun q => 59 ≤ q) f0 f → X E (x_rm 9 0 0) mX5_lots (x_QM E z 0 0 post) 51 [(5, .int (nI i)), (4, .int s), (3, .int w), (0, .ref 0), (1, .int (nI N)), (2, .int w0)] [] z f 0 0 := by
  obtain ⟨b1, b2, b3, b4, b5, b6, b7, b8⟩ := id hA
  have ht1 := ho.1.2.2.2.1
  intro k
  induction k with
  | zero =>
    intro i w s f T hi he hS hF
    have hi2 : i = N := by omega
    subst hi2
    have he2 : s = r := he
    subst he2
    refine x_iload (pc' := 53) rfl rfl rfl ?_
    refine x_iload_n (pc' := 54) rfl rfl rfl ?_
    refine x_icmp_ge (tgt := 116) (pc' := 57) rfl rfl rfl (fun _ => ?_) (fun c54 => absurd (Int32.le_refl _) c54)
    refine x_iload (pc' := 118) rfl rfl rfl ?_
    exact x_ireturn rfl rfl rfl (Nat.le_of_ble_eq_true rfl) (Nat.le_of_ble_eq_true rfl) (h _ _ hS (c_tr hA) hF)
  | succ k ih =>
    intro i w s f T hi he hS hF
    replace he : q_lots k (q_lot 20 w (a_g A)).1 (s + (nI (g_π (q_lot 20 w (a_g A)).2 (g_t (a_g A))) - nI (g_π (q_lot 20 w (a_g A)).2 (1 - g_t (a_g A))))) (a_g A) = r := he
    have hTt : x_t z f 9 T := hS.2.1 2 (by decide)
    have hT0 : x_t z f 1 (S0.2.1 0) := hS.2.1 0 (by decide)
    refine x_iload (pc' := 53) rfl rfl rfl ?_
    refine x_iload_n (pc' := 54) rfl rfl rfl ?_
    refine x_icmp_ge (tgt := 116) (pc' := 57) rfl rfl rfl (fun c54 => absurd c54 ((nI_ge (by omega) (by omega)))) (fun _ => ?_)
    refine x_aload_n (pc' := 58) rfl rfl rfl ?_
    refine x_get (pc' := 61) rfl rfl rfl (hS.1) rfl ?_
    refine x_aload_n (pc' := 62) rfl rfl rfl ?_
    refine x_get (pc' := 65) rfl rfl rfl (hS.1) rfl ?_
    refine x_cV1v (d := 1) (pc' := 68) rfl rfl sX5_79 gX3_copyFrom (hTt.1) ⟨Nat.le_of_ble_eq_true rfl, Nat.le_of_ble_eq_true rfl⟩ (Nat.le_of_ble_eq_true rfl) ⟨Nat.le_of_ble_eq_true rfl, Nat.le_of_ble_eq_true rfl⟩ ?_
    refine w_copyFrom hTt hT0 (by decide) (fun f1 hT1 hF1 => ⟨rfl, ?_⟩)
    have hS1 := hS.tt (j := 2) (by decide) hT1 hF1
    refine x_aload_n (pc' := 69) rfl rfl rfl ?_
    refine x_iload_n (pc' := 70) rfl rfl rfl ?_
    refine x_cV1i (d := 5) (pc' := 73) rfl rfl sX5_208 gX5_playLot (hS1.1) ⟨Nat.le_of_ble_eq_true rfl, Nat.le_of_ble_eq_true rfl⟩ (Nat.le_of_ble_eq_true rfl) ⟨Nat.le_of_ble_eq_true rfl, Nat.le_of_ble_eq_true rfl⟩ ?_
    refine c_playLot hS1 (x_cp_is b1) ho.1 h2n (fun f2 T2 hS2 g2 hF2 => ⟨_, rfl, ?_⟩)
    have hT2 : x_t z f2 9 T2 := hS2.2.1 2 (by decide)
    have hT02 : x_t z f2 1 (S0.2.1 0) := hS2.2.1 0 (by decide)
    refine x_istore_n (pc' := 74) (lv' := [(3, _), (5, _), (4, _), (0, _), (1, _), (2, _)]) rfl rfl (Nat.le_of_ble_eq_true rfl) rfl ?_
    refine x_iload (pc' := 76) rfl rfl rfl ?_
    refine x_aload_n (pc' := 77) rfl rfl rfl ?_
    refine x_get (pc' := 80) rfl rfl rfl (hS2.1) rfl ?_
    refine x_aload_n (pc' := 81) rfl rfl rfl ?_
    refine x_get (pc' := 84) rfl rfl rfl (hS2.1) rfl ?_
    refine x_get (pc' := 87) rfl rfl rfl (hT02.1) rfl ?_
    refine x_eqi b1.2.2.2.2.2.2 ?_
    refine x_cV1i (d := 1) (pc' := 90) rfl rfl sX5_205 gX3_purseOf (hT2.1) ⟨Nat.le_of_ble_eq_true rfl, Nat.le_of_ble_eq_true rfl⟩ (Nat.le_of_ble_eq_true rfl) ⟨Nat.le_of_ble_eq_true rfl, Nat.le_of_ble_eq_true rfl⟩ ?_
    refine w_purseOf hT2 (fun q => ⟨_, rfl, ?_⟩) (fun q => absurd ⟨nI_pos (by omega), nI_lt (a := g_t (a_g A)) (b := 2) (by omega) (by decide)⟩ q)
    refine x_eqi (show T2.2.2.1 (nI (g_t (a_g A))).toNatClampNeg = nI (g_π (q_lot 20 w (a_g A)).2 (g_t (a_g A))) from by rw [nI_clamp (by omega), g2.2.2.1]) ?_
    refine x_aload_n (pc' := 91) rfl rfl rfl ?_
    refine x_get (pc' := 94) rfl rfl rfl (hS2.1) rfl ?_
    refine x_iconst (pc' := 95) rfl rfl iconst_1 ?_
    refine x_aload_n (pc' := 96) rfl rfl rfl ?_
    refine x_get (pc' := 99) rfl rfl rfl (hS2.1) rfl ?_
    refine x_get (pc' := 102) rfl rfl rfl (hT02.1) rfl ?_
    refine x_eqi b1.2.2.2.2.2.2 ?_
    refine x_isub (pc' := 103) rfl rfl ?_
    refine x_eqi (show (1 : Int32) - nI (g_t (a_g A)) = nI (1 - g_t (a_g A)) from pk_sub (a := 1) ht1) ?_
    refine x_cV1i (d := 1) (pc' := 106) rfl rfl sX5_205 gX3_purseOf (hT2.1) ⟨Nat.le_of_ble_eq_true rfl, Nat.le_of_ble_eq_true rfl⟩ (Nat.le_of_ble_eq_true rfl) ⟨Nat.le_of_ble_eq_true rfl, Nat.le_of_ble_eq_true rfl⟩ ?_
    refine w_purseOf hT2 (fun q => ⟨_, rfl, ?_⟩) (fun q => absurd ⟨nI_pos (by omega), nI_lt (a := 1 - g_t (a_g A)) (b := 2) (by omega) (by decide)⟩ q)
    refine x_eqi (show T2.2.2.1 (nI (1 - g_t (a_g A))).toNatClampNeg = nI (g_π (q_lot 20 w (a_g A)).2 (1 - g_t (a_g A))) from by rw [nI_clamp (by omega), g2.2.2.1]) ?_
    refine x_isub (pc' := 107) rfl rfl ?_
    refine x_iadd (pc' := 108) rfl rfl ?_
    refine x_istore (pc' := 110) (lv' := [(4, _), (3, _), (5, _), (0, _), (1, _), (2, _)]) rfl rfl (Nat.le_of_ble_eq_true rfl) rfl ?_
    refine x_iinc (pc' := 113) (lv' := [(5, _), (4, _), (3, _), (0, _), (1, _), (2, _)]) rfl rfl (Nat.le_of_ble_eq_true rfl) rfl (nI_1 i) rfl ?_
    refine x_goto (tgt := 51) rfl rfl ?_
    exact ih (i + 1) _ _ _ _ (by omega) he hS2 (hF.trans ((c_fr0 (j := 2) (by decide) hF1).trans hF2))
theorem c_lots (hS : x_Sys z f S) (hA : c_is S A) (ho : a_ok A) (h : c_ends z f post (s_lots A a b)) : Y E 9 mX5_lots [.ref 0, .int a, .int b] z f 0 0 post := by
  refine Y.intro gX5_lots (lv := [(0, .ref 0), (1, .int a), (2, .int b)]) rfl (Nat.le_of_ble_eq_true rfl) ?_
  have hT := hS.2.1 0 (by decide)
  refine x_iload_n (pc' := 1) rfl rfl rfl ?_
  refine x_iconst (pc' := 2) rfl rfl iconst_1 ?_
  refine x_icmp_ge (tgt := 12) (pc' := 5) rfl rfl rfl (fun c2 => ?_) (fun c2 => ?_)
  · have d1 : ¬ a < 1 := Int32.not_lt.mpr c2
    refine x_iload_n (pc' := 13) rfl rfl rfl ?_
    refine x_bipush (pc' := 15) rfl rfl bipush_20 ?_
    refine x_icmp_le (tgt := 25) (pc' := 18) rfl rfl rfl (fun c15 => ?_) (fun c15 => ?_)
    · have d2 : ¬ 20 < a := Int32.not_lt.mpr c15
      refine x_aload_n (pc' := 26) rfl rfl rfl ?_
      refine x_get (pc' := 29) rfl rfl rfl (hS.1) rfl ?_
      refine x_get (pc' := 32) rfl rfl rfl (hT.1) rfl ?_
      refine x_eqi hA.1.2.2.2.1 ?_
      refine x_iconst (pc' := 33) rfl rfl iconst_2 ?_
      by_cases d3 : g_n (a_g A) < 2
      · rw [show s_lots A a b = _ from (if_neg d1).trans ((if_neg d2).trans (if_pos d3))] at h
        refine x_icmp_ge (tgt := 43) (pc' := 36) rfl rfl rfl (fun q => absurd q (nI_ge (b := 2) d3 (by decide))) (fun _ => ?_)
        refine x_aload_n (pc' := 37) rfl rfl rfl ?_
        refine x_bipush (pc' := 39) rfl rfl bipush_m3 ?_
        refine x_cV1i (d := 2) (pc' := 42) rfl rfl sX5_152 gX5_refuseFar (hS.1) ⟨Nat.le_of_ble_eq_true rfl, Nat.le_of_ble_eq_true rfl⟩ (Nat.le_of_ble_eq_true rfl) ⟨Nat.le_of_ble_eq_true rfl, Nat.le_of_ble_eq_true rfl⟩ ?_
        refine c_refuseFar (k := 3) (by decide) (by decide) hS hA (fun f1 S1 hS1 hA1 hF1 => ⟨_, rfl, ?_⟩)
        exact x_ireturn rfl rfl rfl (Nat.le_of_ble_eq_true rfl) (Nat.le_of_ble_eq_true rfl) (h _ _ hS1 hA1 hF1)
      · rw [show s_lots A a b = _ from (if_neg d1).trans ((if_neg d2).trans (if_neg d3))] at h
        refine x_icmp_ge (tgt := 43) (pc' := 36) rfl rfl rfl (fun _ => ?_) (fun q => absurd (nI_le (a := 2) (Nat.not_lt.mp d3) (by have := ho.1.1; omega)) q)
        obtain ⟨N, hN, rfl⟩ := nI_of2 (n := 20) (M := 20) rfl (fun q => d1 (Int32.lt_trans q (by decide))) (Int32.not_lt.mp d2)
        rw [nI_clamp (by omega)] at h
        refine x_iload_n (pc' := 44) rfl rfl rfl ?_
        refine x_istore_n (pc' := 45) (lv' := [(3, _), (0, _), (1, _), (2, _)]) rfl rfl (Nat.le_of_ble_eq_true rfl) rfl ?_
        refine x_iconst (pc' := 46) rfl rfl iconst_0 ?_
        refine x_istore (pc' := 48) (lv' := [(4, _), (3, _), (0, _), (1, _), (2, _)]) rfl rfl (Nat.le_of_ble_eq_true rfl) rfl ?_
        refine x_iconst (pc' := 49) rfl rfl iconst_0 ?_
        refine x_istore (pc' := 51) (lv' := [(5, _), (4, _), (3, _), (0, _), (1, _), (2, _)]) rfl rfl (Nat.le_of_ble_eq_true rfl) rfl ?_
        refine c_lotsL (S0 := S) hN ho (Nat.not_lt.mp d3) f hA _ h N 0 b 0 f (S.2.1 2) (by omega) rfl ?_ x_fr.rf
        have e9 : x_ut S.2.1 2 (S.2.1 2) = S.2.1 := by
          funext j
          unfold x_ut
          split
          · rename_i h9
            rw [h9]
          · rfl
        rw [e9]
        exact hS
    · rw [show s_lots A a b = _ from (if_neg d1).trans (if_pos (Int32.not_le.mp c15))] at h
      refine x_aload_n (pc' := 19) rfl rfl rfl ?_
      refine x_bipush (pc' := 21) rfl rfl bipush_m6 ?_
      refine x_cV1i (d := 2) (pc' := 24) rfl rfl sX5_152 gX5_refuseFar (hS.1) ⟨Nat.le_of_ble_eq_true rfl, Nat.le_of_ble_eq_true rfl⟩ (Nat.le_of_ble_eq_true rfl) ⟨Nat.le_of_ble_eq_true rfl, Nat.le_of_ble_eq_true rfl⟩ ?_
      refine c_refuseFar (k := 6) (by decide) (by decide) hS hA (fun f1 S1 hS1 hA1 hF1 => ⟨_, rfl, ?_⟩)
      exact x_ireturn rfl rfl rfl (Nat.le_of_ble_eq_true rfl) (Nat.le_of_ble_eq_true rfl) (h _ _ hS1 hA1 hF1)
  · rw [show s_lots A a b = _ from if_pos (Int32.not_le.mp c2)] at h
    refine x_aload_n (pc' := 6) rfl rfl rfl ?_
    refine x_bipush (pc' := 8) rfl rfl bipush_m4 ?_
    refine x_cV1i (d := 2) (pc' := 11) rfl rfl sX5_152 gX5_refuseFar (hS.1) ⟨Nat.le_of_ble_eq_true rfl, Nat.le_of_ble_eq_true rfl⟩ (Nat.le_of_ble_eq_true rfl) ⟨Nat.le_of_ble_eq_true rfl, Nat.le_of_ble_eq_true rfl⟩ ?_
    refine c_refuseFar (k := 4) (by decide) (by decide) hS hA (fun f1 S1 hS1 hA1 hF1 => ⟨_, rfl, ?_⟩)
    exact x_ireturn rfl rfl rfl (Nat.le_of_ble_eq_true rfl) (Nat.le_of_ble_eq_true rfl) (h _ _ hS1 hA1 hF1)
-- back, loop
theorem w_sameL {t u : Nat} {T U : x_T} {n : Nat} {β γ : Nat → Nat} (hT : x_t z f t T) (hU : x_t z f u U) (hn : T.2.2.2 0 = nI n) (hn9 : n ≤ 9) (hnU : U.2.2.2 0 = nI n) (hβ : T.2.1 = fun i => nI (β i)) (hγ : U.2.1 = fun i => nI (γ i)) (hβ5 : ∀ i, β i ≤ 100) (hγ5 : ∀ i, γ i ≤ 100) (h1 : (∀ i, i < n → β i = γ i) → post (some (.int 1)) f) (h0 : ¬ (∀ i, i < n → β i = γ i) → post (some (.int 0)) f) : ∀ (k i : Nat), i + k = n → (∀ j, j < i → β j = γ j) → X E (x_rm 3 0 0) mX3_sameBeans (x_QM E z 0 0 post) 2 [(2, .int (nI i)), (0, .ref t), (1, .ref u)] [] z f 0 0 := by
  intro k
  induction k with
  | zero =>
    intro i hi hj
    refine x_iload_n (pc' := 3) rfl rfl rfl ?_
    refine x_aload_n (pc' := 4) rfl rfl rfl ?_
    refine x_get (pc' := 7) rfl rfl rfl (hT.1) rfl ?_
    refine x_icmp_ge (tgt := 31) (pc' := 10) rfl rfl rfl (fun _ => ?_) (fun c7 => absurd ((by rw [hn]; exact nI_le (by omega) (by omega))) c7)
    refine x_iconst (pc' := 32) rfl rfl iconst_1 ?_
    exact x_ireturn rfl rfl rfl (Nat.le_of_ble_eq_true rfl) (Nat.le_of_ble_eq_true rfl) (h1 (fun j hj2 => hj j (by omega)))
  | succ k ih =>
    intro i hi hj
    have e1 : T.2.1 (nI i).toNatClampNeg = nI (β i) := by rw [nI_clamp (by omega), hβ]
    have e2 : U.2.1 (nI i).toNatClampNeg = nI (γ i) := by rw [nI_clamp (by omega), hγ]
    have k1 := hβ5 i
    have k2 := hγ5 i
    refine x_iload_n (pc' := 3) rfl rfl rfl ?_
    refine x_aload_n (pc' := 4) rfl rfl rfl ?_
    refine x_get (pc' := 7) rfl rfl rfl (hT.1) rfl ?_
    refine x_icmp_ge (tgt := 31) (pc' := 10) rfl rfl rfl (fun c7 => absurd c7 ((by rw [hn]; exact nI_ge (by omega) (by omega)))) (fun _ => ?_)
    refine x_aload_n (pc' := 11) rfl rfl rfl ?_
    refine x_iload_n (pc' := 12) rfl rfl rfl ?_
    refine x_cV1i (d := 2) (pc' := 15) rfl rfl sX3_59 gX3_beansOf (hT.1) ⟨Nat.le_of_ble_eq_true rfl, Nat.le_of_ble_eq_true rfl⟩ (Nat.le_of_ble_eq_true rfl) ⟨Nat.le_of_ble_eq_true rfl, Nat.le_of_ble_eq_true rfl⟩ ?_
    refine w_beansOf hT (fun g => ⟨_, rfl, ?_⟩) (fun g => absurd (t_has_nI hn hn9 (by omega)) g)
    refine x_eqi e1 ?_
    refine x_aload_n (pc' := 16) rfl rfl rfl ?_
    refine x_iload_n (pc' := 17) rfl rfl rfl ?_
    refine x_cV1i (d := 2) (pc' := 20) rfl rfl sX3_59 gX3_beansOf (hU.1) ⟨Nat.le_of_ble_eq_true rfl, Nat.le_of_ble_eq_true rfl⟩ (Nat.le_of_ble_eq_true rfl) ⟨Nat.le_of_ble_eq_true rfl, Nat.le_of_ble_eq_true rfl⟩ ?_
    refine w_beansOf hU (fun g => ⟨_, rfl, ?_⟩) (fun g => absurd (t_has_nI hnU hn9 (by omega)) g)
    refine x_eqi e2 ?_
    refine x_icmp_eq (tgt := 25) (pc' := 23) rfl rfl rfl (fun c20 => ?_) (fun c20 => ?_)
    · have d := (nI_eq (by omega) (by omega)).mp c20
      refine x_iinc (pc' := 28) (lv' := [(2, _), (0, _), (1, _)]) rfl rfl (Nat.le_of_ble_eq_true rfl) rfl (nI_1 i) rfl ?_
      refine x_goto (tgt := 2) rfl rfl ?_
      refine ih (i + 1) (by omega) (fun j hj2 => ?_)
      by_cases h9 : j = i
      · rw [h9]
        exact d
      · exact hj j (by omega)
    · have d : ¬ β i = γ i := fun q => c20 (by rw [q])
      refine x_iconst (pc' := 24) rfl rfl iconst_0 ?_
      exact x_ireturn rfl rfl rfl (Nat.le_of_ble_eq_true rfl) (Nat.le_of_ble_eq_true rfl) (h0 (fun q => d (q i (by omega))))
theorem w_same {t u : Nat} {T U : x_T} {g g' : q_G} (hT : x_t z f t T) (hU : x_t z f u U) (hg : t_is T g) (hg' : t_is U g') (ho : g_ok 100 g) (ho' : g_ok 100 g') (hnn : g_n g' = g_n g) (h1 : (∀ i, i < g_n g → g_β g i = g_β g' i) → post (some (.int 1)) f) (h0 : ¬ (∀ i, i < g_n g → g_β g i = g_β g' i) → post (some (.int 0)) f) : Y E 3 mX3_sameBeans [.ref t, .ref u] z f 0 0 post := by
  refine Y.intro gX3_sameBeans (lv := [(0, .ref t), (1, .ref u)]) rfl (Nat.le_of_ble_eq_true rfl) ?_
  refine x_iconst (pc' := 1) rfl rfl iconst_0 ?_
  refine x_istore_n (pc' := 2) (lv' := [(2, _), (0, _), (1, _)]) rfl rfl (Nat.le_of_ble_eq_true rfl) rfl ?_
  exact w_sameL hT hU hg.2.2.2.1 ho.1 (by rw [hg'.2.2.2.1, hnn]) hg.2.1 hg'.2.1 ho.2.2.2.2.2.1 ho'.2.2.2.2.2.1 h1 h0 (g_n g) 0 (by omega) (fun j hj => absurd hj (Nat.not_lt_zero j))
/-- tries are of the state that is now -/
def c_two (z : Nat) (f : x_H) (S0 : x_S) (A : q_A) (T U : x_T) (g u : q_G) : Prop := x_Sys z f (S0.1, x_ut (x_ut S0.2.1 2 T) 3 U, S0.2.2.1, S0.2.2.2) ∧ t_is T g ∧ t_is U u ∧ g_ok 99 g ∧ g_ok 99 u ∧ g_n g = g_n (a_g A) ∧ g_n u = g_n (a_g A)
theorem x_ut_cm (X : Nat → x_T) {i j : Nat} (T U : x_T) (h : i ≠ j) : x_ut (x_ut X i T) j U = x_ut (x_ut X j U) i T := by
  funext k
  unfold x_ut
  by_cases h1 : k = j
  · rw [if_pos h1, if_neg (by omega), if_pos h1]
  · rw [if_neg h1]
    by_cases h2 : k = i
    · rw [if_pos h2, if_pos h2]
    · rw [if_neg h2, if_neg h2, if_neg h1]
theorem c_two.t2 {f' : x_H} {S0 : x_S} {T U T' : x_T} {g u g' : q_G} (h : c_two z f S0 A T U g u) (ht : x_t z f' 9 T') (hf : x_fr (x_ot 9) f f') (hg : t_is T' g') (ho : g_ok 99 g') (hn : g_n g' = g_n g) : c_two z f' S0 A T' U g' u := by
  obtain ⟨h1, h2, h3, h4, h5, h6, h7⟩ := h
  refine ⟨?_, hg, h3, ho, h5, hn.trans h6, h7⟩
  have h8 := h1.tab 2 (by decide) ht hf
  rw [show (S0.1, x_ut (x_ut S0.2.1 2 T) 3 U, S0.2.2.1, S0.2.2.2).2.1 = x_ut (x_ut S0.2.1 2 T) 3 U from rfl, x_ut_cm _ _ _ (by decide : 3 ≠ 2), x_ut_ut] at h8
  exact h8
theorem c_two.t3 {f' : x_H} {S0 : x_S} {T U U' : x_T} {g u u' : q_G} (h : c_two z f S0 A T U g u) (ht : x_t z f' 13 U') (hf : x_fr (x_ot 13) f f') (hg : t_is U' u') (ho : g_ok 99 u') (hn : g_n u' = g_n u) : c_two z f' S0 A T U' g u' := by
  obtain ⟨h1, h2, h3, h4, h5, h6, h7⟩ := h
  refine ⟨?_, h2, hg, h4, ho, h6, hn.trans h7⟩
  have h8 := h1.tab 3 (by decide) ht hf
  rw [show (S0.1, x_ut (x_ut S0.2.1 2 T) 3 U, S0.2.2.1, S0.2.2.2).2.1 = x_ut (x_ut S0.2.1 2 T) 3 U from rfl, x_ut_ut] at h8
  exact h8
theorem c_two.is {S0 : x_S} {T U : x_T} {g u : q_G} (h : c_two z f S0 A T U g u) (hA : c_is S0 A) : c_is (S0.1, x_ut (x_ut S0.2.1 2 T) 3 U, S0.2.2.1, S0.2.2.2) A := hA.sc ((c_sc.tab (j := 2) (T := T) (by decide) (by decide)).trans (c_sc.tab (S := (S0.1, x_ut S0.2.1 2 T, S0.2.2.1, S0.2.2.2)) (j := 3) (T := U) (by decide) (by decide)))
theorem c_two.of {S0 : x_S} {g u : q_G} (h : x_Sys z f S0) (h2 : t_is (S0.2.1 2) g) (h3 : t_is (S0.2.1 3) u) (h4 : g_ok 99 g) (h5 : g_ok 99 u) (h6 : g_n g = g_n (a_g A)) (h7 : g_n u = g_n (a_g A)) : c_two z f S0 A (S0.2.1 2) (S0.2.1 3) g u := by
  refine ⟨?_, h2, h3, h4, h5, h6, h7⟩
  have e9 : x_ut (x_ut S0.2.1 2 (S0.2.1 2)) 3 (S0.2.1 3) = S0.2.1 := by
    funext j
    unfold x_ut
    split
    · rename_i h9
      rw [h9]
    · split
      · rename_i h9
        rw [h9]
      · rfl
  rw [e9]
  exact h
def n_bowl (A : q_A) (a : Int32) : q_A := if q_in (g_n (a_g A)) a then A else s_no A 1
theorem c_backL {b : Nat} (ho : a_ok A) (hb : b < g_n (a_g A)) (f0 : x_H) (S0 : x_S) (hA : c_is S0 A) (h : c_any z f0 post A) : ∀ (k i : Nat) (f : x_H) (T U : x_T) (g u : q_G), i + k = 201 → c_two z f S0 A T U g u → x_fr (fun q => 59 ≤ q) f0 f → X E (x_rm 9 0 0) mX5_back (x_QM E z 0 0 post) 30 [(2, .int (nI i)), (0, .ref 0), (1, .int (nI b))] [] z f 0 0 := by
  have hn9 := ho.1.1
  intro k
  induction k with
  | zero =>
    intro i f T U g u hi hC hF
    have hi2 : i = 201 := by omega
    subst hi2
    refine x_iload_n (pc' := 31) rfl rfl rfl ?_
    refine x_sipush (pc' := 34) rfl rfl sipush_200 ?_
    refine x_icmp_gt (tgt := 78) (pc' := 37) rfl rfl rfl (fun _ => ?_) (fun c34 => absurd ((by decide : (200 : Int32) < nI 201)) c34)
    refine x_bipush (pc' := 80) rfl rfl bipush_m9 ?_
    exact x_ireturn rfl rfl rfl (Nat.le_of_ble_eq_true rfl) (Nat.le_of_ble_eq_true rfl) (h _ _ _ hC.1 (hC.is hA) hF)
  | succ k ih =>
    intro i f T U g u hi hC hF
    have hT : x_t z f 9 T := hC.1.2.1 2 (by decide)
    have hT0 : x_t z f 1 (S0.2.1 0) := hC.1.2.1 0 (by decide)
    refine x_iload_n (pc' := 31) rfl rfl rfl ?_
    refine x_sipush (pc' := 34) rfl rfl sipush_200 ?_
    refine x_icmp_gt (tgt := 78) (pc' := 37) rfl rfl rfl (fun c34 => absurd c34 ((nI_nlt (a := 200) (by omega) (by decide)))) (fun _ => ?_)
    refine x_aload_n (pc' := 38) rfl rfl rfl ?_
    refine x_get (pc' := 41) rfl rfl rfl (hC.1.1) rfl ?_
    refine x_iload_n (pc' := 42) rfl rfl rfl ?_
    refine x_cV1i (d := 2) (pc' := 45) rfl rfl sX5_118 gX3_canMove (hT.1) ⟨Nat.le_of_ble_eq_true rfl, Nat.le_of_ble_eq_true rfl⟩ (Nat.le_of_ble_eq_true rfl) ⟨Nat.le_of_ble_eq_true rfl, Nat.le_of_ble_eq_true rfl⟩ ?_
    refine w_can hT hC.2.1 hC.2.2.2.1 (by decide) (by omega) (fun d2 => ⟨_, rfl, ?_⟩) (fun d2 => ⟨_, rfl, ?_⟩)
    · refine x_if_eq (tgt := 78) (pc' := 48) rfl rfl rfl (fun c45 => absurd c45 (by decide)) (fun _ => ?_)
      refine x_aload_n (pc' := 49) rfl rfl rfl ?_
      refine x_get (pc' := 52) rfl rfl rfl (hC.1.1) rfl ?_
      refine x_iload_n (pc' := 53) rfl rfl rfl ?_
      refine x_cV1v (d := 4) (pc' := 56) rfl rfl sX5_124 gX3_makeMove (hT.1) ⟨Nat.le_of_ble_eq_true rfl, Nat.le_of_ble_eq_true rfl⟩ (Nat.le_of_ble_eq_true rfl) ⟨Nat.le_of_ble_eq_true rfl, Nat.le_of_ble_eq_true rfl⟩ ?_
      refine w_move hT hC.2.1 hC.2.2.2.1 (by decide) d2.2.1 (fun f1 T1 hT1 g1 g4 g5 g6 g7 g8 hF1 => ⟨rfl, ?_⟩)
      have hC1 := hC.t2 hT1 hF1 g1 (g_mv_ok hC.2.2.2.1 (by decide) (by decide) d2.2.1) rfl
      have hT01 : x_t z f1 1 (S0.2.1 0) := hC1.1.2.1 0 (by decide)
      have hF2 := hF.trans (c_fr0 (j := 2) (by decide) hF1)
      refine x_aload_n (pc' := 57) rfl rfl rfl ?_
      refine x_get (pc' := 60) rfl rfl rfl (hC1.1.1) rfl ?_
      refine x_aload_n (pc' := 61) rfl rfl rfl ?_
      refine x_get (pc' := 64) rfl rfl rfl (hC1.1.1) rfl ?_
      refine x_cV1i (d := 3) (pc' := 67) rfl rfl sX5_158 gX3_sameBeans (hT1.1) ⟨Nat.le_of_ble_eq_true rfl, Nat.le_of_ble_eq_true rfl⟩ (Nat.le_of_ble_eq_true rfl) ⟨Nat.le_of_ble_eq_true rfl, Nat.le_of_ble_eq_true rfl⟩ ?_
      refine w_same hT1 hT01 g1 hA.1 (hC1.2.2.2.1.mono (by decide)) (ho.1.mono (by decide)) hC1.2.2.2.2.2.1.symm (fun d3 => ⟨_, rfl, ?_⟩) (fun d3 => ⟨_, rfl, ?_⟩)
      · refine x_if_eq (tgt := 72) (pc' := 70) rfl rfl rfl (fun c67 => absurd c67 (by decide)) (fun _ => ?_)
        refine x_iload_n (pc' := 71) rfl rfl rfl ?_
        exact x_ireturn rfl rfl rfl (Nat.le_of_ble_eq_true rfl) (Nat.le_of_ble_eq_true rfl) (h _ _ _ hC1.1 (hC1.is hA) hF2)
      · refine x_if_eq (tgt := 72) (pc' := 70) rfl rfl rfl (fun _ => ?_) (fun c67 => absurd (by decide) c67)
        refine x_iinc (pc' := 75) (lv' := [(2, _), (0, _), (1, _)]) rfl rfl (Nat.le_of_ble_eq_true rfl) rfl (nI_1 i) rfl ?_
        refine x_goto (tgt := 30) rfl rfl ?_
        exact ih (i + 1) _ _ _ _ _ (by omega) hC1 hF2
    · refine x_if_eq (tgt := 78) (pc' := 48) rfl rfl rfl (fun _ => ?_) (fun c45 => absurd (by decide) c45)
      refine x_bipush (pc' := 80) rfl rfl bipush_m9 ?_
      exact x_ireturn rfl rfl rfl (Nat.le_of_ble_eq_true rfl) (Nat.le_of_ble_eq_true rfl) (h _ _ _ hC.1 (hC.is hA) hF)
end CD
end
