/-! The state of a game, on both sides. -/
/-- kinds, beans, purses, how many bowls, fullness, lent, turn -/
abbrev q_G : Type := (Nat → Nat) × (Nat → Nat) × (Nat → Nat) × Nat × Nat × Nat × Nat
abbrev g_κ (g : q_G) : Nat → Nat := g.1
abbrev g_β (g : q_G) : Nat → Nat := g.2.1
abbrev g_π (g : q_G) : Nat → Nat := g.2.2.1
abbrev g_n (g : q_G) : Nat := g.2.2.2.1
abbrev g_f (g : q_G) : Nat := g.2.2.2.2.1
abbrev g_l (g : q_G) : Nat := g.2.2.2.2.2.1
abbrev g_t (g : q_G) : Nat := g.2.2.2.2.2.2
def t_is (T : x_T) (g : q_G) : Prop := T.1 = (fun i => nI (g_κ g i)) ∧ T.2.1 = (fun i => nI (g_β g i)) ∧ T.2.2.1 = (fun i => nI (g_π g i)) ∧ T.2.2.2 0 = nI (g_n g) ∧ T.2.2.2 1 = nI (g_f g) ∧ T.2.2.2 2 = nI (g_l g) ∧ T.2.2.2 3 = nI (g_t g)
def m_is (M : x_N) (g : q_G) : Prop := M.2.1 0 = (fun i => nI (g_κ g i)) ∧ M.2.1 1 = (fun i => nI (g_β g i)) ∧ M.2.1 2 = (fun i => nI (g_π g i)) ∧ M.1 3 = nI (g_n g) ∧ M.1 4 = nI (g_f g) ∧ M.1 5 = nI (g_l g) ∧ M.1 7 = nI (g_t g)
def g_ok (C : Nat) (g : q_G) : Prop := g_n g ≤ 9 ∧ (1 ≤ g_f g ∧ g_f g ≤ 9) ∧ g_l g ≤ 1 ∧ g_t g ≤ 1 ∧ (∀ i, g_κ g i ≤ 5) ∧ (∀ i, g_β g i ≤ C) ∧ (∀ i, g_π g i ≤ 999) ∧ (∀ i, 9 ≤ i → g_κ g i = 0 ∧ g_β g i = 0) ∧ (∀ i, 2 ≤ i → g_π g i = 0)
theorem g_ok.mono {C D : Nat} {g : q_G} (h : g_ok C g) (hd : C ≤ D) : g_ok D g := ⟨h.1, h.2.1, h.2.2.1, h.2.2.2.1, h.2.2.2.2.1, fun i => Nat.le_trans (h.2.2.2.2.2.1 i) hd, h.2.2.2.2.2.2⟩
abbrev g_can (g : q_G) (b : Nat) : Prop := 2 ≤ g_n g ∧ b < g_n g ∧ 0 < g_β g b
abbrev g_v (g : q_G) (b : Nat) : (Nat → Nat) × Nat × Nat × Option Nat := q_mv (g_κ g) (g_n g) (g_f g) (g_l g) (g_β g) b
def g_mv (g : q_G) (b : Nat) : q_G := (g_κ g, q_b1 (g_v g b).1 (g_π g (g_t g)) (g_v g b).2.2.2, q_p1 (g_v g b).1 (g_π g) (g_t g) (g_v g b).2.2.2, g_n g, g_f g, g_l g, 1 - g_t g)
theorem q_run_out {κ : Nat → Nat} {n fu ln : Nat} : ∀ (k : Nat) (w : q_W), w.2.1 < n → ∀ i, n ≤ i → (q_run κ n fu ln k w).1 i = w.1 i
  | 0, w, _, _, _ => rfl
  | k + 1, w, h, i, hi => by
    by_cases hg : 0 < w.2.2.1 ∧ w.2.2.2.1 < n
    · have h6 := q_nx_lt (ln := ln) h
      rw [q_run_go hg, q_run_out k _ (by unfold q_st; split <;> exact h6) i hi]
      unfold q_st
      split
      · exact q_up_n _ _ (by omega)
      · rfl
    · rw [q_run_stop hg]
theorem q_hand_out {κ β : Nat → Nat} {n fu ln b : Nat} {l : Option Nat} (hb : b < n) : ∀ i, n ≤ i → (q_hand κ n fu ln β b l).1 i = β i := by
  intro i hi
  have h1 := q_run_out (κ := κ) (fu := fu) (ln := ln) 1000 (q_up β b 0, b, β b, 0, 0, l) hb i hi
  unfold q_hand
  show q_up _ b _ i = β i
  rw [q_up_n _ _ (by omega), h1]
  exact q_up_n _ _ (by omega)
theorem q_hands_out {κ : Nat → Nat} {n fu ln : Nat} : ∀ (k : Nat) (β : Nat → Nat) (b hs s : Nat) (l : Option Nat), b < n → (∀ i, β i ≤ 100) → (∀ p, l = some p → p < n) → ∀ i, n ≤ i → (q_hands κ n fu ln k β b hs s l).1 i = β i
  | 0, β, b, hs, s, l, hb, hβ, hl, i, hi => rfl
  | k + 1, β, b, hs, s, l, hb, hβ, hl, i, hi => by
    have h1 := q_hand_le (κ := κ) (n := n) (fu := fu) (ln := ln) (b := b) (l := l) (C := 100) (by decide) hβ
    have h2 := q_hand_l (κ := κ) (fu := fu) (ln := ln) hb hβ hl
    have h3 := q_hand_out (κ := κ) (fu := fu) (ln := ln) (β := β) (l := l) hb i hi
    rw [q_hands]
    split
    · rename_i hg
      obtain ⟨p, hp, hpn⟩ := h2.2 hg.1
      rw [q_hands_out k _ _ _ _ _ (by rw [hp]; exact hpn) h1.1 h2.1 i hi]
      exact h3
    · exact h3
theorem g_v_ok {C : Nat} {g : q_G} {b : Nat} (h : g_ok C g) (hC : 99 ≤ C) (hC2 : C ≤ 100) (hb : b < g_n g) : (∀ i, (g_v g b).1 i ≤ C) ∧ (∀ p, (g_v g b).2.2.2 = some p → p < g_n g) ∧ (∀ i, g_n g ≤ i → (g_v g b).1 i = g_β g i) := by
  have hβ := h.2.2.2.2.2.1
  unfold g_v q_mv
  split
  · have h1 := q_hands_ok (κ := g_κ g) (n := g_n g) (fu := g_f g) (ln := g_l g) hC hC2 60 (g_β g) b 0 0 none hb hβ (fun p hp => by cases hp)
    exact ⟨h1.1, h1.2, q_hands_out 60 (g_β g) b 0 0 none hb (fun i => Nat.le_trans (hβ i) hC2) (fun p hp => by cases hp)⟩
  · exact ⟨hβ, (fun p hp => by cases hp), fun _ _ => rfl⟩
theorem q_b1_le {β : Nat → Nat} {pt C : Nat} {l : Option Nat} (h : ∀ i, β i ≤ C) : ∀ i, q_b1 β pt l i ≤ C := by
  unfold q_b1
  split
  · exact q_up_le h (Nat.zero_le _)
  · exact h
theorem g_mv_ok {C : Nat} {g : q_G} {b : Nat} (h : g_ok C g) (hC : 99 ≤ C) (hC2 : C ≤ 100) (hb : b < g_n g) : g_ok C (g_mv g b) := by
  obtain ⟨v1, v2, v3⟩ := g_v_ok h hC hC2 hb
  obtain ⟨a1, a2, a3, a4, a5, a6, a7, a8, a9⟩ := h
  refine ⟨a1, a2, a3, by show 1 - g_t g ≤ 1; omega, a5, q_b1_le v1, ?_, fun i hi => ⟨(a8 i hi).1, ?_⟩, ?_⟩
  · show ∀ i, q_p1 (g_v g b).1 (g_π g) (g_t g) (g_v g b).2.2.2 i ≤ 999
    unfold q_p1
    split
    · rename_i hq
      refine q_up_le a7 ?_
      cases hl : (g_v g b).2.2.2 with
      | none => rw [hl] at hq; cases hq
      | some p =>
        rw [hl] at hq
        simp only [q_tk1, Bool.and_eq_true, decide_eq_true_eq] at hq
        omega
    · exact a7
  · show q_b1 (g_v g b).1 (g_π g (g_t g)) (g_v g b).2.2.2 i = 0
    have h3 : (g_v g b).1 i = 0 := (v3 i (by omega)).trans (a8 i hi).2
    unfold q_b1
    split
    · unfold q_up
      split
      · rfl
      · exact h3
    · exact h3
  · intro i hi
    show q_p1 (g_v g b).1 (g_π g) (g_t g) (g_v g b).2.2.2 i = 0
    unfold q_p1
    split
    · rw [q_up_n _ _ (by omega)]
      exact a9 i hi
    · exact a9 i hi
theorem t_is_nI {T : x_T} {g : q_G} {b : Int32} (h : t_is T g) (hn : g_n g ≤ 9) (hb : t_has T b) : ∃ k : Nat, k < g_n g ∧ b = nI k := by
  obtain ⟨k, hk, rfl⟩ := nI_of hb.1
  refine ⟨k, ?_, rfl⟩
  have h2 := hb.2.1
  rw [h.2.2.2.1] at h2
  exact (nI_ltI hk (by omega)).mp h2
section STATE
variable {E : x_E} {z : Nat} {f : x_H} {t : Nat} {T : x_T} {M : x_N} {g : q_G} {post : Option Value → x_H → Prop} {C b : Nat}
theorem w_can (hT : x_t z f t T) (hg : t_is T g) (hok : g_ok C g) (hC : C ≤ 100) (hb : b < 2 ^ 31) (h1 : g_can g b → post (some (.int 1)) f) (h0 : ¬ g_can g b → post (some (.int 0)) f) : Y E 2 mX3_canMove [.ref t, .int (nI b)] z f 0 0 post := by
  obtain ⟨a1, a2, a3, a4, a5, a6, a7, a8, a9⟩ := hok
  obtain ⟨g1, g2, g3, g4, g5, g6, g7⟩ := id hg
  have hcl : (nI b).toNatClampNeg = b := nI_clamp hb
  have eβ : T.2.1 (nI b).toNatClampNeg = nI (g_β g b) := by rw [hcl, g2]
  have hβ := a6 b
  refine w_canMove hT (fun d => h1 ⟨?_, ?_, ?_⟩) (fun d => h0 (fun q => d ⟨?_, ?_, ?_⟩))
  · have h2 := d.1
    rw [g4] at h2
    exact (nI_leI (a := 2) (by decide) (by omega)).mp h2
  · have h2 := d.2.1.2.1
    rw [g4] at h2
    exact (nI_ltI hb (by omega)).mp h2
  · have h2 := d.2.2
    rw [eβ] at h2
    exact (nI_ltI (a := 0) (by decide) (by omega)).mp h2
  · rw [g4]
    exact nI_le (a := 2) q.1 (by omega)
  · exact t_has_nI g4 a1 q.2.1
  · rw [eβ]
    exact nI_lt (a := 0) q.2.2 (by omega)
theorem w_move (hT : x_t z f t T) (hg : t_is T g) (hok : g_ok C g) (hC : C ≤ 100) (hb : b < g_n g) (h : ∀ (f' : x_H) (T' : x_T), x_t z f' t T' → t_is T' (g_mv g b) → T'.2.2.2 4 = T.2.2.2 4 + 1 → T'.2.2.2 5 = nI (g_v g b).2.1 → T'.2.2.2 6 = q_lI (g_v g b).2.2.2 → T'.2.2.2 7 = nI (g_v g b).2.2.1 → T'.2.2.2 8 = (if q_tk1 (g_v g b).1 (g_π g (g_t g)) (g_v g b).2.2.2 = true then 1 else 0) → x_fr (x_ot t) f f' → post none f') : Y E 4 mX3_makeMove [.ref t, .int (nI b)] z f 0 0 post := by
  obtain ⟨a1, a2, a3, a4, a5, a6, a7, a8, a9⟩ := hok
  obtain ⟨g1, g2, g3, g4, g5, g6, g7⟩ := id hg
  refine w_makeMove hT g4 a1 g5 (by omega) g6 (by omega) g1 a5 g2 (fun i => Nat.le_trans (a6 i) hC) hb g7 a4 g3 (fun i => by have := a7 i; omega) (fun f' T' hT' hF hf => h f' T' hT' ?_ hF.2.2.2.2.2.2.2.1 hF.2.2.2.2.2.2.2.2.1 hF.2.2.2.2.2.2.2.2.2.1 hF.2.2.2.2.2.2.2.2.2.2.1 hF.2.2.2.2.2.2.2.2.2.2.2 hf)
  exact ⟨hF.1.trans g1, hF.2.1, hF.2.2.1, hF.2.2.2.1.trans g4, hF.2.2.2.2.1.trans g5, hF.2.2.2.2.2.1.trans g6, hF.2.2.2.2.2.2.1⟩
theorem x_cp_is {T U : x_T} {g : q_G} (h : t_is U g) : t_is (x_cp T U) g := h
-- the reference
theorem m_can (hM : x_Mdl z f M) (hg : m_is M g) (hok : g_ok C g) (hC : C ≤ 100) {v : Int32} (h1 : ∀ b, v = nI b → g_can g b → post (some (.int 1)) f) (h0 : (∀ b, v = nI b → b < 2 ^ 31 → ¬ g_can g b) → post (some (.int 0)) f) : Y E 3 mX6_canMove [.ref 59, .int v] z f 0 0 post := by
  refine Y.intro gX6_canMove (lv := [(0, .ref 59), (1, .int v)]) rfl (Nat.le_of_ble_eq_true rfl) ?_
  obtain ⟨a1, a2, a3, a4, a5, a6, a7, a8, a9⟩ := hok
  obtain ⟨g1, g2, g3, g4, g5, g6, g7⟩ := id hg
  refine x_aload_n (pc' := 1) rfl rfl rfl ?_
  refine x_iload_n (pc' := 2) rfl rfl rfl ?_
  refine x_cV1i (d := 2) (pc' := 5) rfl rfl sX6_103 gX6_isBowl (hM.1) ⟨Nat.le_of_ble_eq_true rfl, Nat.le_of_ble_eq_true rfl⟩ (Nat.le_of_ble_eq_true rfl) ⟨Nat.le_of_ble_eq_true rfl, Nat.le_of_ble_eq_true rfl⟩ ?_
  refine w_isBowl hM (fun q => ⟨_, rfl, ?_⟩) (fun q => ⟨_, rfl, ?_⟩)
  · obtain ⟨b, hb, rfl⟩ := nI_of q.1
    have hbn : b < g_n g := by
      have h2 := q.2
      rw [g4] at h2
      rcases Nat.lt_or_ge b (g_n g) with h3 | h3
      · exact h3
      · exfalso
        apply h2
        by_cases h4 : g_n g = 0
        · rw [h4]
          exact Int32.lt_of_lt_of_le (by decide : nI 0 - 1 < 0) (nI_pos' hb)
        · rw [show nI (g_n g) - 1 = nI (g_n g - 1) from pk_sub (a := g_n g) (b := 1) (by omega)]
          exact nI_lt (by omega) hb
    refine x_if_eq (tgt := 29) (pc' := 8) rfl rfl rfl (fun c5 => absurd c5 ((by decide))) (fun _ => ?_)
    refine x_aload_n (pc' := 9) rfl rfl rfl ?_
    refine x_get (pc' := 12) rfl rfl rfl (hM.1) rfl ?_
    refine x_eqi g4 ?_
    refine x_iconst (pc' := 13) rfl rfl iconst_1 ?_
    have hcl : (nI b).toNatClampNeg = b := nI_clamp hb
    have hv : vp_in (nI b) 9 := vp_in_nI (by omega) (by decide)
    have eβ : M.2.1 1 (nI b).toNatClampNeg = nI (g_β g b) := by rw [hcl, g2]
    have hβ := a6 b
    have hinj : ∀ b', nI b = nI b' → b' < 2 ^ 31 → b = b' := fun b' e hb' => (nI_eq hb hb').mp e
    by_cases d1 : 2 ≤ g_n g
    · refine x_icmp_le (tgt := 29) (pc' := 16) rfl rfl rfl (fun q => absurd q (nI_ge (a := 1) (by omega) (by omega))) (fun _ => ?_)
      refine x_aload_n (pc' := 17) rfl rfl rfl ?_
      refine x_get (pc' := 20) rfl rfl rfl (hM.1) rfl ?_
      refine x_iload_n (pc' := 21) rfl rfl rfl ?_
      refine x_iaload (pc' := 22) rfl rfl (hM.2.1 1 (by decide)) (hv) ?_
      refine x_eqi eβ ?_
      by_cases d2 : 0 < g_β g b
      · refine x_if_le (tgt := 29) (pc' := 25) rfl rfl rfl (fun q => absurd q (nI_nle d2 (by omega))) (fun _ => ?_)
        refine x_iconst (pc' := 26) rfl rfl iconst_1 ?_
        refine x_goto (tgt := 30) rfl rfl ?_
        exact x_ireturn rfl rfl rfl (Nat.le_of_ble_eq_true rfl) (Nat.le_of_ble_eq_true rfl) (h1 b rfl ⟨d1, hbn, d2⟩)
      · refine x_if_le (tgt := 29) (pc' := 25) rfl rfl rfl (fun _ => ?_) (fun q => absurd (nI_le (b := 0) (by omega) (by decide)) q)
        refine x_iconst (pc' := 30) rfl rfl iconst_0 ?_
        exact x_ireturn rfl rfl rfl (Nat.le_of_ble_eq_true rfl) (Nat.le_of_ble_eq_true rfl) (h0 (fun b' e hb' c => by have := hinj b' e hb'; subst this; exact d2 c.2.2))
    · refine x_icmp_le (tgt := 29) (pc' := 16) rfl rfl rfl (fun _ => ?_) (fun q => absurd (nI_le (b := 1) (by omega) (by decide)) q)
      refine x_iconst (pc' := 30) rfl rfl iconst_0 ?_
      exact x_ireturn rfl rfl rfl (Nat.le_of_ble_eq_true rfl) (Nat.le_of_ble_eq_true rfl) (h0 (fun b' e hb' c => d1 c.1))
  · have hno : ∀ b, v = nI b → b < 2 ^ 31 → ¬ g_can g b := by
      intro b e hb c
      subst e
      apply q
      refine ⟨nI_pos hb, ?_⟩
      rw [g4, show nI (g_n g) - 1 = nI (g_n g - 1) from pk_sub (a := g_n g) (b := 1) (by have := c.1; omega)]
      exact nI_nlt (by have := c.2.1; omega) (by omega)
    refine x_if_eq (tgt := 29) (pc' := 8) rfl rfl rfl (fun _ => ?_) (fun c5 => absurd (rfl) c5)
    refine x_iconst (pc' := 30) rfl rfl iconst_0 ?_
    exact x_ireturn rfl rfl rfl (Nat.le_of_ble_eq_true rfl) (Nat.le_of_ble_eq_true rfl) (h0 hno)
/-- what else a move of the reference leaves as it was -/
def m_kp (M M' : x_N) : Prop := (∀ j, j ≠ 1 → j ≠ 2 → M'.2.1 j = M.2.1 j) ∧ M'.2.2 = M.2.2 ∧ (∀ i, i ≠ 7 → i ≠ 14 → i ≠ 15 → i ≠ 16 → i ≠ 17 → M'.1 i = M.1 i)
theorem m_kp.trans {M M1 M2 : x_N} (h : m_kp M M1) (h2 : m_kp M1 M2) : m_kp M M2 := ⟨fun j a b => (h2.1 j a b).trans (h.1 j a b), h2.2.1.trans h.2.1, fun i a b c d e => (h2.2.2 i a b c d e).trans (h.2.2 i a b c d e)⟩
theorem m_kp.rf {M : x_N} : m_kp M M := ⟨fun _ _ _ => rfl, rfl, fun _ _ _ _ _ _ => rfl⟩
theorem m_mv (hM : x_Mdl z f M) (hg : m_is M g) (hok : g_ok C g) (hC : C ≤ 100) (hb : g_can g b) (ha : M.1 18 = 0) (h : ∀ (f' : x_H) (M' : x_N), x_Mdl z f' M' → m_is M' (g_mv g b) → m_kp M M' → M'.1 14 = nI (g_v g b).2.1 → M'.1 15 = q_lI (g_v g b).2.2.2 → M'.1 16 = nI (g_v g b).2.2.1 → M'.1 17 = (if q_tk1 (g_v g b).1 (g_π g (g_t g)) (g_v g b).2.2.2 = true then 1 else 0) → x_fr (fun q => q < 59) f f' → post none f') : Y E 4 mX6_moves [.ref 59, .int (nI b)] z f 0 0 post := by
  obtain ⟨a1, a2, a3, a4, a5, a6, a7, a8, a9⟩ := hok
  obtain ⟨g1, g2, g3, g4, g5, g6, g7⟩ := id hg
  refine m_moves hM g4 a1 g5 (by omega) g6 (by omega) g1 a5 g2 (fun i => Nat.le_trans (a6 i) hC) hb.2.1 hb.1 hb.2.2 g7 a4 g3 (fun i => by have := a7 i; omega) ha (fun f' M' M1 hM' hF e hf => ?_)
  obtain ⟨k1, k2, k3, k4, k5, k6, k7, k8, k9⟩ := hF
  subst e
  refine h f' _ hM' ⟨(k3 0 (by decide) (by decide)).trans g1, k1, k2, ?_, ?_, ?_, rfl⟩ ⟨k3, k4, fun i i1 i2 i3 i4 i5 => (pk_un i1).trans (k5 i i2 i3 i4 i5)⟩ k6 k7 k8 k9 hf
  · exact (k5 3 (by decide) (by decide) (by decide) (by decide)).trans g4
  · exact (k5 4 (by decide) (by decide) (by decide) (by decide)).trans g5
  · exact (k5 5 (by decide) (by decide) (by decide) (by decide)).trans g6
/-- a frame that holds a state's beans, purses, turn -/
def m_fr (M : x_N) (l : Nat) (g : q_G) : Prop := (∀ j, j < 9 → M.2.1 6 (12 * l + j) = nI (g_β g j)) ∧ M.2.1 6 (12 * l + 9) = nI (g_π g 0) ∧ M.2.1 6 (12 * l + 10) = nI (g_π g 1) ∧ M.2.1 6 (12 * l + 11) = nI (g_t g)
theorem m_fr.eq {M M' : x_N} {l : Nat} {g : q_G} (h : m_fr M l g) (e : M'.2.1 6 = M.2.1 6) : m_fr M' l g := by
  unfold m_fr
  rw [e]
  exact h
/-- a frame was kept: all other levels stay -/
def m_k1 (M M' : x_N) (l : Nat) : Prop := M'.1 = M.1 ∧ (∀ j, j ≠ 6 → M'.2.1 j = M.2.1 j) ∧ M'.2.2 = M.2.2 ∧ (∀ j, j < 12 * l ∨ 12 * l + 12 ≤ j → M'.2.1 6 j = M.2.1 6 j)
theorem m_keeps {l : Nat} (hl : l ≤ 7) (hM : x_Mdl z f M) (hg : m_is M g) (h : ∀ (f' : x_H) (M' : x_N), x_Mdl z f' M' → m_is M' g → m_k1 M M' l → m_fr M' l g → x_fr (fun q => q < 59) f f' → post none f') : Y E 1 mX6_keeps [.ref 59, .int (nI l)] z f 0 0 post := by
  obtain ⟨g1, g2, g3, g4, g5, g6, g7⟩ := id hg
  refine w_keeps hl hM (fun f' hM' hf => h f' _ hM' ⟨g1, g2, g3, g4, g5, g6, g7⟩ ⟨rfl, fun j hj => if_neg hj, rfl, fun j hj => ?_⟩ ⟨fun j hj => ?_, ?_, ?_, ?_⟩ hf)
  · show x_kp l _ _ _ _ _ j = _
    unfold x_kp
    rw [pk_un (by omega), pk_un (by omega), pk_un (by omega)]
    unfold x_kpB
    rw [if_neg (by omega)]
  · show x_kp l _ _ _ _ _ (12 * l + j) = _
    unfold x_kp
    rw [pk_un (by omega), pk_un (by omega), pk_un (by omega)]
    unfold x_kpB
    rw [if_pos (by omega), g2, show 12 * l + j - 12 * l = j by omega]
  · show x_kp l _ _ _ _ _ (12 * l + 9) = _
    unfold x_kp
    rw [pk_un (by omega), pk_un (by omega), pk_us, g3]
  · show x_kp l _ _ _ _ _ (12 * l + 10) = _
    unfold x_kp
    rw [pk_un (by omega), pk_us, g3]
  · show x_kp l _ _ _ _ _ (12 * l + 11) = _
    unfold x_kp
    rw [pk_us, g7]
/-- the frame of g over the rest of g' -/
abbrev g_ly (g g' : q_G) : q_G := (g_κ g', g_β g, g_π g, g_n g', g_f g', g_l g', g_t g)
theorem m_lays {l C' : Nat} {g' : q_G} (hl : l ≤ 7) (hM : x_Mdl z f M) (hg : m_is M g') (hk : m_fr M l g) (hok : g_ok C g) (hok' : g_ok C' g') (h : ∀ (f' : x_H) (M' : x_N), x_Mdl z f' M' → m_is M' (g_ly g g') → (∀ i, i ≠ 7 → M'.1 i = M.1 i) → (∀ j, j ≠ 1 → j ≠ 2 → M'.2.1 j = M.2.1 j) → M'.2.2 = M.2.2 → x_fr (fun q => q < 59) f f' → post none f') : Y E 1 mX6_lays [.ref 59, .int (nI l)] z f 0 0 post := by
  obtain ⟨g1, g2, g3, g4, g5, g6, g7⟩ := id hg
  obtain ⟨k1, k2, k3, k4⟩ := hk
  refine w_lays hl hM (fun f' hM' hf => h f' _ hM' ⟨g1, ?_, ?_, g4, g5, g6, ?_⟩ (fun i hi => pk_un hi) (fun j h1 h2 => ?_) rfl hf)
  · show x_lyB l 9 (M.2.1 6) (M.2.1 1) = _
    funext j
    unfold x_lyB
    by_cases hj : j < 9
    · rw [if_pos hj]
      exact k1 j hj
    · rw [if_neg hj, g2]
      show nI (g_β g' j) = nI (g_β g j)
      rw [(hok.2.2.2.2.2.2.2.1 j (by omega)).2, (hok'.2.2.2.2.2.2.2.1 j (by omega)).2]
  · show upd (upd (M.2.1 2) 0 (M.2.1 6 (12 * l + 9))) 1 (M.2.1 6 (12 * l + 10)) = _
    rw [k2, k3, g3]
    funext j
    unfold upd
    by_cases h1 : j = 1
    · rw [if_pos h1, h1]
    · rw [if_neg h1]
      by_cases h0 : j = 0
      · rw [if_pos h0, h0]
      · rw [if_neg h0]
        show nI (g_π g' j) = nI (g_π g j)
        rw [hok.2.2.2.2.2.2.2.2 j (by omega), hok'.2.2.2.2.2.2.2.2 j (by omega)]
  · show upd M.1 7 (M.2.1 6 (12 * l + 11)) 7 = _
    rw [pk_us, k4]
  · show (if j = 2 then _ else if j = 1 then _ else M.2.1 j) = M.2.1 j
    rw [if_neg h2, if_neg h1]
end STATE
