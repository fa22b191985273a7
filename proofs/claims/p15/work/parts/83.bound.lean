/-! How far purses and moves can have come behind so many calls; the same bowl sown again and again. -/
abbrev b_p (G : q_G × Nat) : Prop := ∀ i, g_π G.1 i ≤ G.2
theorem g_mv_pi (g : q_G) (b i : Nat) : g_π (g_mv g b) i ≤ g_π g i + 1 := by
  show q_p1 (g_v g b).1 (g_π g) (g_t g) (g_v g b).2.2.2 i ≤ _
  unfold q_p1
  split
  · unfold q_up
    split
    · rename_i h
      rw [h]
      exact Nat.le_refl _
    · exact Nat.le_add_right _ _
  · exact Nat.le_add_right _ _
theorem b_ms2 {t : Nat → Nat} : ∀ (k p : Nat) (G G' : q_G × Nat), b_p G → q_ms2 t k p G = some G' → b_p G' ∧ G'.2 ≤ G.2 + k
  | 0, p, G, G', h, e => by
    have e2 : G = G' := Option.some.inj e
    subst e2
    exact ⟨h, Nat.le_refl _⟩
  | k + 1, p, G, G', h, e => by
    unfold q_ms2 at e
    split at e
    · have h2 := b_ms2 k (p + 1) (g_mv G.1 (t p - 48), G.2 + 1) G' (fun i => by
        have h3 := h i
        have h4 := g_mv_pi G.1 (t p - 48) i
        show g_π (g_mv G.1 (t p - 48)) i ≤ G.2 + 1
        omega) e
      refine ⟨h2.1, ?_⟩
      have h5 : G'.2 ≤ G.2 + 1 + k := h2.2
      omega
    · cases e
theorem b_do {t : Nat → Nat} {s : Nat} {G G' : q_G × Nat} (h : b_p G) (e : q_do t s G = some G') : b_p G' ∧ G'.2 ≤ G.2 + q_dn t s := by
  unfold q_do at e
  split at e
  · split at e
    · cases e
    · have e2 := Option.some.inj e
      subst e2
      exact ⟨h, Nat.le_add_right _ _⟩
  · split at e
    · exact b_ms2 _ _ _ _ h e
    · split at e
      · split at e
        · have e2 := Option.some.inj e
          subst e2
          exact ⟨h, Nat.le_add_right _ _⟩
        · cases e
      · split at e
        · split at e
          · cases e
          · have e2 := Option.some.inj e
            subst e2
            exact ⟨h, Nat.le_add_right _ _⟩
        · split at e
          · split at e
            · cases e
            · have e2 := Option.some.inj e
              subst e2
              exact ⟨h, Nat.le_add_right _ _⟩
          · split at e
            · cases e
            · have e2 := Option.some.inj e
              subst e2
              exact ⟨h, Nat.le_add_right _ _⟩
theorem b_dn {L : Nat} {ℓ : Nat → Nat} {s : Nat} (hs : s < L) : s + q_dn (q_t L ℓ) s < L ∨ q_dn (q_t L ℓ) s = 0 := by
  by_cases d : q_dn (q_t L ℓ) s = 0
  · exact Or.inr d
  · refine Or.inl ?_
    have h := q_df_dg (q_t L ℓ) (q_md (q_t L ℓ s)) (q_p0 (q_t L ℓ) s) (q_dn (q_t L ℓ) s - 1) (by show q_dn (q_t L ℓ) s - 1 < q_dn (q_t L ℓ) s; omega)
    have hp : s + 1 ≤ q_p0 (q_t L ℓ) s := by
      unfold q_p0
      split <;> omega
    have h2 := h.2
    rcases Nat.lt_or_ge (q_p0 (q_t L ℓ) s + (q_dn (q_t L ℓ) s - 1)) L with k | k
    · omega
    · exfalso
      have h3 : q_t L ℓ (q_p0 (q_t L ℓ) s + (q_dn (q_t L ℓ) s - 1)) = 256 := if_neg (by omega)
      omega
theorem b_rn {L : Nat} {ℓ : Nat → Nat} : ∀ (k s : Nat) (G G' : q_G × Nat), b_p G → q_rn (q_t L ℓ) L k s G = .inr G' → b_p G' ∧ G'.2 ≤ G.2 + (L - s)
  | 0, s, G, G', h, e => by
    have e2 := Sum.inr.inj e
    subst e2
    exact ⟨h, Nat.le_add_right _ _⟩
  | k + 1, s, G, G', h, e => by
    unfold q_rn at e
    split at e
    · rename_i hs
      split at e
      · cases e
      · rename_i G1 h1
        obtain ⟨o1, o2⟩ := b_do h h1
        obtain ⟨r1, r2⟩ := b_rn k _ G1 G' o1 e
        refine ⟨r1, ?_⟩
        have hd := b_dn (L := L) (ℓ := ℓ) hs
        have he : s + 1 + q_dn (q_t L ℓ) s ≤ q_ed (q_t L ℓ) s := by
          unfold q_ed q_p0
          split <;> omega
        omega
    · have e2 := Sum.inr.inj e
      subst e2
      exact ⟨h, Nat.le_add_right _ _⟩
/-- behind N calls -/
def a_b (N : Nat) (A : q_A) : Prop := (a_mv A + a_lc A ≤ N ∧ ∀ i, g_π (a_g A) i ≤ a_mv A) ∧ ∀ g m, a_pi A = some (g, m) → m + a_lc A ≤ N ∧ ∀ i, g_π g i ≤ m
section BND
variable {A : q_A} {a b : Int32} {N : Nat}
theorem a_b.up (h : a_b N A) : a_b (N + 1) A := ⟨⟨Nat.le_succ_of_le h.1.1, h.1.2⟩, fun g m e => ⟨Nat.le_succ_of_le (h.2 g m e).1, (h.2 g m e).2⟩⟩
theorem ab_letter (h : a_b N A) : a_b (N + 1) (s_letter A a).1 := by
  unfold s_letter
  split
  · exact h.up
  · split
    · exact h.up
    · obtain ⟨⟨h1, h2⟩, h3⟩ := h
      refine ⟨⟨?_, h2⟩, fun g m e => ⟨?_, (h3 g m e).2⟩⟩
      · show a_mv A + (a_lc A + 1) ≤ N + 1
        omega
      · have h4 := (h3 g m e).1
        show m + (a_lc A + 1) ≤ N + 1
        omega
theorem ab_0 (h : a_b N A) : a_b (N + 1) (A.1, A.2.1, (0, a_lf A), A.2.2.2) := by
  obtain ⟨⟨h1, h2⟩, h3⟩ := h
  refine ⟨⟨?_, h2⟩, fun g m e => ⟨?_, (h3 g m e).2⟩⟩
  · show a_mv A + 0 ≤ N + 1
    omega
  · have h4 := (h3 g m e).1
    show m + 0 ≤ N + 1
    omega
theorem ab_game (h : a_b N A) : a_b (N + 1) (s_game A).1 := by
  unfold s_game
  split
  · exact ab_0 h
  · split
    · exact ab_0 h
    · rename_i G hrn
      have h0 := ab_0 h
      obtain ⟨⟨h1, h2⟩, h3⟩ := h
      obtain ⟨o1, o2⟩ := b_rn _ _ _ _ h2 hrn
      refine ⟨⟨?_, o1⟩, h0.2⟩
      have o3 : G.2 ≤ a_mv A + (a_lc A - 0) := o2
      show G.2 + 0 ≤ N + 1
      omega
theorem ab_move (h : a_b N A) : a_b (N + 1) (s_move A a).1 := by
  unfold s_move
  split
  · split
    · split
      · exact h.up
      · obtain ⟨⟨h1, h2⟩, h3⟩ := h
        refine ⟨⟨?_, fun i => ?_⟩, fun g m e => ⟨Nat.le_succ_of_le (h3 g m e).1, (h3 g m e).2⟩⟩
        · show a_mv A + 1 + a_lc A ≤ N + 1
          omega
        · have h4 := h2 i
          have h5 := g_mv_pi (a_g A) a.toNatClampNeg i
          show g_π (g_mv (a_g A) a.toNatClampNeg) i ≤ a_mv A + 1
          omega
    · exact h.up
  · exact h.up
theorem ab_image (h : a_b N A) : a_b (N + 1) (s_image A).1 := by
  refine ⟨h.up.1, fun g m e => ?_⟩
  have e2 := Option.some.inj e
  have e3 : a_g A = g := congrArg Prod.fst e2
  have e4 : a_mv A = m := congrArg Prod.snd e2
  rw [← e3, ← e4]
  exact h.up.1
theorem ab_on (h : a_b N A) : a_b (N + 1) (s_on A).1 := by
  unfold s_on
  split
  · exact h.up
  · rename_i p hp
    refine ⟨?_, h.up.2⟩
    exact h.up.2 p.1 p.2 hp
theorem ab_put (h : a_b N A) : a_b (N + 1) (s_put A a b).1 := by
  unfold s_put
  repeat' split
  all_goals exact h.up
theorem ab_set (h : a_b N A) : a_b (N + 1) (s_set A a b).1 := by
  unfold s_set
  by_cases e0 : a < 0 ∨ 2 < a
  · rw [if_pos e0]
    exact h.up
  · rw [if_neg e0]
    by_cases h1 : b < (if a = 0 then 1 else 0)
    · rw [if_pos h1]
      exact h.up
    · rw [if_neg h1]
      by_cases h2 : (if a = 0 then 9 else 1) < b
      · rw [if_pos h2]
        exact h.up
      · rw [if_neg h2]
        show a_b (N + 1) (s_g A (g_set (a_g A) a b.toNatClampNeg))
        unfold g_set
        by_cases d0 : a = 0
        · rw [if_pos d0]
          exact h.up
        · rw [if_neg d0]
          by_cases d1 : a = 1
          · rw [if_pos d1]
            exact h.up
          · rw [if_neg d1]
            exact h.up
theorem ab_row (h : a_b N A) : a_b (N + 1) (s_row A a).1 := by
  unfold s_row
  repeat' split
  all_goals exact h.up
theorem ab_judge (h : a_b N A) : a_b (N + 1) (s_judge A).1 := h.up
theorem ab_bowl (h : a_b N A) : a_b (N + 1) (s_bowl A a b).1 := by
  unfold s_bowl
  repeat' split
  all_goals exact h.up
theorem ab_by (h : a_b N A) : a_b (N + 1) (s_by A a b).1 := by
  unfold s_by
  repeat' split
  all_goals exact h.up
theorem ab_behind (h : a_b N A) : a_b (N + 1) (s_behind A a b).1 := by
  unfold s_behind
  repeat' split
  all_goals exact h.up
theorem ab_empties (h : a_b N A) : a_b (N + 1) (s_empties A a).1 := by
  unfold s_empties
  repeat' split
  all_goals exact h.up
theorem ab_best (h : a_b N A) : a_b (N + 1) (s_bestC A a).1 := by
  unfold s_bestC
  repeat' split
  all_goals exact h.up
theorem ab_worth (h : a_b N A) : a_b (N + 1) (s_worthC A a).1 := by
  unfold s_worthC
  repeat' split
  all_goals exact h.up
theorem ab_back (h : a_b N A) : a_b (N + 1) (s_backC A a).1 := by
  unfold s_backC
  repeat' split
  all_goals exact h.up
theorem ab_loop (h : a_b N A) : a_b (N + 1) (n_loop A a b) := by
  unfold n_loop
  repeat' split
  all_goals exact h.up
theorem ab_toEmpty (h : a_b N A) : a_b (N + 1) (s_teC A a b).1 := by
  unfold s_teC
  repeat' split
  all_goals exact h.up
theorem ab_price (h : a_b N A) : a_b (N + 1) (s_priceC A a).1 := by
  unfold s_priceC
  repeat' split
  all_goals exact h.up
theorem ab_sold (h : a_b N A) : a_b (N + 1) (s_soldC A a).1 := by
  unfold s_soldC
  repeat' split
  all_goals exact h.up
theorem ab_sounds (h : a_b N A) : a_b (N + 1) (s_soR A a).1 := by
  unfold s_soR
  repeat' split
  all_goals exact h.up
theorem ab_next (h : a_b N A) : a_b (N + 1) (s_neC A a).1 := by
  unfold s_neC
  repeat' split
  all_goals exact h.up
theorem ab_played (h : a_b N A) : a_b (N + 1) (s_played A a).1 := by
  unfold s_played
  repeat' split
  all_goals exact h.up
theorem ab_lots (h : a_b N A) : a_b (N + 1) (s_lots A a b).1 := by
  unfold s_lots
  repeat' split
  all_goals exact h.up
end BND
-- the same bowl again and again
def b_rel (g u : q_G) : Prop := g_κ g = g_κ u ∧ g_β g = g_β u ∧ g_n g = g_n u ∧ g_f g = g_f u ∧ g_l g = g_l u
theorem q_tk1_0 {β : Nat → Nat} {pt : Nat} (h : pt < 999) (l : Option Nat) : q_tk1 β pt l = q_tk1 β 0 l := by
  cases l with
  | none => rfl
  | some p =>
    show (decide (β p = 1) && decide (pt < 999)) = (decide (β p = 1) && decide (0 < 999))
    rw [decide_eq_true h]
    rfl
theorem b_rel_v {g u : q_G} (h : b_rel g u) (b : Nat) : g_v g b = g_v u b := by
  obtain ⟨h1, h2, h3, h4, h5⟩ := h
  show q_mv (g_κ g) (g_n g) (g_f g) (g_l g) (g_β g) b = q_mv (g_κ u) (g_n u) (g_f u) (g_l u) (g_β u) b
  rw [h1, h2, h3, h4, h5]
theorem b_rel_mv {g u : q_G} (h : b_rel g u) (hp : ∀ i, g_π g i < 999) (b : Nat) : b_rel (g_mv g b) (g_as u b) := by
  have hv := b_rel_v h b
  obtain ⟨h1, h2, h3, h4, h5⟩ := h
  refine ⟨h1, ?_, h3, h4, h5⟩
  show q_b1 (g_v g b).1 (g_π g (g_t g)) (g_v g b).2.2.2 = q_b1 (g_v u b).1 0 (g_v u b).2.2.2
  rw [hv]
  unfold q_b1
  rw [q_tk1_0 (hp (g_t g))]
theorem b_bk {g0 : q_G} {b : Nat} : ∀ (m i : Nat) (g : q_G), b_rel g (g_sq b i g0) → (∀ j, g_π g j + m ≤ 998) → q_bkC b g0 m (i + 1) g = q_bk b g0 (g_rc b m i g0 - i) (i + 1)
  | 0, i, g, h, hp => by
    have e : g_rc b 0 i g0 - i = 0 := Nat.sub_self i
    rw [e]
    rfl
  | m + 1, i, g, h, hp => by
    have hc : g_can g b ↔ g_can (g_sq b i g0) b := by
      show (2 ≤ g_n g ∧ b < g_n g ∧ 0 < g_β g b) ↔ (2 ≤ g_n (g_sq b i g0) ∧ b < g_n (g_sq b i g0) ∧ 0 < g_β (g_sq b i g0) b)
      rw [h.2.1, h.2.2.1]
    by_cases d : g_can g b
    · have d2 := hc.mp d
      have e : g_rc b (m + 1) i g0 = g_rc b m (i + 1) g0 := if_pos d2
      have hr := g_rc_le b m (i + 1) g0
      have e2 : g_rc b m (i + 1) g0 - i = (g_rc b m (i + 1) g0 - (i + 1)) + 1 := by omega
      have h2 : b_rel (g_mv g b) (g_sq b (i + 1) g0) := b_rel_mv h (fun j => by have := hp j; omega) b
      have ih := b_bk m (i + 1) (g_mv g b) h2 (fun j => by have := hp j; have := g_mv_pi g b j; omega)
      rw [e, e2, q_bkC, q_bk, if_pos d, ih, h2.2.1]
      by_cases k : ∀ x, x < g_n g0 → g_β (g_sq b (i + 1) g0) x = g_β g0 x
      · have k2 : ∀ x, x < g_n g0 → g_β g0 x = g_β (g_sq b (i + 1) g0) x := fun x hx => (k x hx).symm
        rw [if_pos k, if_pos k2]
      · have k2 : ¬ ∀ x, x < g_n g0 → g_β g0 x = g_β (g_sq b (i + 1) g0) x := fun q => k (fun x hx => (q x hx).symm)
        rw [if_neg k, if_neg k2]
    · have d2 : ¬ g_can (g_sq b i g0) b := fun q => d (hc.mpr q)
      have e : g_rc b (m + 1) i g0 = i := if_neg d2
      rw [e, Nat.sub_self, q_bkC, if_neg d]
      rfl
theorem an_back {A : q_A} {a : Int32} {N : Nat} (hb : a_b N A) (hN : N ≤ 700) : (s_backC A a).2 = (s_backR A a).2 := by
  unfold s_backC s_backR
  by_cases h : q_in (g_n (a_g A)) a
  · rw [if_pos h, if_pos h]
    exact b_bk (g0 := a_g A) (b := a.toNatClampNeg) 200 0 (a_g A) ⟨rfl, rfl, rfl, rfl, rfl⟩ (fun j => by have h1 := hb.1.1; have h2 := hb.1.2 j; omega)
  · rw [if_neg h, if_neg h]
