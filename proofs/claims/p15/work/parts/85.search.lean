/-! The fewest moves that empty a bowl: level by level with rings kept once, or deeper and deeper: the same. -/
abbrev e_T (g : q_G) (β : Nat → Nat) : q_G := (g_κ g, β, g.2.2)
abbrev e_s (g : q_G) (β : Nat → Nat) (b : Nat) : Nat → Nat := g_β (g_mv (e_T g β) b)
abbrev e_c (g : q_G) (β : Nat → Nat) (b : Nat) : Prop := 2 ≤ g_n g ∧ b < g_n g ∧ 0 < β b
abbrev e_a (g : q_G) (β : Nat → Nat) : Prop := ∀ j, g_n g ≤ j → β j = g_β g j
/-- w can be emptied in k moves -/
def e_D (g : q_G) (w : Nat) : Nat → (Nat → Nat) → Prop
  | 0, β => β w = 0
  | k + 1, β => β w = 0 ∨ ∃ b, e_c g β b ∧ e_D g w k (e_s g β b)
theorem e_D_0 {g : q_G} {w : Nat} {β : Nat → Nat} (h : β w = 0) : ∀ k, e_D g w k β
  | 0 => h
  | k + 1 => Or.inl h
theorem e_D_up {g : q_G} {w : Nat} : ∀ (k : Nat) (β : Nat → Nat), e_D g w k β → e_D g w (k + 1) β
  | 0, β, h => Or.inl h
  | k + 1, β, h => by
    rcases h with h | ⟨b, h1, h2⟩
    · exact Or.inl h
    · exact Or.inr ⟨b, h1, e_D_up k _ h2⟩
theorem e_D_le {g : q_G} {w : Nat} {β : Nat → Nat} {a : Nat} (h : e_D g w a β) : ∀ d, e_D g w (a + d) β
  | 0 => h
  | d + 1 => e_D_up _ _ (e_D_le h d)
theorem e_T_ok {g : q_G} {β : Nat → Nat} (h : g_ok 99 g) (ha : e_a g β) (h9 : ∀ j, β j ≤ 99) : g_ok 99 (e_T g β) := by
  obtain ⟨a1, a2, a3, a4, a5, a6, a7, a8, a9⟩ := h
  refine ⟨a1, a2, a3, a4, a5, h9, a7, fun i hi => ⟨(a8 i hi).1, ?_⟩, a9⟩
  show β i = 0
  rw [ha i (by omega)]
  exact (a8 i hi).2
theorem e_s_ok {g : q_G} {β : Nat → Nat} {b : Nat} (h : g_ok 99 g) (ha : e_a g β) (h9 : ∀ j, β j ≤ 99) (hb : b < g_n g) : e_a g (e_s g β b) ∧ ∀ j, e_s g β b j ≤ 99 := by
  have ho := e_T_ok h ha h9
  refine ⟨fun j hj => ?_, (g_mv_ok ho (by decide) (by decide) hb).2.2.2.2.2.1⟩
  obtain ⟨v1, v2, v3⟩ := g_v_ok (b := b) ho (by decide) (by decide) hb
  have e1 : (g_v (e_T g β) b).1 j = g_β g j := (v3 j hj).trans (ha j hj)
  show q_b1 (g_v (e_T g β) b).1 (g_π g (g_t g)) (g_v (e_T g β) b).2.2.2 j = g_β g j
  unfold q_b1
  split
  · rename_i hq
    cases hl : (g_v (e_T g β) b).2.2.2 with
    | none =>
      rw [hl] at hq
      cases hq
    | some p =>
      have h2 : p < g_n g := v2 p hl
      have h3 : j ≠ (some p).getD 0 := by
        show j ≠ p
        omega
      rw [q_up_n _ _ h3]
      exact e1
  · exact e1
theorem e_rg {g : q_G} {β : Nat → Nat} (ha : e_a g β) : g_rg g β = e_T g β := by
  have e : (fun b => if b < g_n g then β b else g_β g b) = β := by
    funext b
    split
    · rfl
    · exact (ha b (by omega)).symm
  show (g_κ g, (fun b => if b < g_n g then β b else g_β g b), g.2.2) = (g_κ g, β, g.2.2)
  rw [e]
-- the reference
theorem e_s_eq {g u : q_G} (h : b_rel u (e_T g (g_β u))) (hu : ∀ j, g_π u j < 999) (hg : ∀ j, g_π g j < 999) (b : Nat) : g_β (g_mv u b) = e_s g (g_β u) b := (b_rel_mv h hu b).2.1.trans (b_rel_mv (g := e_T g (g_β u)) (u := e_T g (g_β u)) ⟨rfl, rfl, rfl, rfl, rfl⟩ hg b).2.1.symm
theorem e_fo {c : Nat → Bool} : ∀ (k b : Nat), (q_fo c k b = none ∧ ∀ x, b ≤ x → x < b + k → ¬ c x = true) ∨ (∃ x, q_fo c k b = some x ∧ b ≤ x ∧ x < b + k ∧ c x = true ∧ ∀ y, b ≤ y → y < x → ¬ c y = true)
  | 0, b => Or.inl ⟨rfl, fun x h1 h2 => absurd h2 (by omega)⟩
  | k + 1, b => by
    by_cases d : c b = true
    · refine Or.inr ⟨b, ?_, Nat.le_refl b, by omega, d, fun y h1 h2 => absurd h2 (by omega)⟩
      rw [q_fo, if_pos d]
    · have ih := e_fo (c := c) k (b + 1)
      have e : q_fo c (k + 1) b = q_fo c k (b + 1) := if_neg d
      rw [e]
      rcases ih with ⟨h1, h2⟩ | ⟨x, h1, h2, h3, h4, h5⟩
      · refine Or.inl ⟨h1, fun x a1 a2 => ?_⟩
        by_cases k2 : x = b
        · rw [k2]
          exact d
        · exact h2 x (by omega) (by omega)
      · refine Or.inr ⟨x, h1, by omega, by omega, h4, fun y a1 a2 => ?_⟩
        by_cases k2 : y = b
        · rw [k2]
          exact d
        · exact h5 y (by omega) a2
theorem e_em {g : q_G} {w : Nat} (hg : ∀ j, g_π g j < 999) : ∀ (k : Nat) (u : q_G), b_rel u (e_T g (g_β u)) → (∀ j, g_π u j + k ≤ 998) → (q_em w k u = true ↔ e_D g w k (g_β u))
  | 0, u, h, hp => by
    show decide (g_β u w = 0) = true ↔ g_β u w = 0
    exact decide_eq_true_iff
  | k + 1, u, h, hp => by
    have hn : g_n u = g_n g := h.2.2.1
    have step : ∀ b, (decide (g_can u b) && q_em w k (g_mv u b)) = true ↔ (e_c g (g_β u) b ∧ e_D g w k (e_s g (g_β u) b)) := by
      intro b
      have e1 := e_s_eq h (fun j => by have := hp j; omega) hg b
      have r1 : b_rel (g_mv u b) (e_T g (g_β (g_mv u b))) := ⟨h.1, rfl, h.2.2.1, h.2.2.2.1, h.2.2.2.2⟩
      have ih := e_em (w := w) hg k (g_mv u b) r1 (fun j => by have h1 := hp j; have h2 := g_mv_pi u b j; omega)
      rw [e1] at ih
      rw [Bool.and_eq_true, decide_eq_true_iff, ih]
      show (2 ≤ g_n u ∧ b < g_n u ∧ 0 < g_β u b) ∧ _ ↔ _
      rw [hn]
    have e2 : q_em w (k + 1) u = (decide (g_β u w = 0) || (q_fo (fun b => decide (g_can u b) && q_em w k (g_mv u b)) (g_n u) 0).isSome) := rfl
    rw [e2, Bool.or_eq_true, decide_eq_true_iff]
    show g_β u w = 0 ∨ _ ↔ g_β u w = 0 ∨ ∃ b, e_c g (g_β u) b ∧ e_D g w k (e_s g (g_β u) b)
    rcases e_fo (c := fun b => decide (g_can u b) && q_em w k (g_mv u b)) (g_n u) 0 with ⟨h1, h2⟩ | ⟨x, h1, h2, h3, h4, h5⟩
    · rw [h1]
      constructor
      · intro q
        rcases q with q | q
        · exact Or.inl q
        · cases q
      · intro q
        rcases q with q | ⟨b, q1, q2⟩
        · exact Or.inl q
        · exact absurd ((step b).mpr ⟨q1, q2⟩) (h2 b (Nat.zero_le _) (by have := q1.2.1; omega))
    · rw [h1]
      constructor
      · intro q
        exact Or.inr ⟨x, (step x).mp h4⟩
      · intro q
        exact Or.inr rfl
theorem e_te_no {w : Nat} {g : q_G} {b : Int32} : ∀ (m n : Nat), (∀ x, n ≤ x → x < n + m → ¬ q_em w x g = true) → q_te w g b m n = -9
  | 0, n, h => rfl
  | m + 1, n, h => by
    rw [q_te, if_neg (h n (Nat.le_refl n) (by omega))]
    exact e_te_no m (n + 1) (fun x h1 h2 => h x (by omega) (by omega))
theorem e_te_yes {w : Nat} {g : q_G} {b : Int32} {N : Nat} (hN : q_em w N g = true) (hlt : ∀ x, x < N → ¬ q_em w x g = true) : ∀ (m n : Nat), n ≤ N → N < n + m → q_te w g b m n = if b = 0 then nI N else q_ef w N g (-9)
  | 0, n, h1, h2 => by omega
  | m + 1, n, h1, h2 => by
    rw [q_te]
    by_cases d : n = N
    · subst d
      rw [if_pos hN]
    · rw [if_neg (hlt n (by omega))]
      exact e_te_yes hN hlt m (n + 1) (by omega) (by omega)
/-- what both find: m moves, first f -/
def e_R (g : q_G) (w d f : Nat) : Prop := e_D g w d (g_β g) ∧ (∀ x, x < d → ¬ e_D g w x (g_β g)) ∧ e_c g (g_β g) f ∧ e_D g w (d - 1) (e_s g (g_β g) f) ∧ ∀ y, y < f → e_c g (g_β g) y → ¬ e_D g w (d - 1) (e_s g (g_β g) y)
theorem e_ref {g : q_G} {w d f : Nat} {b : Int32} (hg : ∀ j, g_π g j ≤ 990) (hd1 : 1 ≤ d) (hd5 : d ≤ 5) (h : e_R g w d f) : q_te w g b 6 0 = if b = 0 then nI d else nI f := by
  obtain ⟨r1, r2, r3, r4, r5⟩ := h
  have hg9 : ∀ j, g_π g j < 999 := fun j => by have := hg j; omega
  have em : ∀ k, k ≤ 5 → (q_em w k g = true ↔ e_D g w k (g_β g)) := fun k hk => e_em hg9 k g ⟨rfl, rfl, rfl, rfl, rfl⟩ (fun j => by have := hg j; omega)
  rw [e_te_yes (N := d) ((em d hd5).mpr r1) (fun x hx q => r2 x hx ((em x (by omega)).mp q)) 6 0 (Nat.zero_le _) (by omega)]
  by_cases hb : b = 0
  · rw [if_pos hb, if_pos hb]
  · rw [if_neg hb, if_neg hb]
    obtain ⟨k, rfl⟩ : ∃ k, d = k + 1 := ⟨d - 1, by omega⟩
    have hw : ¬ g_β g w = 0 := fun q => r2 0 (by omega) q
    have step : ∀ x, q_ec w k g x = true ↔ (e_c g (g_β g) x ∧ e_D g w k (e_s g (g_β g) x)) := by
      intro x
      have e1 := e_s_eq (g := g) (u := g) ⟨rfl, rfl, rfl, rfl, rfl⟩ hg9 hg9 x
      have ih := e_em (w := w) hg9 k (g_mv g x) ⟨rfl, rfl, rfl, rfl, rfl⟩ (fun j => by have h1 := hg j; have h2 := g_mv_pi g x j; omega)
      rw [e1] at ih
      show (decide (g_can g x) && q_em w k (g_mv g x)) = true ↔ _
      rw [Bool.and_eq_true, decide_eq_true_iff, ih]
    have e3 : q_ef w (k + 1) g (-9) = (match q_fo (q_ec w k g) (g_n g) 0 with | some b => nI b | none => -9) := if_neg hw
    rw [e3]
    rcases e_fo (c := q_ec w k g) (g_n g) 0 with ⟨h1, h2⟩ | ⟨x, h1, h2, h3, h4, h5⟩
    · exact absurd ((step f).mpr ⟨r3, r4⟩) (h2 f (Nat.zero_le _) (by have := r3.2.1; omega))
    · rw [h1]
      have hx := (step x).mp h4
      have hxf : x = f := by
        rcases Nat.lt_trichotomy x f with q | q | q
        · exact absurd hx.2 (r5 x q hx.1)
        · exact q
        · exact absurd ((step f).mpr ⟨r3, r4⟩) (h5 f (Nat.zero_le _) q)
      rw [hxf]
theorem e_ref_no {g : q_G} {w : Nat} {b : Int32} (hg : ∀ j, g_π g j ≤ 990) (h : ¬ e_D g w 5 (g_β g)) : q_te w g b 6 0 = -9 := by
  refine e_te_no 6 0 (fun x h1 h2 q => h ?_)
  have h3 := (e_em (fun j => by have := hg j; omega) x g ⟨rfl, rfl, rfl, rfl, rfl⟩ (fun j => by have := hg j; omega)).mp q
  have h4 := e_D_le h3 (5 - x)
  rw [show x + (5 - x) = 5 from by omega] at h4
  exact h4
-- the class: a level's children, in their order
abbrev e_lx (p b x y : Nat) : Prop := p < x ∨ (p = x ∧ b < y)
abbrev e_F (K : q_K) (q : Nat) : Nat := (K.2.1 q).toNatClampNeg
/-- a level from l to e: rings R, first moves G of a ring's child -/
def e_V (g : q_G) (w d l e : Nat) (R : Nat → Nat → Nat) (G : Nat → Nat → Nat) : Prop :=
  (∀ p, p < e → e_a g (R p) ∧ ∀ j, R p j ≤ 99) ∧
  (∀ p b, l ≤ p → p < e → e_c g (R p) b → G p b < g_n g ∧ e_c g (g_β g) (G p b) ∧ ∀ t, e_D g w t (e_s g (R p) b) → e_D g w (d - 1 + t) (e_s g (g_β g) (G p b))) ∧
  (∀ b0 t, e_c g (g_β g) b0 → e_D g w (d - 1 + t) (e_s g (g_β g) b0) → ¬ e_D g w (d - 1 + t) (g_β g) → ∃ p b, l ≤ p ∧ p < e ∧ e_c g (R p) b ∧ G p b ≤ b0 ∧ e_D g w t (e_s g (R p) b)) ∧
  (∀ p b x y, l ≤ p → x < e → e_lx p b x y → G p b ≤ G x y) ∧
  (∀ p t, p < e → e_D g w t (R p) → e_D g w (d - 1 + t) (g_β g)) ∧
  ¬ e_D g w (d - 1) (g_β g)
/-- behind all children before (p, b) -/
def e_N (g : q_G) (w d l e : Nat) (R : Nat → Nat → Nat) (R1 : Nat → Int32) (G : Nat → Nat → Nat) (p b : Nat) (K : q_K) : Prop :=
  e_t (g_n g) K ∧ (e ≤ K.2.2.2.1 ∧ K.2.2.2.1 ≤ e + 9 * (p - l) + b) ∧ K.2.2.2.2 = (-9, -9) ∧
  (∀ q, q < e → K.1 q = R q ∧ K.2.1 q = R1 q) ∧
  (∀ q, q < K.2.2.2.1 → e_a g (K.1 q) ∧ ∀ j, K.1 q j ≤ 99) ∧
  (∀ q, e ≤ q → q < K.2.2.2.1 → ∃ x y, e_lx x y p b ∧ l ≤ x ∧ x < e ∧ e_c g (R x) y ∧ K.1 q = e_s g (R x) y ∧ K.2.1 q = nI (G x y)) ∧
  (∀ q r, e ≤ q → q ≤ r → r < K.2.2.2.1 → e_F K q ≤ e_F K r) ∧
  (∀ x y, e_lx x y p b → l ≤ x → x < e → e_c g (R x) y → ¬ e_s g (R x) y w = 0 ∧ (d < 5 → ∃ q, q < K.2.2.2.1 ∧ K.1 q = e_s g (R x) y ∧ (e ≤ q → e_F K q ≤ G x y)))
/-- found -/
def e_O (g : q_G) (w d l e : Nat) (R : Nat → Nat → Nat) (G : Nat → Nat → Nat) (K : q_K) : Prop := ∃ p b, l ≤ p ∧ p < e ∧ e_c g (R p) b ∧ e_s g (R p) b w = 0 ∧ K.2.2.2.2 = (nI d, nI (G p b)) ∧ ∀ x y, e_lx x y p b → l ≤ x → x < e → e_c g (R x) y → ¬ e_s g (R x) y w = 0
section LEV
variable {g : q_G} {w d l e : Nat} {R : Nat → Nat → Nat} {R1 : Nat → Int32} {G : Nat → Nat → Nat}
theorem e_N_skip {p b : Nat} {K : q_K} (h : e_N g w d l e R R1 G p b K) (hc : ¬ e_c g (R p) b) : e_N g w d l e R R1 G p (b + 1) K := by
  obtain ⟨h1, h2, h3, h4, h5, h6, h7, h8⟩ := h
  refine ⟨h1, ⟨h2.1, by omega⟩, h3, h4, h5, fun q a1 a2 => ?_, h7, fun x y hl a1 a2 a3 => ?_⟩
  · obtain ⟨x, y, b1, b2⟩ := h6 q a1 a2
    exact ⟨x, y, by omega, b2⟩
  · by_cases k : x = p ∧ y = b
    · exfalso
      rw [k.1, k.2] at a3
      exact hc a3
    · exact h8 x y (by omega) a1 a2 a3
theorem e_N_row {p : Nat} {K : q_K} (hn9 : g_n g ≤ 9) (hp : l ≤ p) (h : e_N g w d l e R R1 G p (g_n g) K) : e_N g w d l e R R1 G (p + 1) 0 K := by
  obtain ⟨h1, h2, h3, h4, h5, h6, h7, h8⟩ := h
  refine ⟨h1, ⟨h2.1, by omega⟩, h3, h4, h5, fun q a1 a2 => ?_, h7, fun x y hl a1 a2 a3 => ?_⟩
  · obtain ⟨x, y, b1, b2⟩ := h6 q a1 a2
    exact ⟨x, y, by omega, b2⟩
  · have a4 := a3.2.1
    exact h8 x y (by omega) a1 a2 a3
theorem e_g1 {p b : Nat} {K : q_K} (hg : g_ok 99 g) (hd : 1 ≤ d) (hd5 : d ≤ 5) (hV : e_V g w d l e R G) (hR : ∀ q b, l ≤ q → q < e → b < g_n g → (if d = 1 then nI b else R1 q) = nI (G q b)) (hroom : d < 5 → e + 9 * (e - l) ≤ 7381) (hp : l ≤ p) (hpe : p < e) (hb : b < g_n g) (h : e_N g w d l e R R1 G p b K) :
    e_N g w d l e R R1 G p (b + 1) (q_g1 w d p (e_T g (R p)) b K) ∨ e_O g w d l e R G (q_g1 w d p (e_T g (R p)) b K) := by
  have hn9 := hg.1
  have hfm : (if d = 1 then nI b else K.2.1 p) = nI (G p b) := by
    obtain ⟨h1, h2, h3, h4, h5, h6, h7, h8⟩ := h
    rw [(h4 p hpe).2]
    exact hR p b hp hpe hb
  by_cases hc : e_c g (R p) b
  · have hc2 : g_can (e_T g (R p)) b := hc
    have hs := e_s_ok (b := b) hg (hV.1 p hpe).1 (hV.1 p hpe).2 hb
    by_cases hw : e_s g (R p) b w = 0
    · refine Or.inr ⟨p, b, hp, hpe, hc, hw, ?_, fun x y hl a1 a2 a3 => (h.2.2.2.2.2.2.2 x y hl a1 a2 a3).1⟩
      unfold q_g1
      rw [if_pos hc2, if_pos hw]
      show (nI d, if d = 1 then nI b else K.2.1 p) = (nI d, nI (G p b))
      rw [hfm]
    · refine Or.inl ?_
      by_cases d5 : d < 5
      · have e1 : q_g1 w d p (e_T g (R p)) b K = q_kp (g_n g) (e_s g (R p) b) (nI (G p b)) 16384 (e_h (g_n g) (e_s g (R p) b)) K := by
          unfold q_g1
          rw [if_pos hc2, if_neg hw, if_pos d5, hfm]
        rw [e1]
        obtain ⟨h1, h2, h3, h4, h5, h6, h7, h8⟩ := h
        have hr := hroom d5
        have hG := (hV.2.1 p b hp hpe hc).1
        have eF : ∀ q x y, l ≤ x → x < e → e_c g (R x) y → K.2.1 q = nI (G x y) → e_F K q = G x y := by
          intro q x y b2 b3 b4 b6
          have hG2 := (hV.2.1 x y b2 b3 b4).1
          show (K.2.1 q).toNatClampNeg = G x y
          rw [b6]
          exact nI_clamp (by omega)
        have key := e_keep (fm := nI (G p b)) (β := e_s g (R p) b) h1 (by omega) (fun q hq hh => by
          funext j
          by_cases k : j < g_n g
          · exact hh j k
          · rw [(h5 q hq).1 j (by omega)]
            exact (hs.1 j (by omega)).symm)
        rcases key with ⟨⟨q, q1, q2⟩, k2⟩ | ⟨k1, c, k2, k3⟩
        · rw [k2]
          refine ⟨h1, ⟨h2.1, by omega⟩, h3, h4, h5, fun q a1 a2 => ?_, h7, fun x y hl a1 a2 a3 => ?_⟩
          · obtain ⟨x, y, b1, b2⟩ := h6 q a1 a2
            exact ⟨x, y, by omega, b2⟩
          · by_cases k : x = p ∧ y = b
            · rw [k.1, k.2]
              refine ⟨hw, fun _ => ⟨q, q1, q2, fun hq => ?_⟩⟩
              obtain ⟨x2, y2, b1, b2, b3, b4, b5, b6⟩ := h6 q hq q1
              rw [eF q x2 y2 b2 b3 b4 b6]
              exact hV.2.2.2.1 x2 y2 p b b2 hpe b1
            · exact h8 x y (by omega) a1 a2 a3
        · rw [k2]
          have i1 : ∀ q, q < K.2.2.2.1 → (e_ins (e_s g (R p) b) (nI (G p b)) c K).1 q = K.1 q := fun q hq => if_neg (by omega)
          have i2 : (e_ins (e_s g (R p) b) (nI (G p b)) c K).1 K.2.2.2.1 = e_s g (R p) b := if_pos rfl
          have i3 : ∀ q, q < K.2.2.2.1 → (e_ins (e_s g (R p) b) (nI (G p b)) c K).2.1 q = K.2.1 q := fun q hq => pk_un (by omega)
          have i4 : (e_ins (e_s g (R p) b) (nI (G p b)) c K).2.1 K.2.2.2.1 = nI (G p b) := pk_us
          have i5 : e_F (e_ins (e_s g (R p) b) (nI (G p b)) c K) K.2.2.2.1 = G p b := by
            show ((e_ins (e_s g (R p) b) (nI (G p b)) c K).2.1 K.2.2.2.1).toNatClampNeg = G p b
            rw [i4]
            exact nI_clamp (by omega)
          have i6 : ∀ q, q < K.2.2.2.1 → e_F (e_ins (e_s g (R p) b) (nI (G p b)) c K) q = e_F K q := fun q hq => by
            show ((e_ins (e_s g (R p) b) (nI (G p b)) c K).2.1 q).toNatClampNeg = (K.2.1 q).toNatClampNeg
            rw [i3 q hq]
          have iH : (e_ins (e_s g (R p) b) (nI (G p b)) c K).2.2.2.1 = K.2.2.2.1 + 1 := rfl
          have top : ∀ q, e ≤ q → q < K.2.2.2.1 → e_F K q ≤ G p b := fun q a1 a2 => by
            obtain ⟨x2, y2, b1, b2, b3, b4, b5, b6⟩ := h6 q a1 a2
            rw [eF q x2 y2 b2 b3 b4 b6]
            exact hV.2.2.2.1 x2 y2 p b b2 hpe b1
          refine ⟨k3, ⟨by rw [iH]; omega, by rw [iH]; omega⟩, h3, fun q hq => ?_, fun q hq => ?_, fun q a1 a2 => ?_, fun q r a1 a2 a3 => ?_, fun x y hl a1 a2 a3 => ?_⟩
          · rw [i1 q (by omega), i3 q (by omega)]
            exact h4 q hq
          · rw [iH] at hq
            by_cases k : q = K.2.2.2.1
            · rw [k, i2]
              exact hs
            · rw [i1 q (by omega)]
              exact h5 q (by omega)
          · rw [iH] at a2
            by_cases k : q = K.2.2.2.1
            · exact ⟨p, b, by omega, hp, hpe, hc, by rw [k]; exact i2, by rw [k]; exact i4⟩
            · obtain ⟨x, y, b1, b2, b3, b4, b5, b6⟩ := h6 q a1 (by omega)
              exact ⟨x, y, by omega, b2, b3, b4, (i1 q (by omega)).trans b5, (i3 q (by omega)).trans b6⟩
          · rw [iH] at a3
            by_cases k : r = K.2.2.2.1
            · by_cases k4 : q = K.2.2.2.1
              · rw [k, k4]
                exact Nat.le_refl _
              · rw [k, i5, i6 q (by omega)]
                exact top q a1 (by omega)
            · rw [i6 q (by omega), i6 r (by omega)]
              exact h7 q r a1 a2 (by omega)
          · by_cases k : x = p ∧ y = b
            · rw [k.1, k.2]
              exact ⟨hw, fun _ => ⟨K.2.2.2.1, by rw [iH]; exact Nat.lt_succ_self _, i2, fun _ => by rw [i5]; exact Nat.le_refl _⟩⟩
            · obtain ⟨g1, g2⟩ := h8 x y (by omega) a1 a2 a3
              refine ⟨g1, fun k5 => ?_⟩
              obtain ⟨q, q1, q2, q3⟩ := g2 k5
              exact ⟨q, by rw [iH]; omega, (i1 q q1).trans q2, fun k6 => by rw [i6 q q1]; exact q3 k6⟩
      · have e1 : q_g1 w d p (e_T g (R p)) b K = K := by
          unfold q_g1
          rw [if_pos hc2, if_neg hw, if_neg d5]
        rw [e1]
        obtain ⟨h1, h2, h3, h4, h5, h6, h7, h8⟩ := h
        refine ⟨h1, ⟨h2.1, by omega⟩, h3, h4, h5, fun q a1 a2 => ?_, h7, fun x y hl a1 a2 a3 => ?_⟩
        · obtain ⟨x, y, b1, b2⟩ := h6 q a1 a2
          exact ⟨x, y, by omega, b2⟩
        · by_cases k : x = p ∧ y = b
          · rw [k.1, k.2]
            exact ⟨hw, fun k5 => absurd k5 d5⟩
          · exact h8 x y (by omega) a1 a2 a3
  · have hc2 : ¬ g_can (e_T g (R p)) b := hc
    have e1 : q_g1 w d p (e_T g (R p)) b K = K := by
      unfold q_g1
      rw [if_neg hc2]
    rw [e1]
    exact Or.inl (e_N_skip h hc)
theorem e_nd (hd : d ≤ 5) : ¬ nI d = -9 := q_oI_ne (by omega)
theorem e_O_ne {K : q_K} (hd : d ≤ 5) (h : e_O g w d l e R G K) : ¬ K.2.2.2.2.1 = -9 := by
  obtain ⟨p, b, h1, h2, h3, h4, h5, h6⟩ := h
  rw [h5]
  exact e_nd hd
theorem e_go {p : Nat} (hg : g_ok 99 g) (hd : 1 ≤ d) (hd5 : d ≤ 5) (hV : e_V g w d l e R G) (hR : ∀ q b, l ≤ q → q < e → b < g_n g → (if d = 1 then nI b else R1 q) = nI (G q b)) (hroom : d < 5 → e + 9 * (e - l) ≤ 7381) (hp : l ≤ p) (hpe : p < e) : ∀ (m b : Nat) (K : q_K), b + m = g_n g → e_N g w d l e R R1 G p b K →
    e_N g w d l e R R1 G p (g_n g) (q_go w d p (e_T g (R p)) m b K) ∨ e_O g w d l e R G (q_go w d p (e_T g (R p)) m b K)
  | 0, b, K, hb, h => by
    have hb2 : b = g_n g := by omega
    rw [← hb2]
    exact Or.inl h
  | m + 1, b, K, hb, h => by
    have h9 : K.2.2.2.2.1 = -9 := by rw [h.2.2.1]
    rw [q_go, if_pos h9]
    rcases e_g1 hg hd hd5 hV hR hroom hp hpe (by omega) h with k | k
    · exact e_go hg hd hd5 hV hR hroom hp hpe m (b + 1) _ (by omega) k
    · refine Or.inr ?_
      cases m with
      | zero => exact k
      | succ m =>
        rw [q_go, if_neg (e_O_ne hd5 k)]
        exact k
theorem e_li (hg : g_ok 99 g) (hd : 1 ≤ d) (hd5 : d ≤ 5) (hV : e_V g w d l e R G) (hR : ∀ q b, l ≤ q → q < e → b < g_n g → (if d = 1 then nI b else R1 q) = nI (G q b)) (hroom : d < 5 → e + 9 * (e - l) ≤ 7381) : ∀ (m p : Nat) (K : q_K), l ≤ p → p + m = e → e_N g w d l e R R1 G p 0 K →
    e_N g w d l e R R1 G e 0 (q_li w d g m p K) ∨ e_O g w d l e R G (q_li w d g m p K)
  | 0, p, K, hp, hm, h => by
    have hp2 : p = e := by omega
    rw [← hp2]
    exact Or.inl (hp2 ▸ h)
  | m + 1, p, K, hp, hm, h => by
    have h9 : K.2.2.2.2.1 = -9 := by rw [h.2.2.1]
    have hpe : p < e := by omega
    have e1 : g_rg g (K.1 p) = e_T g (R p) := by
      rw [(h.2.2.2.1 p hpe).1]
      exact e_rg (hV.1 p hpe).1
    rw [q_li, if_pos h9, e1]
    rcases e_go hg hd hd5 hV hR hroom hp hpe (g_n g) 0 K (Nat.zero_add _) h with k | k
    · exact e_li hg hd hd5 hV hR hroom m (p + 1) _ (by omega) (by omega) (e_N_row hg.1 hp k)
    · refine Or.inr ?_
      cases m with
      | zero => exact k
      | succ m =>
        rw [q_li, if_neg (e_O_ne hd5 k)]
        exact k
end LEV
