/-! Thinking ahead: the class's look with a window and the reference's plain look find the same. -/
abbrev d_ok (g : q_G) : Prop := g_n g ≤ 9 ∧ g_t g ≤ 1 ∧ ∀ i, g_π g i ≤ 999
theorem d_ok_of {C : Nat} {g : q_G} (h : g_ok C g) : d_ok g := ⟨h.1, h.2.2.2.1, h.2.2.2.2.2.2.1⟩
def v_tk (g : q_G) (b : Nat) : Int := if q_tk1 (g_v g b).1 (g_π g (g_t g)) (g_v g b).2.2.2 = true then 1 else 0
theorem v_tk_I (g : q_G) (b : Nat) : (g_tk g b).toInt = v_tk g b := by
  unfold g_tk v_tk
  by_cases hc : q_tk1 (g_v g b).1 (g_π g (g_t g)) (g_v g b).2.2.2 = true
  · rw [if_pos hc, if_pos hc]
    decide
  · rw [if_neg hc, if_neg hc]
    decide
theorem v_tk_le (g : q_G) (b : Nat) : 0 ≤ v_tk g b ∧ v_tk g b ≤ 1 := by
  unfold v_tk
  by_cases hc : q_tk1 (g_v g b).1 (g_π g (g_t g)) (g_v g b).2.2.2 = true
  · rw [if_pos hc]
    decide
  · rw [if_neg hc]
    decide
def v_d (g : q_G) : Int := (g_π g (g_t g) : Int) - (g_π g (1 - g_t g) : Int)
theorem v_d_I {g : q_G} (h : d_ok g) : (q_dI g).toInt = v_d g := by
  have h1 := h.2.2 (g_t g)
  have h2 := h.2.2 (1 - g_t g)
  exact pk_sub_toInt (by omega) (by omega)
theorem v_d_le {g : q_G} (h : d_ok g) : -999 ≤ v_d g ∧ v_d g ≤ 999 := by
  have h1 := h.2.2 (g_t g)
  have h2 := h.2.2 (1 - g_t g)
  unfold v_d
  omega
theorem d_ok_mv {g : q_G} {b : Nat} (h : d_ok g) : d_ok (g_mv g b) := by
  refine ⟨h.1, by show 1 - g_t g ≤ 1; omega, ?_⟩
  show ∀ i, q_p1 (g_v g b).1 (g_π g) (g_t g) (g_v g b).2.2.2 i ≤ 999
  unfold q_p1
  split
  · rename_i hq
    refine q_up_le h.2.2 ?_
    cases hl : (g_v g b).2.2.2 with
    | none =>
      rw [hl] at hq
      cases hq
    | some p =>
      rw [hl] at hq
      simp only [q_tk1, Bool.and_eq_true, decide_eq_true_eq] at hq
      omega
  · exact h.2.2
theorem v_d_mv {g : q_G} {b : Nat} (h : d_ok g) : v_d (g_mv g b) = -(v_d g + v_tk g b) := by
  have ht := h.2.1
  have e1 : v_d (g_mv g b) = ((q_p1 (g_v g b).1 (g_π g) (g_t g) (g_v g b).2.2.2 (1 - g_t g) : Nat) : Int) - ((q_p1 (g_v g b).1 (g_π g) (g_t g) (g_v g b).2.2.2 (1 - (1 - g_t g)) : Nat) : Int) := rfl
  rw [e1, show 1 - (1 - g_t g) = g_t g from by omega]
  unfold q_p1 v_d v_tk
  by_cases hc : q_tk1 (g_v g b).1 (g_π g (g_t g)) (g_v g b).2.2.2 = true
  · rw [if_pos hc, if_pos hc, q_up_s, q_up_n _ _ (show 1 - g_t g ≠ g_t g from by omega)]
    omega
  · rw [if_neg hc, if_neg hc]
    omega
/-- the first of the greatest -/
def v_s (c : Nat → Bool) (W : Nat → Int) : Nat → Option (Int × Nat)
  | 0 => none
  | b + 1 => match v_s c W b with
    | none => if c b = true then some (W b, b) else none
    | some r => if c b = true ∧ r.1 < W b then some (W b, b) else some r
theorem v_s_n {c : Nat → Bool} {W : Nat → Int} {b : Nat} (h : v_s c W b = none) : v_s c W (b + 1) = if c b = true then some (W b, b) else none := by
  rw [v_s, h]
theorem v_s_s {c : Nat → Bool} {W : Nat → Int} {b : Nat} {r : Int × Nat} (h : v_s c W b = some r) : v_s c W (b + 1) = if c b = true ∧ r.1 < W b then some (W b, b) else some r := by
  rw [v_s, h]
theorem v_s_is {c : Nat → Bool} {W : Nat → Int} : ∀ (n : Nat) (r : Int × Nat), v_s c W n = some r → r.2 < n ∧ c r.2 = true ∧ W r.2 = r.1
  | 0, r, h => by cases h
  | n + 1, r, h => by
    cases hs : v_s c W n with
    | none =>
      rw [v_s_n hs] at h
      by_cases hc : c n = true
      · rw [if_pos hc] at h
        have e := Option.some.inj h
        subst e
        exact ⟨Nat.lt_succ_self n, hc, rfl⟩
      · rw [if_neg hc] at h
        cases h
    | some q =>
      rw [v_s_s hs] at h
      have i1 := v_s_is n q hs
      by_cases hc : c n = true ∧ q.1 < W n
      · rw [if_pos hc] at h
        have e := Option.some.inj h
        subst e
        exact ⟨Nat.lt_succ_self n, hc.1, rfl⟩
      · rw [if_neg hc] at h
        have e := Option.some.inj h
        subst e
        exact ⟨by omega, i1.2⟩
theorem v_s_up {c : Nat → Bool} {W : Nat → Int} {b : Nat} {r : Int × Nat} (h : v_s c W b = some r) : ∀ n, b ≤ n → ∃ q, v_s c W n = some q ∧ r.1 ≤ q.1 ∧ (q.1 ≤ r.1 → q = r)
  | 0, hn => by
    have hb : b = 0 := by omega
    subst hb
    cases h
  | n + 1, hn => by
    by_cases hb : b = n + 1
    · subst hb
      exact ⟨r, h, Int.le_refl _, fun _ => rfl⟩
    · obtain ⟨q, h1, h2, h3⟩ := v_s_up h n (by omega)
      rw [v_s_s h1]
      by_cases hc : c n = true ∧ q.1 < W n
      · rw [if_pos hc]
        have hc2 := hc.2
        refine ⟨_, rfl, ?_, fun k => ?_⟩
        · show r.1 ≤ W n
          omega
        · exfalso
          have k2 : W n ≤ r.1 := k
          omega
      · rw [if_neg hc]
        exact ⟨q, rfl, h2, h3⟩
def v_e (o : Option (Int × Nat)) : Int := match o with
  | none => 0
  | some r => r.1
/-- by how much the one in turn gains in k moves -/
def v_G : Nat → q_G → Int
  | 0, _ => 0
  | k + 1, g => v_e (v_s (fun b => decide (g_can g b)) (fun b => v_tk g b - v_G k (g_mv g b)) (g_n g))
abbrev v_W (k : Nat) (g : q_G) : Nat → Int := fun b => v_tk g b - v_G k (g_mv g b)
abbrev v_c (g : q_G) : Nat → Bool := fun b => decide (g_can g b)
theorem v_G_S (k : Nat) (g : q_G) : v_G (k + 1) g = v_e (v_s (v_c g) (v_W k g) (g_n g)) := rfl
theorem v_G_le : ∀ (k : Nat) (g : q_G), -((k / 2 : Nat) : Int) ≤ v_G k g ∧ v_G k g ≤ (((k + 1) / 2 : Nat) : Int)
  | 0, g => by
    have e : v_G 0 g = 0 := rfl
    rw [e]
    omega
  | k + 1, g => by
    rw [v_G_S]
    cases hs : v_s (v_c g) (v_W k g) (g_n g) with
    | none =>
      have e : v_e none = 0 := rfl
      rw [e]
      omega
    | some r =>
      have i1 := (v_s_is _ r hs).2.2
      have i2 := v_G_le k (g_mv g r.2)
      have i3 := v_tk_le g r.2
      have e : v_e (some r) = r.1 := rfl
      rw [e]
      have i4 : v_tk g r.2 - v_G k (g_mv g r.2) = r.1 := i1
      omega
theorem i_lt_or (a b : Int) : a < b ∨ b ≤ a := by omega
theorem i_sub {x y : Int32} (hx : -100000 ≤ x.toInt ∧ x.toInt ≤ 100000) (hy : -100000 ≤ y.toInt ∧ y.toInt ≤ 100000) : (x - y).toInt = x.toInt - y.toInt := by
  rw [Int32.toInt_sub]
  exact Int.bmod_eq_of_le (by omega) (by omega)
theorem i_neg {x : Int32} (hx : -100000 ≤ x.toInt ∧ x.toInt ≤ 100000) : (-x).toInt = -x.toInt := by
  rw [Int32.toInt_neg]
  exact Int.bmod_eq_of_le (by omega) (by omega)
-- the reference
def v_rel (D : Int) (d : Int32) (o : Option (Int × Nat)) (q : Int32 × Int32) : Prop := match o with
  | none => q = (d, -9)
  | some r => q.1.toInt = D + r.1 ∧ q.2 = nI r.2
theorem v_sI_r {d : Int32} {c : Nat → Bool} {V : Nat → Int32} {W : Nat → Int} {D : Int} (hV : ∀ b, (V b).toInt = D + W b) : ∀ n, n ≤ 1000 → v_rel D d (v_s c W n) (q_sI d c V n)
  | 0, _ => rfl
  | b + 1, hb => by
    have ih := v_sI_r (d := d) (c := c) hV b (by omega)
    cases hs : v_s c W b with
    | none =>
      rw [hs] at ih
      have ih2 : q_sI d c V b = (d, -9) := ih
      rw [v_s_n hs, q_sI, ih2]
      by_cases hc : c b = true
      · have hd : c b = true ∧ ((d, (-9 : Int32)).2 = -9 ∨ (d, (-9 : Int32)).1 < V b) := ⟨hc, Or.inl rfl⟩
        rw [if_pos hc, if_pos hd]
        exact ⟨hV b, rfl⟩
      · have hd : ¬ (c b = true ∧ ((d, (-9 : Int32)).2 = -9 ∨ (d, (-9 : Int32)).1 < V b)) := fun q => hc q.1
        rw [if_neg hc, if_neg hd]
        exact rfl
    | some r =>
      rw [hs] at ih
      obtain ⟨e1, e2⟩ := ih
      have i1 := (v_s_is _ r hs).1
      have ne : ¬ (q_sI d c V b).2 = -9 := by
        rw [e2]
        exact q_oI_ne (by omega)
      have hv := hV b
      rw [v_s_s hs, q_sI]
      by_cases hc : c b = true ∧ r.1 < W b
      · have hd : c b = true ∧ ((q_sI d c V b).2 = -9 ∨ (q_sI d c V b).1 < V b) := ⟨hc.1, Or.inr (by have hc2 := hc.2; rw [Int32.lt_iff_toInt_lt]; omega)⟩
        rw [if_pos hc, if_pos hd]
        exact ⟨hV b, rfl⟩
      · have hd : ¬ (c b = true ∧ ((q_sI d c V b).2 = -9 ∨ (q_sI d c V b).1 < V b)) := by
          intro q
          refine hc ⟨q.1, ?_⟩
          rcases q.2 with h | h
          · exact absurd h ne
          · rw [Int32.lt_iff_toInt_lt] at h
            omega
        rw [if_neg hc, if_neg hd]
        exact ⟨e1, e2⟩
theorem v_ref_S {k : Nat} (hk : k ≤ 1000) (ih : ∀ g, d_ok g → (q_seI k g).1.toInt = v_d g + v_G k g) {g : q_G} (h : d_ok g) : v_rel (v_d g) (q_dI g) (v_s (v_c g) (v_W k g) (g_n g)) (q_seI (k + 1) g) := by
  have hn := h.1
  refine v_sI_r (fun b => ?_) _ (by omega)
  have h2 := ih (g_mv g b) (d_ok_mv h)
  have h3 := v_d_mv (b := b) h
  have h4 := v_d_le (d_ok_mv (b := b) h)
  have h5 := v_G_le k (g_mv g b)
  rw [i_neg (by omega)]
  show -(q_seI k (g_mv g b)).1.toInt = v_d g + (v_tk g b - v_G k (g_mv g b))
  omega
theorem v_ref : ∀ (k : Nat), k ≤ 1000 → ∀ g, d_ok g → (q_seI k g).1.toInt = v_d g + v_G k g
  | 0, _, g, h => by
    have e : v_G 0 g = 0 := rfl
    have e2 : (q_seI 0 g).1 = q_dI g := rfl
    have e3 := v_d_I h
    rw [e, e2]
    omega
  | k + 1, hk, g, h => by
    have h1 := v_ref_S (k := k) (by omega) (v_ref k (by omega)) h
    rw [v_G_S]
    cases hs : v_s (v_c g) (v_W k g) (g_n g) with
    | none =>
      rw [hs] at h1
      have h2 : q_seI (k + 1) g = (q_dI g, -9) := h1
      have e : v_e none = 0 := rfl
      have e3 := v_d_I h
      rw [h2, e]
      show (q_dI g).toInt = _
      omega
    | some r =>
      rw [hs] at h1
      exact h1.1
-- the class
abbrev v_P (v lo hi x : Int) : Prop := (v ≤ lo → x ≤ lo) ∧ (hi ≤ v → hi ≤ x) ∧ (lo < v → v < hi → x = v)
def v_R (lo hi mn mx : Int) (o : Option (Int × Nat)) (R : Int32 × Int32) : Prop := match o with
  | none => R.1.toInt = lo - 1 ∧ R.2 = -9
  | some r => R.2 ≠ -9 ∧ (mn ≤ R.1.toInt ∧ R.1.toInt ≤ mx) ∧ ((R.1.toInt ≤ lo ∧ r.1 ≤ lo) ∨ (lo < R.1.toInt ∧ R.1.toInt < hi ∧ R.1.toInt = r.1 ∧ R.2 = nI r.2) ∨ (hi ≤ R.1.toInt ∧ hi ≤ r.1))
theorem v_R_pick {lo hi mn mx w x mo : Int} {X : Int32} {b : Nat} (hb : b < 2 ^ 31) (hX : X.toInt = x) (hbd : mn ≤ x ∧ x ≤ mx) (hlm : mo < hi) (hP : v_P w mo hi x) (hm : mo < w ∨ mo ≤ lo) : v_R lo hi mn mx (some (w, b)) (X, nI b) := by
  refine ⟨q_oI_ne hb, (by show mn ≤ X.toInt ∧ X.toInt ≤ mx; rw [hX]; exact hbd), ?_⟩
  show (X.toInt ≤ lo ∧ w ≤ lo) ∨ (lo < X.toInt ∧ X.toInt < hi ∧ X.toInt = w ∧ nI b = nI b) ∨ (hi ≤ X.toInt ∧ hi ≤ w)
  rw [hX]
  obtain ⟨p1, p2, p3⟩ := hP
  by_cases d : hi ≤ w
  · exact Or.inr (Or.inr ⟨p2 d, d⟩)
  · by_cases d2 : mo < w
    · have p4 := p3 d2 (by omega)
      by_cases d3 : w ≤ lo
      · exact Or.inl ⟨by omega, d3⟩
      · exact Or.inr (Or.inl ⟨by omega, by omega, p4, rfl⟩)
    · have p4 := p1 (by omega)
      exact Or.inl ⟨by omega, by omega⟩
theorem v_al {V : Nat → Int32 → Int32} {c : Nat → Bool} {en : Int32} {W : Nat → Int} {lo hi mn mx : Int} {n : Nat} (hn : n ≤ 1000) (hen : mx ≤ en.toInt ∨ hi ≤ en.toInt) (hen2 : en.toInt ≤ hi) (hlh : lo < hi)
    (hV : ∀ (b : Nat) (mo : Int32), c b = true → mo.toInt = lo - 1 ∨ (mn ≤ mo.toInt ∧ mo.toInt ≤ mx) → mo.toInt < hi → v_P (W b) mo.toInt hi (V b mo).toInt ∧ mn ≤ (V b mo).toInt ∧ (V b mo).toInt ≤ mx)
    (hW : ∀ b, c b = true → W b ≤ mx) : ∀ (m b : Nat) (r : Int32 × Int32), b + m = n → v_R lo hi mn mx (v_s c W b) r → v_R lo hi mn mx (v_s c W n) (q_al V c en m b r)
  | 0, b, r, hb, hr => by
    have hb2 : b = n := by omega
    subst hb2
    exact hr
  | m + 1, b, r, hb, hr => by
    rw [q_al]
    by_cases h1 : r.2 = -9 ∨ r.1 < en
    · rw [if_pos h1]
      cases hs : v_s c W b with
      | none =>
        rw [hs] at hr
        obtain ⟨r1, r2⟩ := id hr
        by_cases hc : c b = true
        · have hd : c b = true ∧ (r.1 < V b r.1 ∨ r.2 = -9) := ⟨hc, Or.inr r2⟩
          rw [if_pos hd]
          refine v_al hn hen hen2 hlh hV hW m (b + 1) _ (by omega) ?_
          rw [v_s_n hs, if_pos hc]
          have hv := hV b r.1 hc (Or.inl r1) (by omega)
          exact v_R_pick (mo := r.1.toInt) (by omega) rfl hv.2 (by omega) hv.1 (Or.inr (by omega))
        · have hd : ¬ (c b = true ∧ (r.1 < V b r.1 ∨ r.2 = -9)) := fun q => hc q.1
          rw [if_neg hd]
          refine v_al hn hen hen2 hlh hV hW m (b + 1) _ (by omega) ?_
          rw [v_s_n hs, if_neg hc]
          exact hr
      | some q =>
        rw [hs] at hr
        obtain ⟨r1, r2, r3⟩ := id hr
        have h2 : r.1.toInt < en.toInt := by
          rcases h1 with h | h
          · exact absurd h r1
          · exact Int32.lt_iff_toInt_lt.mp h
        by_cases hc : c b = true
        · have hv := hV b r.1 hc (Or.inr r2) (by omega)
          have hp := hv.1
          by_cases hx : r.1 < V b r.1
          · have hd : c b = true ∧ (r.1 < V b r.1 ∨ r.2 = -9) := ⟨hc, Or.inl hx⟩
            rw [if_pos hd]
            refine v_al hn hen hen2 hlh hV hW m (b + 1) _ (by omega) ?_
            have hx2 := Int32.lt_iff_toInt_lt.mp hx
            have hw : r.1.toInt < W b := by
              rcases i_lt_or r.1.toInt (W b) with k | k
              · exact k
              · have := hp.1 k
                omega
            rw [v_s_s hs]
            by_cases hq : c b = true ∧ q.1 < W b
            · rw [if_pos hq]
              exact v_R_pick (mo := r.1.toInt) (by omega) rfl hv.2 (by omega) hp (Or.inl hw)
            · rw [if_neg hq]
              have hq2 : W b ≤ q.1 := by
                rcases i_lt_or q.1 (W b) with k | k
                · exact absurd ⟨hc, k⟩ hq
                · exact k
              have hP3 := hp.2.2 hw
              rcases r3 with ⟨k1, k2⟩ | ⟨k1, k2, k3, k4⟩ | ⟨k1, k2⟩
              · refine ⟨q_oI_ne (by omega), hv.2, Or.inl ⟨?_, k2⟩⟩
                show (V b r.1).toInt ≤ lo
                have := hP3 (by omega)
                omega
              · exfalso
                omega
              · exfalso
                omega
          · have hd : ¬ (c b = true ∧ (r.1 < V b r.1 ∨ r.2 = -9)) := fun k => k.2.elim hx r1
            rw [if_neg hd]
            refine v_al hn hen hen2 hlh hV hW m (b + 1) _ (by omega) ?_
            have hx2 : (V b r.1).toInt ≤ r.1.toInt := by
              rcases i_lt_or r.1.toInt (V b r.1).toInt with k | k
              · exact absurd (Int32.lt_iff_toInt_lt.mpr k) hx
              · exact k
            have hw : W b ≤ r.1.toInt := by
              rcases i_lt_or r.1.toInt (W b) with k | k
              · exfalso
                by_cases d : hi ≤ W b
                · have := hp.2.1 d
                  omega
                · have := hp.2.2 k (by omega)
                  omega
              · exact k
            rw [v_s_s hs]
            by_cases hq : c b = true ∧ q.1 < W b
            · rw [if_pos hq]
              have hq2 := hq.2
              rcases r3 with ⟨k1, k2⟩ | ⟨k1, k2, k3, k4⟩ | ⟨k1, k2⟩
              · refine ⟨r1, r2, Or.inl ⟨k1, ?_⟩⟩
                show W b ≤ lo
                omega
              · exfalso
                omega
              · exfalso
                omega
            · rw [if_neg hq]
              exact hr
        · have hd : ¬ (c b = true ∧ (r.1 < V b r.1 ∨ r.2 = -9)) := fun q => hc q.1
          rw [if_neg hd]
          refine v_al hn hen hen2 hlh hV hW m (b + 1) _ (by omega) ?_
          have hd2 : ¬ (c b = true ∧ q.1 < W b) := fun q => hc q.1
          rw [v_s_s hs, if_neg hd2]
          exact hr
    · rw [if_neg h1]
      cases hs : v_s c W b with
      | none =>
        rw [hs] at hr
        exact absurd (Or.inl hr.2) h1
      | some q =>
        rw [hs] at hr
        obtain ⟨r1, r2, r3⟩ := id hr
        have h2 : en.toInt ≤ r.1.toInt := by
          rcases i_lt_or r.1.toInt en.toInt with k | k
          · exact absurd (Or.inr (Int32.lt_iff_toInt_lt.mpr k)) h1
          · exact k
        obtain ⟨q2, g1, g2, g3⟩ := v_s_up hs n (by omega)
        have i1 := v_s_is _ q2 g1
        have i2 := hW q2.2 i1.2.1
        rw [i1.2.2] at i2
        rw [g1]
        rcases r3 with ⟨k1, k2⟩ | ⟨k1, k2, k3, k4⟩ | ⟨k1, k2⟩
        · exact ⟨r1, r2, Or.inl ⟨k1, by omega⟩⟩
        · have e := g3 (by omega)
          rw [e]
          exact ⟨r1, r2, Or.inr (Or.inl ⟨k1, k2, k3, k4⟩)⟩
        · exact ⟨r1, r2, Or.inr (Or.inr ⟨k1, by omega⟩)⟩
theorem v_en {k : Nat} {hi : Int32} (hk : k ≤ 1000) : ((((k + 2) / 2 : Nat) : Int) ≤ (q_en k hi).toInt ∨ hi.toInt ≤ (q_en k hi).toInt) ∧ (q_en k hi).toInt ≤ hi.toInt := by
  have e : nI (k + 2) / 2 = nI ((k + 2) / 2) := pk_div (d := 2) (by omega) (by decide) (by decide)
  have e2 : (nI ((k + 2) / 2)).toInt = (((k + 2) / 2 : Nat) : Int) := nI_toInt (by omega)
  unfold q_en
  rw [e]
  by_cases d : nI ((k + 2) / 2) < hi
  · rw [if_pos d, e2]
    rw [Int32.lt_iff_toInt_lt, e2] at d
    exact ⟨Or.inl (Int.le_refl _), by omega⟩
  · rw [if_neg d]
    exact ⟨Or.inr (Int.le_refl _), Int.le_refl _⟩
abbrev v_B (k : Nat) (x : Int32) : Prop := -(1000 - 3 * (k : Int)) ≤ x.toInt ∧ x.toInt ≤ 1000 - 3 * (k : Int)
theorem v_ab_S {k : Nat} (hk : k ≤ 4) (ih : ∀ (g : q_G) (lo hi : Int32), d_ok g → v_B k lo → v_B k hi → lo.toInt < hi.toInt → v_P (v_G k g) lo.toInt hi.toInt (q_ab k g lo hi).1.toInt ∧ -((k / 2 : Nat) : Int) ≤ (q_ab k g lo hi).1.toInt ∧ (q_ab k g lo hi).1.toInt ≤ (((k + 1) / 2 : Nat) : Int)) {g : q_G} {lo hi : Int32} (h : d_ok g) (hlo : v_B (k + 1) lo) (hhi : v_B (k + 1) hi) (hlh : lo.toInt < hi.toInt) :
    v_R lo.toInt hi.toInt (-(((k + 1) / 2 : Nat) : Int)) ((((k + 2) / 2 : Nat) : Int)) (v_s (v_c g) (v_W k g) (g_n g)) (q_al (q_aV k g hi) (v_c g) (q_en k hi) (g_n g) 0 (lo - 1, -9)) := by
  have hn := h.1
  have he := v_en (k := k) (hi := hi) (by omega)
  have e1 : (1 : Int32).toInt = 1 := by decide
  have el : (lo - 1).toInt = lo.toInt - 1 := by rw [i_sub (by omega) (by omega), e1]
  refine v_al (by omega) he.1 he.2 hlh (fun b mo hc hm hmh => ?_) (fun b hc => ?_) (g_n g) 0 _ (by omega) ⟨el, rfl⟩
  · have t1 := v_tk_I g b
    have t2 := v_tk_le g b
    have s1 : (g_tk g b - hi).toInt = v_tk g b - hi.toInt := by rw [i_sub (by omega) (by omega), t1]
    have s2 : (g_tk g b - mo).toInt = v_tk g b - mo.toInt := by rw [i_sub (by omega) (by omega), t1]
    obtain ⟨⟨p1, p2, p3⟩, p4, p5⟩ := ih (g_mv g b) (g_tk g b - hi) (g_tk g b - mo) (d_ok_mv h) ⟨by omega, by omega⟩ ⟨by omega, by omega⟩ (by omega)
    rw [s1] at p1 p3
    rw [s2] at p2 p3
    have s3 : (q_aV k g hi b mo).toInt = v_tk g b - (q_ab k (g_mv g b) (g_tk g b - hi) (g_tk g b - mo)).1.toInt := by
      show (g_tk g b - (q_ab k (g_mv g b) (g_tk g b - hi) (g_tk g b - mo)).1).toInt = _
      rw [i_sub (by omega) (by omega), t1]
    rw [s3]
    refine ⟨⟨fun q => ?_, fun q => ?_, fun q q2 => ?_⟩, ?_, ?_⟩
    · have q3 : v_tk g b - v_G k (g_mv g b) ≤ mo.toInt := q
      have := p2 (by omega)
      omega
    · have q3 : hi.toInt ≤ v_tk g b - v_G k (g_mv g b) := q
      have := p1 (by omega)
      omega
    · have q3 : mo.toInt < v_tk g b - v_G k (g_mv g b) := q
      have q4 : v_tk g b - v_G k (g_mv g b) < hi.toInt := q2
      have := p3 (by omega) (by omega)
      show _ = v_tk g b - v_G k (g_mv g b)
      omega
    · omega
    · omega
  · have i2 := v_G_le k (g_mv g b)
    have i3 := v_tk_le g b
    show v_tk g b - v_G k (g_mv g b) ≤ _
    omega
theorem v_ab : ∀ (k : Nat), k ≤ 5 → ∀ (g : q_G) (lo hi : Int32), d_ok g → v_B k lo → v_B k hi → lo.toInt < hi.toInt → v_P (v_G k g) lo.toInt hi.toInt (q_ab k g lo hi).1.toInt ∧ -((k / 2 : Nat) : Int) ≤ (q_ab k g lo hi).1.toInt ∧ (q_ab k g lo hi).1.toInt ≤ (((k + 1) / 2 : Nat) : Int) := by
  intro k
  induction k with
  | zero =>
    intro _ g lo hi h hlo hhi hlh
    have e : v_G 0 g = 0 := rfl
    have e2 : (q_ab 0 g lo hi).1.toInt = 0 := by
      show (0 : Int32).toInt = 0
      decide
    rw [e, e2]
    exact ⟨⟨fun q => by omega, fun q => by omega, fun q1 q2 => rfl⟩, by omega, by omega⟩
  | succ k ih =>
    intro hk g lo hi h hlo hhi hlh
    have h1 := v_ab_S (k := k) (by omega) (ih (by omega)) h hlo hhi hlh
    have e2 : (q_ab (k + 1) g lo hi).1 = if (q_al (q_aV k g hi) (v_c g) (q_en k hi) (g_n g) 0 (lo - 1, -9)).2 = -9 then 0 else (q_al (q_aV k g hi) (v_c g) (q_en k hi) (g_n g) 0 (lo - 1, -9)).1 := rfl
    rw [v_G_S, e2]
    cases hs : v_s (v_c g) (v_W k g) (g_n g) with
    | none =>
      rw [hs] at h1
      rw [if_pos h1.2]
      have e : v_e none = 0 := rfl
      have e3 : (0 : Int32).toInt = 0 := by decide
      rw [e, e3]
      exact ⟨⟨fun q => by omega, fun q => by omega, fun q1 q2 => rfl⟩, by omega, by omega⟩
    | some r =>
      rw [hs] at h1
      obtain ⟨r1, r2, r3⟩ := h1
      rw [if_neg r1]
      have e : v_e (some r) = r.1 := rfl
      rw [e]
      refine ⟨?_, r2⟩
      rcases r3 with ⟨k1, k2⟩ | ⟨k1, k2, k3, k4⟩ | ⟨k1, k2⟩
      · exact ⟨fun q => by omega, fun q => by omega, fun q1 q2 => by omega⟩
      · exact ⟨fun q => by omega, fun q => by omega, fun q1 q2 => by omega⟩
      · exact ⟨fun q => by omega, fun q => by omega, fun q1 q2 => by omega⟩
theorem v_ab1 (g : q_G) (lo : Int32) : q_ab 1 g lo (nI 1) = q_ab 1 g lo (nI 2) := by
  have e : q_en 0 (nI 1) = q_en 0 (nI 2) := by decide
  have e2 : q_aV 0 g (nI 1) = q_aV 0 g (nI 2) := rfl
  show ((if (q_al (q_aV 0 g (nI 1)) (v_c g) (q_en 0 (nI 1)) (g_n g) 0 (lo - 1, -9)).2 = -9 then 0 else (q_al (q_aV 0 g (nI 1)) (v_c g) (q_en 0 (nI 1)) (g_n g) 0 (lo - 1, -9)).1), (q_al (q_aV 0 g (nI 1)) (v_c g) (q_en 0 (nI 1)) (g_n g) 0 (lo - 1, -9)).2) = ((if (q_al (q_aV 0 g (nI 2)) (v_c g) (q_en 0 (nI 2)) (g_n g) 0 (lo - 1, -9)).2 = -9 then 0 else (q_al (q_aV 0 g (nI 2)) (v_c g) (q_en 0 (nI 2)) (g_n g) 0 (lo - 1, -9)).1), (q_al (q_aV 0 g (nI 2)) (v_c g) (q_en 0 (nI 2)) (g_n g) 0 (lo - 1, -9)).2)
  rw [e, e2]
theorem v_root {k : Nat} (hk : k ≤ 4) {g : q_G} {lo hi : Int32} (h : d_ok g) (hlo : v_B (k + 1) lo) (hhi : v_B (k + 1) hi) (h1 : lo.toInt < -(((k + 1) / 2 : Nat) : Int)) (h2 : (((k + 2) / 2 : Nat) : Int) < hi.toInt) : (q_ab (k + 1) g lo hi).1.toInt = v_G (k + 1) g ∧ (q_ab (k + 1) g lo hi).2 = (match v_s (v_c g) (v_W k g) (g_n g) with | none => -9 | some r => nI r.2) := by
  have i1 := v_G_le (k + 1) g
  have a1 := (v_ab (k + 1) (by omega) g lo hi h hlo hhi (by omega)).1.2.2 (by omega) (by omega)
  refine ⟨a1, ?_⟩
  have a2 := v_ab_S (k := k) hk (v_ab k (by omega)) h hlo hhi (by omega)
  show (q_al (q_aV k g hi) (v_c g) (q_en k hi) (g_n g) 0 (lo - 1, -9)).2 = _
  rw [v_G_S] at i1
  cases hs : v_s (v_c g) (v_W k g) (g_n g) with
  | none =>
    rw [hs] at a2
    exact a2.2
  | some r =>
    rw [hs] at a2 i1
    have e : v_e (some r) = r.1 := rfl
    rw [e] at i1
    obtain ⟨r1, r2, r3⟩ := a2
    rcases r3 with ⟨k1, k2⟩ | ⟨k1, k2, k3, k4⟩ | ⟨k1, k2⟩
    · exfalso
      omega
    · exact k4
    · exfalso
      omega
theorem v_all {n : Nat} {g : q_G} (h : d_ok g) (h1 : 1 ≤ n) (h4 : n ≤ 4) : q_gI n g = q_wI n g ∧ (q_ab n g (-nI n) (nI n)).2 = (q_seI n g).2 := by
  obtain ⟨k, rfl⟩ : ∃ k, n = k + 1 := ⟨n - 1, by omega⟩
  have hh : ∃ hi : Int32, q_ab (k + 1) g (-nI (k + 1)) (nI (k + 1)) = q_ab (k + 1) g (-nI (k + 1)) hi ∧ v_B (k + 1) hi ∧ (((k + 2) / 2 : Nat) : Int) < hi.toInt := by
    rcases (show k = 0 ∨ k = 1 ∨ k = 2 ∨ k = 3 by omega) with rfl | rfl | rfl | rfl
    · exact ⟨nI 2, v_ab1 g _, by decide, by decide⟩
    · exact ⟨nI 2, rfl, by decide, by decide⟩
    · exact ⟨nI 3, rfl, by decide, by decide⟩
    · exact ⟨nI 4, rfl, by decide, by decide⟩
  obtain ⟨hi, e, hb, hlt⟩ := hh
  have hl : v_B (k + 1) (-nI (k + 1)) ∧ (-nI (k + 1)).toInt < -(((k + 1) / 2 : Nat) : Int) := by
    rcases (show k = 0 ∨ k = 1 ∨ k = 2 ∨ k = 3 by omega) with rfl | rfl | rfl | rfl
    · decide
    · decide
    · decide
    · decide
  obtain ⟨r1, r2⟩ := v_root (k := k) (by omega) h hl.1 hb hl.2 hlt
  rw [← e] at r1 r2
  have s1 := v_ref (k + 1) (by omega) g h
  have s2 := v_d_I h
  have s3 := v_d_le h
  have s4 := v_G_le (k + 1) g
  constructor
  · refine Int32.toInt_inj.mp ?_
    show (q_ab (k + 1) g (-nI (k + 1)) (nI (k + 1))).1.toInt = ((q_seI (k + 1) g).1 - q_dI g).toInt
    rw [r1, i_sub (by omega) (by omega)]
    omega
  · rw [r2]
    have s5 := v_ref_S (k := k) (by omega) (v_ref k (by omega)) h
    cases hs : v_s (v_c g) (v_W k g) (g_n g) with
    | none =>
      rw [hs] at s5
      have s6 : q_seI (k + 1) g = (q_dI g, -9) := s5
      exact (congrArg Prod.snd s6).symm
    | some r =>
      rw [hs] at s5
      exact s5.2.symm
section AN
variable {A : q_A} {a : Int32}
theorem an_n4 {a : Int32} (h1 : ¬ a < 1) (h4 : ¬ 4 < a) : 1 ≤ a.toNatClampNeg ∧ a.toNatClampNeg ≤ 4 := by
  obtain ⟨n, hn, rfl⟩ := nI_of2 (n := 4) (M := 4) rfl (fun q => h1 (Int32.lt_trans q (by decide))) (Int32.not_lt.mp h4)
  rw [nI_clamp (by omega)]
  refine ⟨Nat.pos_of_ne_zero (fun q => h1 ?_), hn⟩
  rw [q]
  decide
theorem an_best (ho : a_ok A) : (s_bestC A a).2 = (s_bestR A a).2 := by
  unfold s_bestC s_bestR
  by_cases h1 : a < 1
  · rw [if_pos h1, if_pos h1]
  · rw [if_neg h1, if_neg h1]
    by_cases h4 : 4 < a
    · rw [if_pos h4, if_pos h4]
    · rw [if_neg h4, if_neg h4]
      have h5 := an_n4 h1 h4
      exact (v_all (d_ok_of ho.1) h5.1 h5.2).2
theorem an_worth (ho : a_ok A) : (s_worthC A a).2 = (s_worthR A a).2 := by
  unfold s_worthC s_worthR
  by_cases h1 : a < 1
  · rw [if_pos h1, if_pos h1]
  · rw [if_neg h1, if_neg h1]
    by_cases h4 : 4 < a
    · rw [if_pos h4, if_pos h4]
    · rw [if_neg h4, if_neg h4]
      have h5 := an_n4 h1 h4
      exact (v_all (d_ok_of ho.1) h5.1 h5.2).1
theorem an_price (ho : a_ok A) : (s_priceC A a).2 = (s_priceR A a).2 := by
  have h := d_ok_of ho.1
  have e1 : q_gI 2 (a_g A) = q_wI 2 (a_g A) := (v_all h (by decide) (by decide)).1
  have e2 : q_gI 2 (g_bm (a_g A) a.toNatClampNeg (g_β (a_g A) a.toNatClampNeg + 1)) = q_wI 2 (g_bm (a_g A) a.toNatClampNeg (g_β (a_g A) a.toNatClampNeg + 1)) := (v_all (g := g_bm (a_g A) a.toNatClampNeg (g_β (a_g A) a.toNatClampNeg + 1)) ⟨h.1, h.2.1, h.2.2⟩ (by decide) (by decide)).1
  unfold s_priceC s_priceR
  rw [e1, e2]
theorem an_sold (ho : a_ok A) : (s_soldC A a).2 = (s_soldR A a).2 := by
  have h := d_ok_of ho.1
  have e1 : q_gI 2 (a_g A) = q_wI 2 (a_g A) := (v_all h (by decide) (by decide)).1
  have e2 : q_gI 2 (g_bm (a_g A) a.toNatClampNeg (g_β (a_g A) a.toNatClampNeg - 1)) = q_wI 2 (g_bm (a_g A) a.toNatClampNeg (g_β (a_g A) a.toNatClampNeg - 1)) := (v_all (g := g_bm (a_g A) a.toNatClampNeg (g_β (a_g A) a.toNatClampNeg - 1)) ⟨h.1, h.2.1, h.2.2⟩ (by decide) (by decide)).1
  unfold s_soldC s_soldR
  rw [e1, e2]
theorem an_change (ho : a_ok A) : q_chg (q_gI 2) (a_g A) = q_chg (q_wI 2) (a_g A) := by
  have h := d_ok_of ho.1
  have e1 : q_gI 2 (a_g A) = q_wI 2 (a_g A) := (v_all h (by decide) (by decide)).1
  have e2 : (fun a b => q_gI 2 (g_sw (a_g A) a b)) = fun a b => q_wI 2 (g_sw (a_g A) a b) := by
    funext x y
    exact (v_all (g := g_sw (a_g A) x y) ⟨h.1, h.2.1, h.2.2⟩ (by decide) (by decide)).1
  show (q_c1 (fun a b => q_gI 2 (g_sw (a_g A) a b)) (g_n (a_g A)) (q_gI 2 (a_g A), -9) (g_n (a_g A))).2 = (q_c1 (fun a b => q_wI 2 (g_sw (a_g A) a b)) (g_n (a_g A)) (q_wI 2 (a_g A), -9) (g_n (a_g A))).2
  rw [e1, e2]
theorem an_fair (ho : a_ok A) : q_fr (fun v => q_gI 2 (g_fl (a_g A) v)) 9 1 = q_fr (fun v => q_wI 2 (g_fl (a_g A) v)) 9 1 := by
  have h := d_ok_of ho.1
  have e2 : (fun v => q_gI 2 (g_fl (a_g A) v)) = fun v => q_wI 2 (g_fl (a_g A) v) := by
    funext x
    exact (v_all (g := g_fl (a_g A) x) ⟨h.1, h.2.1, h.2.2⟩ (by decide) (by decide)).1
  rw [e2]
end AN
