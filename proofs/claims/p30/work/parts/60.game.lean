section
-- == 60.letters
/-! The letters: what a game told in them is. -/
def q_t (L : Nat) (ℓ : Nat → Nat) (i : Nat) : Nat := if i < L then ℓ i else 256
def q_cI (c : Nat) : Int32 := if c = 256 then -1 else nI c
abbrev q_dg (c : Nat) : Prop := 48 ≤ c ∧ c ≤ 57
def q_md (c : Nat) : Nat := if c = 98 ∨ c = 99 then 2 else if c = 102 ∨ c = 108 ∨ c = 116 then 1 else if c = 115 then 9 else 0
def q_ld (c : Nat) : Nat := if c = 115 then 1 else q_md c
def q_kd (c : Nat) : Nat := if c = 111 then 0 else if c = 104 then 1 else if c = 100 then 2 else if c = 119 then 3 else if c = 110 then 4 else if c = 113 then 5 else 9
def q_df (t : Nat → Nat) : Nat → Nat → Nat
  | 0, _ => 0
  | m + 1, p => if q_dg (t p) then q_df t m (p + 1) + 1 else 0
def q_p0 (t : Nat → Nat) (s : Nat) : Nat := if t s = 98 then s + 2 else s + 1
def q_dn (t : Nat → Nat) (s : Nat) : Nat := q_df t (q_md (t s)) (q_p0 t s)
def q_ed (t : Nat → Nat) (s : Nat) : Nat := q_p0 t s + q_dn t s
/-- where a statement breaks off -/
def q_sk (t : Nat → Nat) (s : Nat) : Option Nat := if q_md (t s) = 0 then some s else if t s = 98 ∧ q_kd (t (s + 1)) = 9 then some (s + 1) else if q_dn t s < q_ld (t s) ∨ ¬ t (q_ed t s) = 59 then some (q_ed t s) else none
def g_add (g : q_G) (k v : Nat) : q_G := (q_up (g_κ g) (g_n g) k, q_up (g_β g) (g_n g) v, g_π g, g_n g + 1, g_f g, g_l g, g_t g)
def g_sw (g : q_G) (v w : Nat) : q_G := (g_κ g, q_up (q_up (g_β g) v (g_β g w)) w (g_β g v), g_π g, g_n g, g_f g, g_l g, g_t g)
/-- moves told one behind the other -/
def q_ms2 (t : Nat → Nat) : Nat → Nat → q_G × Nat → Option (q_G × Nat)
  | 0, _, G => some G
  | k + 1, p, G => if g_can G.1 (t p - 48) ∧ ¬ G.2 = 999 then q_ms2 t k (p + 1) (g_mv G.1 (t p - 48), G.2 + 1) else none
/-- what a statement does -/
def q_do (t : Nat → Nat) (s : Nat) (G : q_G × Nat) : Option (q_G × Nat) :=
  if t s = 98 then (if 20 < 10 * (t (s + 2) - 48) + (t (s + 3) - 48) ∨ g_n G.1 = 9 then none else some (g_add G.1 (q_kd (t (s + 1))) (10 * (t (s + 2) - 48) + (t (s + 3) - 48)), G.2))
  else if t s = 115 then q_ms2 t (q_dn t s) (s + 1) G
  else if t s = 99 then (if t (s + 1) - 48 < g_n G.1 ∧ t (s + 2) - 48 < g_n G.1 ∧ ¬ t (s + 1) - 48 = t (s + 2) - 48 then some (g_sw G.1 (t (s + 1) - 48) (t (s + 2) - 48), G.2) else none)
  else if t s = 102 then (if t (s + 1) - 48 = 0 then none else some ((G.1.1, G.1.2.1, G.1.2.2.1, g_n G.1, t (s + 1) - 48, g_l G.1, g_t G.1), G.2))
  else if t s = 108 then (if 1 < t (s + 1) - 48 then none else some ((G.1.1, G.1.2.1, G.1.2.2.1, g_n G.1, g_f G.1, t (s + 1) - 48, g_t G.1), G.2))
  else (if 1 < t (s + 1) - 48 then none else some ((G.1.1, G.1.2.1, G.1.2.2.1, g_n G.1, g_f G.1, g_l G.1, t (s + 1) - 48), G.2))
def q_rn (t : Nat → Nat) (L : Nat) : Nat → Nat → q_G × Nat → Nat ⊕ (q_G × Nat)
  | 0, _, G => .inr G
  | k + 1, s, G => if s < L then (match q_do t s G with | none => .inl s | some G' => q_rn t L k (q_ed t s + 1) G') else .inr G
def q_fa (t : Nat → Nat) (L : Nat) : Nat → Nat → Option Nat
  | 0, _ => none
  | k + 1, s => if s < L then (match q_sk t s with | some p => some p | none => q_fa t L k (q_ed t s + 1)) else none
def q_ct (t : Nat → Nat) (L : Nat) : Nat → Nat → Nat
  | 0, _ => 0
  | k + 1, s => if s < L then q_ct t L k (q_ed t s + 1) + 1 else 0
theorem q_md_9 (c : Nat) : q_md c ≤ 9 := by
  unfold q_md
  repeat' split
  all_goals omega
theorem q_df_le (t : Nat → Nat) : ∀ (m p : Nat), q_df t m p ≤ m
  | 0, _ => Nat.le_refl _
  | m + 1, p => by
    unfold q_df
    split
    · exact Nat.succ_le_succ (q_df_le t m (p + 1))
    · exact Nat.zero_le _
theorem q_df_dg (t : Nat → Nat) : ∀ (m p j : Nat), j < q_df t m p → q_dg (t (p + j))
  | 0, _, _, h => absurd h (Nat.not_lt_zero _)
  | m + 1, p, j, h => by
    unfold q_df at h
    split at h
    · rename_i hd
      cases j with
      | zero => exact hd
      | succ j =>
        have h2 := q_df_dg t m (p + 1) j (by omega)
        rw [show p + (j + 1) = p + 1 + j by omega]
        exact h2
    · exact absurd h (Nat.not_lt_zero _)
theorem q_t_256 {L : Nat} {ℓ : Nat → Nat} (h : ∀ i, ℓ i ≤ 255) {i : Nat} : q_t L ℓ i = 256 ↔ L ≤ i := by
  unfold q_t
  split
  · have := h i
    omega
  · omega
theorem q_t_le {L : Nat} {ℓ : Nat → Nat} (h : ∀ i, ℓ i ≤ 255) (i : Nat) : q_t L ℓ i ≤ 256 := by
  unfold q_t
  split
  · have := h i
    omega
  · omega
theorem q_cI_ne {c : Nat} (h : ¬ c = 256) : q_cI c = nI c := if_neg h
theorem q_cI_eq {c k : Nat} (hc : c ≤ 256) (hk : k ≤ 255) : q_cI c = nI k ↔ c = k := by
  unfold q_cI
  split
  · rename_i h
    constructor
    · intro q
      have h2 := nI_pos (n := k) (by omega)
      rw [← q] at h2
      exact absurd (by decide) h2
    · intro q
      omega
  · exact nI_eq (by omega) (by omega)
theorem q_cI_lt {c k : Nat} (hc : c ≤ 256) (hk : k ≤ 255) : q_cI c < nI k ↔ (c = 256 ∨ c < k) := by
  unfold q_cI
  split
  · rename_i h
    constructor
    · intro _
      exact Or.inl h
    · intro _
      exact Int32.lt_of_lt_of_le (by decide : (-1 : Int32) < 0) (nI_pos' (by omega))
  · rename_i h
    rw [nI_ltI (by omega) (by omega)]
    omega
theorem q_cI_gt {c k : Nat} (hc : c ≤ 256) (hk : k ≤ 255) : nI k < q_cI c ↔ (¬ c = 256 ∧ k < c) := by
  unfold q_cI
  split
  · rename_i h
    constructor
    · intro q
      have h2 : (-1 : Int32) < nI k := Int32.lt_of_lt_of_le (by decide : (-1 : Int32) < 0) (nI_pos' (by omega))
      exact absurd q (Int32.lt_asymm h2)
    · intro q
      exact absurd h q.1
  · rename_i h
    rw [nI_ltI (by omega) (by omega)]
    omega
/-- what a whole statement is -/
theorem q_sk_no {t : Nat → Nat} {s : Nat} (h : q_sk t s = none) : ¬ q_md (t s) = 0 ∧ (t s = 98 → ¬ q_kd (t (s + 1)) = 9) ∧ q_ld (t s) ≤ q_dn t s ∧ t (q_ed t s) = 59 := by
  unfold q_sk at h
  split at h
  · cases h
  · rename_i h1
    split at h
    · cases h
    · rename_i h2
      split at h
      · cases h
      · rename_i h3
        refine ⟨h1, fun q k => h2 ⟨q, k⟩, Nat.not_lt.mp (fun q => h3 (Or.inl q)), ?_⟩
        rcases Nat.decEq (t (q_ed t s)) 59 with q | q
        · exact absurd (Or.inr q) h3
        · exact q
theorem q_md_in {c : Nat} (h : ¬ q_md c = 0) : c = 98 ∨ c = 99 ∨ c = 102 ∨ c = 108 ∨ c = 116 ∨ c = 115 := by
  unfold q_md at h
  repeat' split at h
  all_goals omega
theorem q_kd_in {c : Nat} (h : ¬ q_kd c = 9) : ¬ c = 59 ∧ ¬ q_dg c ∧ c ≤ 255 ∧ q_kd c ≤ 5 := by
  unfold q_kd at *
  unfold q_dg
  repeat' split at h
  all_goals simp_all
  all_goals omega
theorem q_ed_gt {t : Nat → Nat} {s : Nat} : s < q_ed t s := by
  unfold q_ed q_p0
  split <;> omega
theorem q_sk_59 {t : Nat → Nat} {s : Nat} (h : q_sk t s = none) : ∀ j, s ≤ j → j < q_ed t s → ¬ t j = 59 := by
  obtain ⟨h1, h2, h3, h4⟩ := q_sk_no h
  intro j hj hj2 h59
  have h6 := q_md_in h1
  by_cases d : j = s
  · subst d
    omega
  · have hdg := q_df_dg t (q_md (t s)) (q_p0 t s)
    unfold q_ed q_dn at hj2
    by_cases d2 : t s = 98
    · have hp : q_p0 t s = s + 2 := if_pos d2
      rw [hp] at hdg hj2
      by_cases d3 : j = s + 1
      · subst d3
        exact (q_kd_in (h2 d2)).1 h59
      · have h9 := hdg (j - (s + 2)) (by omega)
        rw [show s + 2 + (j - (s + 2)) = j by omega] at h9
        have h9a := h9.1
        have h9b := h9.2
        omega
    · have hp : q_p0 t s = s + 1 := if_neg d2
      rw [hp] at hdg hj2
      have h9 := hdg (j - (s + 1)) (by omega)
      rw [show s + 1 + (j - (s + 1)) = j by omega] at h9
      have h9a := h9.1
      have h9b := h9.2
      omega
/-- its digits -/
theorem q_sk_dg {t : Nat → Nat} {s : Nat} (h : q_sk t s = none) : ∀ j, q_p0 t s ≤ j → j < q_ed t s → q_dg (t j) := by
  intro j hj hj2
  have h9 := q_df_dg t (q_md (t s)) (q_p0 t s) (j - q_p0 t s) (by unfold q_ed q_dn at hj2; omega)
  rw [show q_p0 t s + (j - q_p0 t s) = j by omega] at h9
  exact h9
theorem q_dn_is {t : Nat → Nat} {s : Nat} (h : q_sk t s = none) : (t s = 98 → q_dn t s = 2) ∧ (t s = 99 → q_dn t s = 2) ∧ (t s = 102 ∨ t s = 108 ∨ t s = 116 → q_dn t s = 1) ∧ (t s = 115 → 1 ≤ q_dn t s ∧ q_dn t s ≤ 9) := by
  obtain ⟨h1, h2, h3, h4⟩ := q_sk_no h
  have h5 : q_dn t s ≤ q_md (t s) := q_df_le t (q_md (t s)) (q_p0 t s)
  refine ⟨fun e => ?_, fun e => ?_, fun e => ?_, fun e => ?_⟩
  · rw [e] at h3 h5
    exact Nat.le_antisymm h5 h3
  · rw [e] at h3 h5
    exact Nat.le_antisymm h5 h3
  · have e2 : q_md (t s) = 1 ∧ q_ld (t s) = 1 := by
      rcases e with e | e | e <;> rw [e] <;> exact ⟨rfl, rfl⟩
    rw [e2.1] at h5
    rw [e2.2] at h3
    exact Nat.le_antisymm h5 h3
  · rw [e] at h3 h5
    exact ⟨h3, h5⟩
/-- the letters that an object holds -/
def q_L (S : x_S) (L : Nat) (ℓ : Nat → Nat) : Prop := S.1 2 = nI L ∧ L ≤ 96 ∧ S.2.2.1 0 = (fun i => nI (ℓ i)) ∧ ∀ i, ℓ i ≤ 255
section LT
variable {E : x_E} {z : Nat} {f : x_H} {S : x_S} {M : x_N} {A : q_A} {post : Option Value → x_H → Prop} {L : Nat} {ℓ : Nat → Nat}
theorem l_at {p : Nat} (hS : x_Sys z f S) (hL : q_L S L ℓ) (hp : p < 2 ^ 31) (h : post (some (.int (q_cI (q_t L ℓ p)))) f) : Y E 1 mX2_letterAt [.ref 17, .int (nI p)] z f 0 0 post := by
  obtain ⟨l1, l2, l3, l4⟩ := hL
  have hl := l4 p
  refine w_letterAt hS (fun q => ?_) (fun q => ?_)
  · have hpL : p < L := by
      have h2 := q.2.1
      rw [l1] at h2
      exact (nI_ltI hp (by omega)).mp h2
    rw [nI_clamp hp, l3]
    have e : q_cI (q_t L ℓ p) = nI (ℓ p) := by
      unfold q_t
      rw [if_pos hpL, q_cI_ne (by omega)]
    rw [e] at h
    exact h
  · have hpL : ¬ p < L := by
      intro k
      apply q
      rw [l1]
      exact ⟨nI_pos hp, nI_lt k (by omega), nI_lt (b := 96) (by omega) (by decide)⟩
    have e : q_cI (q_t L ℓ p) = -1 := by
      unfold q_t
      rw [if_neg hpL]
      rfl
    rw [e] at h
    exact h
theorem l_most {c : Nat} (hc : c ≤ 256) (h : post (some (.int (nI (q_md c)))) f) : Y E 1 mX2_mostDigits [.int (q_cI c)] z f 0 0 post := by
  refine Y.intro gX2_mostDigits (lv := [(0, .int (q_cI c))]) rfl (Nat.le_of_ble_eq_true rfl) ?_
  by_cases d : 98 ≤ c ∧ c ≤ 116
  · have d2 : c = 98 ∨ c = 99 ∨ c = 100 ∨ c = 101 ∨ c = 102 ∨ c = 103 ∨ c = 104 ∨ c = 105 ∨ c = 106 ∨ c = 107 ∨ c = 108 ∨ c = 109 ∨ c = 110 ∨ c = 111 ∨ c = 112 ∨ c = 113 ∨ c = 114 ∨ c = 115 ∨ c = 116 := by omega
    rcases d2 with rfl | rfl | rfl | rfl | rfl | rfl | rfl | rfl | rfl | rfl | rfl | rfl | rfl | rfl | rfl | rfl | rfl | rfl | rfl
    ·
      refine x_iload_n (pc' := 1) rfl rfl rfl ?_
      refine x_tableIn (tgt := 92) rfl (by decide) (by decide) rfl rfl ?_
      refine x_iconst (pc' := 93) rfl rfl iconst_2 ?_
      exact x_ireturn rfl rfl rfl (Nat.le_of_ble_eq_true rfl) (Nat.le_of_ble_eq_true rfl) (h)
    ·
      refine x_iload_n (pc' := 1) rfl rfl rfl ?_
      refine x_tableIn (tgt := 92) rfl (by decide) (by decide) rfl rfl ?_
      refine x_iconst (pc' := 93) rfl rfl iconst_2 ?_
      exact x_ireturn rfl rfl rfl (Nat.le_of_ble_eq_true rfl) (Nat.le_of_ble_eq_true rfl) (h)
    ·
      refine x_iload_n (pc' := 1) rfl rfl rfl ?_
      refine x_tableIn (tgt := 99) rfl (by decide) (by decide) rfl rfl ?_
      refine x_iconst (pc' := 100) rfl rfl iconst_0 ?_
      exact x_ireturn rfl rfl rfl (Nat.le_of_ble_eq_true rfl) (Nat.le_of_ble_eq_true rfl) (h)
    ·
      refine x_iload_n (pc' := 1) rfl rfl rfl ?_
      refine x_tableIn (tgt := 99) rfl (by decide) (by decide) rfl rfl ?_
      refine x_iconst (pc' := 100) rfl rfl iconst_0 ?_
      exact x_ireturn rfl rfl rfl (Nat.le_of_ble_eq_true rfl) (Nat.le_of_ble_eq_true rfl) (h)
    ·
      refine x_iload_n (pc' := 1) rfl rfl rfl ?_
      refine x_tableIn (tgt := 94) rfl (by decide) (by decide) rfl rfl ?_
      refine x_iconst (pc' := 95) rfl rfl iconst_1 ?_
      exact x_ireturn rfl rfl rfl (Nat.le_of_ble_eq_true rfl) (Nat.le_of_ble_eq_true rfl) (h)
    ·
      refine x_iload_n (pc' := 1) rfl rfl rfl ?_
      refine x_tableIn (tgt := 99) rfl (by decide) (by decide) rfl rfl ?_
      refine x_iconst (pc' := 100) rfl rfl iconst_0 ?_
      exact x_ireturn rfl rfl rfl (Nat.le_of_ble_eq_true rfl) (Nat.le_of_ble_eq_true rfl) (h)
    ·
      refine x_iload_n (pc' := 1) rfl rfl rfl ?_
      refine x_tableIn (tgt := 99) rfl (by decide) (by decide) rfl rfl ?_
      refine x_iconst (pc' := 100) rfl rfl iconst_0 ?_
      exact x_ireturn rfl rfl rfl (Nat.le_of_ble_eq_true rfl) (Nat.le_of_ble_eq_true rfl) (h)
    ·
      refine x_iload_n (pc' := 1) rfl rfl rfl ?_
      refine x_tableIn (tgt := 99) rfl (by decide) (by decide) rfl rfl ?_
      refine x_iconst (pc' := 100) rfl rfl iconst_0 ?_
      exact x_ireturn rfl rfl rfl (Nat.le_of_ble_eq_true rfl) (Nat.le_of_ble_eq_true rfl) (h)
    ·
      refine x_iload_n (pc' := 1) rfl rfl rfl ?_
      refine x_tableIn (tgt := 99) rfl (by decide) (by decide) rfl rfl ?_
      refine x_iconst (pc' := 100) rfl rfl iconst_0 ?_
      exact x_ireturn rfl rfl rfl (Nat.le_of_ble_eq_true rfl) (Nat.le_of_ble_eq_true rfl) (h)
    ·
      refine x_iload_n (pc' := 1) rfl rfl rfl ?_
      refine x_tableIn (tgt := 99) rfl (by decide) (by decide) rfl rfl ?_
      refine x_iconst (pc' := 100) rfl rfl iconst_0 ?_
      exact x_ireturn rfl rfl rfl (Nat.le_of_ble_eq_true rfl) (Nat.le_of_ble_eq_true rfl) (h)
    ·
      refine x_iload_n (pc' := 1) rfl rfl rfl ?_
      refine x_tableIn (tgt := 94) rfl (by decide) (by decide) rfl rfl ?_
      refine x_iconst (pc' := 95) rfl rfl iconst_1 ?_
      exact x_ireturn rfl rfl rfl (Nat.le_of_ble_eq_true rfl) (Nat.le_of_ble_eq_true rfl) (h)
    ·
      refine x_iload_n (pc' := 1) rfl rfl rfl ?_
      refine x_tableIn (tgt := 99) rfl (by decide) (by decide) rfl rfl ?_
      refine x_iconst (pc' := 100) rfl rfl iconst_0 ?_
      exact x_ireturn rfl rfl rfl (Nat.le_of_ble_eq_true rfl) (Nat.le_of_ble_eq_true rfl) (h)
    ·
      refine x_iload_n (pc' := 1) rfl rfl rfl ?_
      refine x_tableIn (tgt := 99) rfl (by decide) (by decide) rfl rfl ?_
      refine x_iconst (pc' := 100) rfl rfl iconst_0 ?_
      exact x_ireturn rfl rfl rfl (Nat.le_of_ble_eq_true rfl) (Nat.le_of_ble_eq_true rfl) (h)
    ·
      refine x_iload_n (pc' := 1) rfl rfl rfl ?_
      refine x_tableIn (tgt := 99) rfl (by decide) (by decide) rfl rfl ?_
      refine x_iconst (pc' := 100) rfl rfl iconst_0 ?_
      exact x_ireturn rfl rfl rfl (Nat.le_of_ble_eq_true rfl) (Nat.le_of_ble_eq_true rfl) (h)
    ·
      refine x_iload_n (pc' := 1) rfl rfl rfl ?_
      refine x_tableIn (tgt := 99) rfl (by decide) (by decide) rfl rfl ?_
      refine x_iconst (pc' := 100) rfl rfl iconst_0 ?_
      exact x_ireturn rfl rfl rfl (Nat.le_of_ble_eq_true rfl) (Nat.le_of_ble_eq_true rfl) (h)
    ·
      refine x_iload_n (pc' := 1) rfl rfl rfl ?_
      refine x_tableIn (tgt := 99) rfl (by decide) (by decide) rfl rfl ?_
      refine x_iconst (pc' := 100) rfl rfl iconst_0 ?_
      exact x_ireturn rfl rfl rfl (Nat.le_of_ble_eq_true rfl) (Nat.le_of_ble_eq_true rfl) (h)
    ·
      refine x_iload_n (pc' := 1) rfl rfl rfl ?_
      refine x_tableIn (tgt := 99) rfl (by decide) (by decide) rfl rfl ?_
      refine x_iconst (pc' := 100) rfl rfl iconst_0 ?_
      exact x_ireturn rfl rfl rfl (Nat.le_of_ble_eq_true rfl) (Nat.le_of_ble_eq_true rfl) (h)
    ·
      refine x_iload_n (pc' := 1) rfl rfl rfl ?_
      refine x_tableIn (tgt := 96) rfl (by decide) (by decide) rfl rfl ?_
      refine x_bipush (pc' := 98) rfl rfl bipush_9 ?_
      exact x_ireturn rfl rfl rfl (Nat.le_of_ble_eq_true rfl) (Nat.le_of_ble_eq_true rfl) (h)
    ·
      refine x_iload_n (pc' := 1) rfl rfl rfl ?_
      refine x_tableIn (tgt := 94) rfl (by decide) (by decide) rfl rfl ?_
      refine x_iconst (pc' := 95) rfl rfl iconst_1 ?_
      exact x_ireturn rfl rfl rfl (Nat.le_of_ble_eq_true rfl) (Nat.le_of_ble_eq_true rfl) (h)
  · have e : q_md c = 0 := by
      unfold q_md
      rw [if_neg (by omega), if_neg (by omega), if_neg (by omega)]
    rw [e] at h
    have hout : (q_cI c).toInt < 98 ∨ (116 : Int) < (q_cI c).toInt := by
      have e1 := (q_cI_lt (c := c) (k := 98) hc (by decide))
      have e2 := (q_cI_gt (c := c) (k := 116) hc (by decide))
      rw [Int32.lt_iff_toInt_lt] at e1 e2
      have e3 : (nI 98).toInt = 98 := by decide
      have e4 : (nI 116).toInt = 116 := by decide
      rw [e3] at e1
      rw [e4] at e2
      omega
    refine x_iload_n (pc' := 1) rfl rfl rfl ?_
    refine x_tableOut (tgt := 99) rfl (hout) rfl ?_
    refine x_iconst (pc' := 100) rfl rfl iconst_0 ?_
    exact x_ireturn rfl rfl rfl (Nat.le_of_ble_eq_true rfl) (Nat.le_of_ble_eq_true rfl) (h)
theorem l_kind {c : Nat} (hc : c ≤ 256) (h : post (some (.int (if q_kd c = 9 then -9 else nI (q_kd c)))) f) : Y E 1 mX2_kindFor [.int (q_cI c)] z f 0 0 post := by
  refine Y.intro gX2_kindFor (lv := [(0, .int (q_cI c))]) rfl (Nat.le_of_ble_eq_true rfl) ?_
  by_cases d : 100 ≤ c ∧ c ≤ 119
  · have d2 : c = 100 ∨ c = 101 ∨ c = 102 ∨ c = 103 ∨ c = 104 ∨ c = 105 ∨ c = 106 ∨ c = 107 ∨ c = 108 ∨ c = 109 ∨ c = 110 ∨ c = 111 ∨ c = 112 ∨ c = 113 ∨ c = 114 ∨ c = 115 ∨ c = 116 ∨ c = 117 ∨ c = 118 ∨ c = 119 := by omega
    rcases d2 with rfl | rfl | rfl | rfl | rfl | rfl | rfl | rfl | rfl | rfl | rfl | rfl | rfl | rfl | rfl | rfl | rfl | rfl | rfl | rfl
    ·
      refine x_iload_n (pc' := 1) rfl rfl rfl ?_
      refine x_tableIn (tgt := 100) rfl (by decide) (by decide) rfl rfl ?_
      refine x_iconst (pc' := 101) rfl rfl iconst_2 ?_
      exact x_ireturn rfl rfl rfl (Nat.le_of_ble_eq_true rfl) (Nat.le_of_ble_eq_true rfl) (h)
    ·
      refine x_iload_n (pc' := 1) rfl rfl rfl ?_
      refine x_tableIn (tgt := 108) rfl (by decide) (by decide) rfl rfl ?_
      refine x_bipush (pc' := 110) rfl rfl bipush_m9 ?_
      exact x_ireturn rfl rfl rfl (Nat.le_of_ble_eq_true rfl) (Nat.le_of_ble_eq_true rfl) (h)
    ·
      refine x_iload_n (pc' := 1) rfl rfl rfl ?_
      refine x_tableIn (tgt := 108) rfl (by decide) (by decide) rfl rfl ?_
      refine x_bipush (pc' := 110) rfl rfl bipush_m9 ?_
      exact x_ireturn rfl rfl rfl (Nat.le_of_ble_eq_true rfl) (Nat.le_of_ble_eq_true rfl) (h)
    ·
      refine x_iload_n (pc' := 1) rfl rfl rfl ?_
      refine x_tableIn (tgt := 108) rfl (by decide) (by decide) rfl rfl ?_
      refine x_bipush (pc' := 110) rfl rfl bipush_m9 ?_
      exact x_ireturn rfl rfl rfl (Nat.le_of_ble_eq_true rfl) (Nat.le_of_ble_eq_true rfl) (h)
    ·
      refine x_iload_n (pc' := 1) rfl rfl rfl ?_
      refine x_tableIn (tgt := 98) rfl (by decide) (by decide) rfl rfl ?_
      refine x_iconst (pc' := 99) rfl rfl iconst_1 ?_
      exact x_ireturn rfl rfl rfl (Nat.le_of_ble_eq_true rfl) (Nat.le_of_ble_eq_true rfl) (h)
    ·
      refine x_iload_n (pc' := 1) rfl rfl rfl ?_
      refine x_tableIn (tgt := 108) rfl (by decide) (by decide) rfl rfl ?_
      refine x_bipush (pc' := 110) rfl rfl bipush_m9 ?_
      exact x_ireturn rfl rfl rfl (Nat.le_of_ble_eq_true rfl) (Nat.le_of_ble_eq_true rfl) (h)
    ·
      refine x_iload_n (pc' := 1) rfl rfl rfl ?_
      refine x_tableIn (tgt := 108) rfl (by decide) (by decide) rfl rfl ?_
      refine x_bipush (pc' := 110) rfl rfl bipush_m9 ?_
      exact x_ireturn rfl rfl rfl (Nat.le_of_ble_eq_true rfl) (Nat.le_of_ble_eq_true rfl) (h)
    ·
      refine x_iload_n (pc' := 1) rfl rfl rfl ?_
      refine x_tableIn (tgt := 108) rfl (by decide) (by decide) rfl rfl ?_
      refine x_bipush (pc' := 110) rfl rfl bipush_m9 ?_
      exact x_ireturn rfl rfl rfl (Nat.le_of_ble_eq_true rfl) (Nat.le_of_ble_eq_true rfl) (h)
    ·
      refine x_iload_n (pc' := 1) rfl rfl rfl ?_
      refine x_tableIn (tgt := 108) rfl (by decide) (by decide) rfl rfl ?_
      refine x_bipush (pc' := 110) rfl rfl bipush_m9 ?_
      exact x_ireturn rfl rfl rfl (Nat.le_of_ble_eq_true rfl) (Nat.le_of_ble_eq_true rfl) (h)
    ·
      refine x_iload_n (pc' := 1) rfl rfl rfl ?_
      refine x_tableIn (tgt := 108) rfl (by decide) (by decide) rfl rfl ?_
      refine x_bipush (pc' := 110) rfl rfl bipush_m9 ?_
      exact x_ireturn rfl rfl rfl (Nat.le_of_ble_eq_true rfl) (Nat.le_of_ble_eq_true rfl) (h)
    ·
      refine x_iload_n (pc' := 1) rfl rfl rfl ?_
      refine x_tableIn (tgt := 104) rfl (by decide) (by decide) rfl rfl ?_
      refine x_iconst (pc' := 105) rfl rfl iconst_4 ?_
      exact x_ireturn rfl rfl rfl (Nat.le_of_ble_eq_true rfl) (Nat.le_of_ble_eq_true rfl) (h)
    ·
      refine x_iload_n (pc' := 1) rfl rfl rfl ?_
      refine x_tableIn (tgt := 96) rfl (by decide) (by decide) rfl rfl ?_
      refine x_iconst (pc' := 97) rfl rfl iconst_0 ?_
      exact x_ireturn rfl rfl rfl (Nat.le_of_ble_eq_true rfl) (Nat.le_of_ble_eq_true rfl) (h)
    ·
      refine x_iload_n (pc' := 1) rfl rfl rfl ?_
      refine x_tableIn (tgt := 108) rfl (by decide) (by decide) rfl rfl ?_
      refine x_bipush (pc' := 110) rfl rfl bipush_m9 ?_
      exact x_ireturn rfl rfl rfl (Nat.le_of_ble_eq_true rfl) (Nat.le_of_ble_eq_true rfl) (h)
    ·
      refine x_iload_n (pc' := 1) rfl rfl rfl ?_
      refine x_tableIn (tgt := 106) rfl (by decide) (by decide) rfl rfl ?_
      refine x_iconst (pc' := 107) rfl rfl iconst_5 ?_
      exact x_ireturn rfl rfl rfl (Nat.le_of_ble_eq_true rfl) (Nat.le_of_ble_eq_true rfl) (h)
    ·
      refine x_iload_n (pc' := 1) rfl rfl rfl ?_
      refine x_tableIn (tgt := 108) rfl (by decide) (by decide) rfl rfl ?_
      refine x_bipush (pc' := 110) rfl rfl bipush_m9 ?_
      exact x_ireturn rfl rfl rfl (Nat.le_of_ble_eq_true rfl) (Nat.le_of_ble_eq_true rfl) (h)
    ·
      refine x_iload_n (pc' := 1) rfl rfl rfl ?_
      refine x_tableIn (tgt := 108) rfl (by decide) (by decide) rfl rfl ?_
      refine x_bipush (pc' := 110) rfl rfl bipush_m9 ?_
      exact x_ireturn rfl rfl rfl (Nat.le_of_ble_eq_true rfl) (Nat.le_of_ble_eq_true rfl) (h)
    ·
      refine x_iload_n (pc' := 1) rfl rfl rfl ?_
      refine x_tableIn (tgt := 108) rfl (by decide) (by decide) rfl rfl ?_
      refine x_bipush (pc' := 110) rfl rfl bipush_m9 ?_
      exact x_ireturn rfl rfl rfl (Nat.le_of_ble_eq_true rfl) (Nat.le_of_ble_eq_true rfl) (h)
    ·
      refine x_iload_n (pc' := 1) rfl rfl rfl ?_
      refine x_tableIn (tgt := 108) rfl (by decide) (by decide) rfl rfl ?_
      refine x_bipush (pc' := 110) rfl rfl bipush_m9 ?_
      exact x_ireturn rfl rfl rfl (Nat.le_of_ble_eq_true rfl) (Nat.le_of_ble_eq_true rfl) (h)
    ·
      refine x_iload_n (pc' := 1) rfl rfl rfl ?_
      refine x_tableIn (tgt := 108) rfl (by decide) (by decide) rfl rfl ?_
      refine x_bipush (pc' := 110) rfl rfl bipush_m9 ?_
      exact x_ireturn rfl rfl rfl (Nat.le_of_ble_eq_true rfl) (Nat.le_of_ble_eq_true rfl) (h)
    ·
      refine x_iload_n (pc' := 1) rfl rfl rfl ?_
      refine x_tableIn (tgt := 102) rfl (by decide) (by decide) rfl rfl ?_
      refine x_iconst (pc' := 103) rfl rfl iconst_3 ?_
      exact x_ireturn rfl rfl rfl (Nat.le_of_ble_eq_true rfl) (Nat.le_of_ble_eq_true rfl) (h)
  · have e : q_kd c = 9 := by
      unfold q_kd
      rw [if_neg (by omega), if_neg (by omega), if_neg (by omega), if_neg (by omega), if_neg (by omega), if_neg (by omega)]
    rw [if_pos e] at h
    have hout : (q_cI c).toInt < 100 ∨ (119 : Int) < (q_cI c).toInt := by
      have e1 := (q_cI_lt (c := c) (k := 100) hc (by decide))
      have e2 := (q_cI_gt (c := c) (k := 119) hc (by decide))
      rw [Int32.lt_iff_toInt_lt] at e1 e2
      have e3 : (nI 100).toInt = 100 := by decide
      have e4 : (nI 119).toInt = 119 := by decide
      rw [e3] at e1
      rw [e4] at e2
      omega
    refine x_iload_n (pc' := 1) rfl rfl rfl ?_
    refine x_tableOut (tgt := 108) rfl (hout) rfl ?_
    refine x_bipush (pc' := 110) rfl rfl bipush_m9 ?_
    exact x_ireturn rfl rfl rfl (Nat.le_of_ble_eq_true rfl) (Nat.le_of_ble_eq_true rfl) (h)
theorem l_least {c : Nat} (hc : c ≤ 256) (h : post (some (.int (nI (q_ld c)))) f) : Y E 2 mX2_leastDigits [.int (q_cI c)] z f 0 0 post := by
  refine Y.intro gX2_leastDigits (lv := [(0, .int (q_cI c))]) rfl (Nat.le_of_ble_eq_true rfl) ?_
  by_cases d : c = 115
  · subst d
    refine x_iload_n (pc' := 1) rfl rfl rfl ?_
    refine x_bipush (pc' := 3) rfl rfl bipush_115 ?_
    refine x_icmp_ne (tgt := 10) (pc' := 6) rfl rfl rfl (fun c3 => absurd ((by decide)) c3) (fun _ => ?_)
    refine x_iconst (pc' := 7) rfl rfl iconst_1 ?_
    refine x_goto (tgt := 14) rfl rfl ?_
    exact x_ireturn rfl rfl rfl (Nat.le_of_ble_eq_true rfl) (Nat.le_of_ble_eq_true rfl) (h)
  · rw [show q_ld c = q_md c from if_neg d] at h
    refine x_iload_n (pc' := 1) rfl rfl rfl ?_
    refine x_bipush (pc' := 3) rfl rfl bipush_115 ?_
    refine x_icmp_ne (tgt := 10) (pc' := 6) rfl rfl rfl (fun _ => ?_) (fun c3 => absurd c3 ((fun q => d ((q_cI_eq (k := 115) hc (by decide)).mp q))))
    refine x_iload_n (pc' := 11) rfl rfl rfl ?_
    refine x_cS1i (d := 1) (pc' := 14) rfl rfl sX2_37 gX2_mostDigits ⟨Nat.le_of_ble_eq_true rfl, Nat.le_of_ble_eq_true rfl⟩ (Nat.le_of_ble_eq_true rfl) ⟨Nat.le_of_ble_eq_true rfl, Nat.le_of_ble_eq_true rfl⟩ ?_
    refine l_most hc ⟨_, rfl, ?_⟩
    exact x_ireturn rfl rfl rfl (Nat.le_of_ble_eq_true rfl) (Nat.le_of_ble_eq_true rfl) (h)
theorem l_digit {p : Nat} (hS : x_Sys z f S) (hL : q_L S L ℓ) (hp : p < 2 ^ 31) (h : post (some (.int (if q_dg (q_t L ℓ p) then nI (q_t L ℓ p - 48) else -9))) f) : Y E 2 mX2_digitAt [.ref 17, .int (nI p)] z f 0 0 post := by
  refine Y.intro gX2_digitAt (lv := [(0, .ref 17), (1, .int (nI p))]) rfl (Nat.le_of_ble_eq_true rfl) ?_
  have hc := q_t_le (L := L) hL.2.2.2 p
  refine x_aload_n (pc' := 1) rfl rfl rfl ?_
  refine x_iload_n (pc' := 2) rfl rfl rfl ?_
  refine x_cV1i (d := 1) (pc' := 5) rfl rfl sX2_34 gX2_letterAt (hS.lt) ⟨Nat.le_of_ble_eq_true rfl, Nat.le_of_ble_eq_true rfl⟩ (Nat.le_of_ble_eq_true rfl) ⟨Nat.le_of_ble_eq_true rfl, Nat.le_of_ble_eq_true rfl⟩ ?_
  refine l_at hS hL hp ⟨_, rfl, ?_⟩
  generalize q_t L ℓ p = c at *
  refine x_istore_n (pc' := 6) (lv' := [(2, _), (0, _), (1, _)]) rfl rfl (Nat.le_of_ble_eq_true rfl) rfl ?_
  refine x_iload_n (pc' := 7) rfl rfl rfl ?_
  refine x_bipush (pc' := 9) rfl rfl bipush_48 ?_
  by_cases d1 : 48 ≤ c ∧ ¬ c = 256
  · refine x_icmp_lt (tgt := 25) (pc' := 12) rfl rfl rfl (fun q => absurd ((q_cI_lt (k := 48) hc (by decide)).mp q) (by omega)) (fun _ => ?_)
    refine x_iload_n (pc' := 13) rfl rfl rfl ?_
    refine x_bipush (pc' := 15) rfl rfl bipush_57 ?_
    by_cases d2 : c ≤ 57
    · rw [if_pos ⟨d1.1, d2⟩] at h
      refine x_icmp_gt (tgt := 25) (pc' := 18) rfl rfl rfl (fun q => absurd ((q_cI_gt (k := 57) hc (by decide)).mp q) (by omega)) (fun _ => ?_)
      refine x_iload_n (pc' := 19) rfl rfl rfl ?_
      refine x_bipush (pc' := 21) rfl rfl bipush_48 ?_
      refine x_isub (pc' := 22) rfl rfl ?_
      refine x_eqi (show q_cI c - 48 = nI (c - 48) from by rw [q_cI_ne d1.2]; exact pk_sub (a := c) (b := 48) d1.1) ?_
      refine x_goto (tgt := 27) rfl rfl ?_
      exact x_ireturn rfl rfl rfl (Nat.le_of_ble_eq_true rfl) (Nat.le_of_ble_eq_true rfl) (h)
    · rw [if_neg (fun q => d2 q.2)] at h
      refine x_icmp_gt (tgt := 25) (pc' := 18) rfl rfl rfl (fun _ => ?_) (fun q => absurd ((q_cI_gt (k := 57) hc (by decide)).mpr ⟨d1.2, by omega⟩) q)
      refine x_bipush (pc' := 27) rfl rfl bipush_m9 ?_
      exact x_ireturn rfl rfl rfl (Nat.le_of_ble_eq_true rfl) (Nat.le_of_ble_eq_true rfl) (h)
  · rw [if_neg (fun q => d1 ⟨q.1, by have := q.2; omega⟩)] at h
    refine x_icmp_lt (tgt := 25) (pc' := 12) rfl rfl rfl (fun _ => ?_) (fun q => absurd ((q_cI_lt (k := 48) hc (by decide)).mpr (by omega)) q)
    refine x_bipush (pc' := 27) rfl rfl bipush_m9 ?_
    exact x_ireturn rfl rfl rfl (Nat.le_of_ble_eq_true rfl) (Nat.le_of_ble_eq_true rfl) (h)
theorem l_digsL {p m : Nat} (hS : x_Sys z f S) (hL : q_L S L ℓ) (hp : p < 2 ^ 20) (hm : m ≤ 9) (h : post (some (.int (nI (q_df (q_t L ℓ) m p)))) f) : ∀ (k i : Nat), i + k = m → i + q_df (q_t L ℓ) k (p + i) = q_df (q_t L ℓ) m p → X E (x_rm 3 0 0) mX2_digitsFrom (x_QM E z 0 0 post) 2 [(3, .int (nI i)), (0, .ref 17), (1, .int (nI p)), (2, .int (nI m))] [] z f 0 0 := by
  intro k
  induction k with
  | zero =>
    intro i hi he
    have hi2 : i = m := by omega
    subst hi2
    rw [← he] at h
    refine x_iload_n (pc' := 3) rfl rfl rfl ?_
    refine x_iload_n (pc' := 4) rfl rfl rfl ?_
    refine x_icmp_ge (tgt := 25) (pc' := 7) rfl rfl rfl (fun _ => ?_) (fun c4 => absurd ((Int32.le_refl _)) c4)
    refine x_iload_n (pc' := 26) rfl rfl rfl ?_
    exact x_ireturn rfl rfl rfl (Nat.le_of_ble_eq_true rfl) (Nat.le_of_ble_eq_true rfl) (h)
  | succ k ih =>
    intro i hi he
    replace he : i + (if q_dg (q_t L ℓ (p + i)) then q_df (q_t L ℓ) k (p + i + 1) + 1 else 0) = q_df (q_t L ℓ) m p := he
    refine x_iload_n (pc' := 3) rfl rfl rfl ?_
    refine x_iload_n (pc' := 4) rfl rfl rfl ?_
    refine x_icmp_ge (tgt := 25) (pc' := 7) rfl rfl rfl (fun c4 => absurd c4 ((nI_ge (by omega) (by omega)))) (fun _ => ?_)
    refine x_aload_n (pc' := 8) rfl rfl rfl ?_
    refine x_iload_n (pc' := 9) rfl rfl rfl ?_
    refine x_iload_n (pc' := 10) rfl rfl rfl ?_
    refine x_iadd (pc' := 11) rfl rfl ?_
    refine x_eqi (nI_add _ _) ?_
    refine x_cV1i (d := 2) (pc' := 14) rfl rfl sX2_50 gX2_digitAt (hS.lt) ⟨Nat.le_of_ble_eq_true rfl, Nat.le_of_ble_eq_true rfl⟩ (Nat.le_of_ble_eq_true rfl) ⟨Nat.le_of_ble_eq_true rfl, Nat.le_of_ble_eq_true rfl⟩ ?_
    refine l_digit hS hL (by omega) ⟨_, rfl, ?_⟩
    refine x_bipush (pc' := 16) rfl rfl bipush_m9 ?_
    by_cases d : q_dg (q_t L ℓ (p + i))
    · rw [if_pos d] at he
      rw [if_pos d]
      have d1 := d.1
      have d2 := d.2
      refine x_icmp_eq (tgt := 25) (pc' := 19) rfl rfl rfl (fun q => ?_) (fun _ => ?_)
      · exfalso
        have h2 := nI_pos (n := q_t L ℓ (p + i) - 48) (by omega)
        rw [q] at h2
        exact h2 (by decide)
      · refine x_iinc (pc' := 22) (lv' := [(3, _), (0, _), (1, _), (2, _)]) rfl rfl (Nat.le_of_ble_eq_true rfl) rfl (nI_1 i) rfl ?_
        refine x_goto (tgt := 2) rfl rfl ?_
        refine ih (i + 1) (by omega) ?_
        rw [show p + (i + 1) = p + i + 1 by omega]
        omega
    · rw [if_neg d] at he
      rw [if_neg d]
      rw [← he] at h
      refine x_icmp_eq (tgt := 25) (pc' := 19) rfl rfl rfl (fun _ => ?_) (fun q => absurd rfl q)
      refine x_iload_n (pc' := 26) rfl rfl rfl ?_
      exact x_ireturn rfl rfl rfl (Nat.le_of_ble_eq_true rfl) (Nat.le_of_ble_eq_true rfl) (h)
theorem l_digs {p m : Nat} (hS : x_Sys z f S) (hL : q_L S L ℓ) (hp : p < 2 ^ 20) (hm : m ≤ 9) (h : post (some (.int (nI (q_df (q_t L ℓ) m p)))) f) : Y E 3 mX2_digitsFrom [.ref 17, .int (nI p), .int (nI m)] z f 0 0 post := by
  refine Y.intro gX2_digitsFrom (lv := [(0, .ref 17), (1, .int (nI p)), (2, .int (nI m))]) rfl (Nat.le_of_ble_eq_true rfl) ?_
  refine x_iconst (pc' := 1) rfl rfl iconst_0 ?_
  refine x_istore_n (pc' := 2) (lv' := [(3, _), (0, _), (1, _), (2, _)]) rfl rfl (Nat.le_of_ble_eq_true rfl) rfl ?_
  exact l_digsL hS hL hp hm h m 0 (by omega) (by rw [Nat.zero_add]; rfl)
/-- a place, or none -/
def q_oI (o : Option Nat) : Int32 := match o with
  | none => -9
  | some p => nI p
theorem l_stuckIn {s : Nat} (hS : x_Sys z f S) (hL : q_L S L ℓ) (hs : s < 2 ^ 19) (h : post (some (.int (q_oI (q_sk (q_t L ℓ) s)))) f) : Y E 4 mX2_stuckIn [.ref 17, .int (nI s)] z f 0 0 post := by
  refine Y.intro gX2_stuckIn (lv := [(0, .ref 17), (1, .int (nI s))]) rfl (Nat.le_of_ble_eq_true rfl) ?_
  have hc := q_t_le (L := L) hL.2.2.2
  have hm9 := q_md_9 (q_t L ℓ s)
  have hdl := q_df_le (q_t L ℓ) (q_md (q_t L ℓ s)) (q_p0 (q_t L ℓ) s)
  have hdef : q_sk (q_t L ℓ) s = if q_md (q_t L ℓ s) = 0 then some s else if q_t L ℓ s = 98 ∧ q_kd (q_t L ℓ (s + 1)) = 9 then some (s + 1) else if q_dn (q_t L ℓ) s < q_ld (q_t L ℓ s) ∨ ¬ q_t L ℓ (q_ed (q_t L ℓ) s) = 59 then some (q_ed (q_t L ℓ) s) else none := rfl
  rw [hdef] at h
  have hld : q_ld (q_t L ℓ s) ≤ 9 := by
    unfold q_ld
    split <;> omega
  refine x_aload_n (pc' := 1) rfl rfl rfl ?_
  refine x_iload_n (pc' := 2) rfl rfl rfl ?_
  refine x_cV1i (d := 1) (pc' := 5) rfl rfl sX2_34 gX2_letterAt (hS.lt) ⟨Nat.le_of_ble_eq_true rfl, Nat.le_of_ble_eq_true rfl⟩ (Nat.le_of_ble_eq_true rfl) ⟨Nat.le_of_ble_eq_true rfl, Nat.le_of_ble_eq_true rfl⟩ ?_
  refine l_at hS hL (by omega) ⟨_, rfl, ?_⟩
  refine x_istore_n (pc' := 6) (lv' := [(2, _), (0, _), (1, _)]) rfl rfl (Nat.le_of_ble_eq_true rfl) rfl ?_
  refine x_iload_n (pc' := 7) rfl rfl rfl ?_
  refine x_cS1i (d := 1) (pc' := 10) rfl rfl sX2_37 gX2_mostDigits ⟨Nat.le_of_ble_eq_true rfl, Nat.le_of_ble_eq_true rfl⟩ (Nat.le_of_ble_eq_true rfl) ⟨Nat.le_of_ble_eq_true rfl, Nat.le_of_ble_eq_true rfl⟩ ?_
  refine l_most (hc s) ⟨_, rfl, ?_⟩
  by_cases d0 : q_md (q_t L ℓ s) = 0
  · rw [if_pos d0] at h
    refine x_if_ne (tgt := 15) (pc' := 13) rfl rfl rfl (fun q => absurd (show nI (q_md (q_t L ℓ s)) = 0 by rw [d0]; rfl) q) (fun _ => ?_)
    refine x_iload_n (pc' := 14) rfl rfl rfl ?_
    exact x_ireturn rfl rfl rfl (Nat.le_of_ble_eq_true rfl) (Nat.le_of_ble_eq_true rfl) (h)
  · rw [if_neg d0] at h
    refine x_if_ne (tgt := 15) (pc' := 13) rfl rfl rfl (fun _ => ?_) (fun q => absurd q (nI_ne0 (by omega) (by omega)))
    refine x_iload_n (pc' := 16) rfl rfl rfl ?_
    refine x_iconst (pc' := 17) rfl rfl iconst_1 ?_
    refine x_iadd (pc' := 18) rfl rfl ?_
    refine x_eqi (nI_1 _) ?_
    refine x_istore_n (pc' := 19) (lv' := [(3, _), (2, _), (0, _), (1, _)]) rfl rfl (Nat.le_of_ble_eq_true rfl) rfl ?_
    refine x_iload_n (pc' := 20) rfl rfl rfl ?_
    refine x_bipush (pc' := 22) rfl rfl bipush_98 ?_
    by_cases d1 : q_t L ℓ s = 98
    · have hp0 : q_p0 (q_t L ℓ) s = s + 2 := if_pos d1
      refine x_icmp_ne (tgt := 43) (pc' := 25) rfl rfl rfl (fun q => absurd ((q_cI_eq (k := 98) (hc s) (by decide)).mpr d1) q) (fun _ => ?_)
      refine x_aload_n (pc' := 26) rfl rfl rfl ?_
      refine x_iload_n (pc' := 27) rfl rfl rfl ?_
      refine x_cV1i (d := 1) (pc' := 30) rfl rfl sX2_34 gX2_letterAt (hS.lt) ⟨Nat.le_of_ble_eq_true rfl, Nat.le_of_ble_eq_true rfl⟩ (Nat.le_of_ble_eq_true rfl) ⟨Nat.le_of_ble_eq_true rfl, Nat.le_of_ble_eq_true rfl⟩ ?_
      refine l_at hS hL (by omega) ⟨_, rfl, ?_⟩
      refine x_cS1i (d := 1) (pc' := 33) rfl rfl sX2_40 gX2_kindFor ⟨Nat.le_of_ble_eq_true rfl, Nat.le_of_ble_eq_true rfl⟩ (Nat.le_of_ble_eq_true rfl) ⟨Nat.le_of_ble_eq_true rfl, Nat.le_of_ble_eq_true rfl⟩ ?_
      refine l_kind (hc (s + 1)) ⟨_, rfl, ?_⟩
      refine x_bipush (pc' := 35) rfl rfl bipush_m9 ?_
      by_cases d2 : q_kd (q_t L ℓ (s + 1)) = 9
      · rw [if_pos ⟨d1, d2⟩] at h
        rw [if_pos d2]
        refine x_icmp_ne (tgt := 40) (pc' := 38) rfl rfl rfl (fun q => absurd rfl q) (fun _ => ?_)
        refine x_iload_n (pc' := 39) rfl rfl rfl ?_
        exact x_ireturn rfl rfl rfl (Nat.le_of_ble_eq_true rfl) (Nat.le_of_ble_eq_true rfl) (h)
      · rw [if_neg (fun q => d2 q.2)] at h
        rw [if_neg d2]
        have hk5 := (q_kd_in d2).2.2.2
        refine x_icmp_ne (tgt := 40) (pc' := 38) rfl rfl rfl (fun _ => ?_) (fun q => ?_)
        · refine x_iinc (pc' := 43) (lv' := [(3, _), (2, _), (0, _), (1, _)]) rfl rfl (Nat.le_of_ble_eq_true rfl) rfl (nI_1 _) rfl ?_
          refine x_aload_n (pc' := 44) rfl rfl rfl ?_
          refine x_iload_n (pc' := 45) rfl rfl rfl ?_
          refine x_iload_n (pc' := 46) rfl rfl rfl ?_
          refine x_cS1i (d := 1) (pc' := 49) rfl rfl sX2_37 gX2_mostDigits ⟨Nat.le_of_ble_eq_true rfl, Nat.le_of_ble_eq_true rfl⟩ (Nat.le_of_ble_eq_true rfl) ⟨Nat.le_of_ble_eq_true rfl, Nat.le_of_ble_eq_true rfl⟩ ?_
          refine l_most (hc s) ⟨_, rfl, ?_⟩
          refine x_cV2i (d := 3) (pc' := 52) rfl rfl sX2_43 gX2_digitsFrom (hS.lt) ⟨Nat.le_of_ble_eq_true rfl, Nat.le_of_ble_eq_true rfl⟩ (Nat.le_of_ble_eq_true rfl) ⟨Nat.le_of_ble_eq_true rfl, Nat.le_of_ble_eq_true rfl⟩ ?_
          refine l_digs hS hL (by omega) hm9 ⟨_, rfl, ?_⟩
          have hdn : q_df (q_t L ℓ) (q_md (q_t L ℓ s)) (s + 1 + 1) = q_dn (q_t L ℓ) s := by unfold q_dn; rw [hp0]
          rw [hdn]
          have hed : s + 1 + 1 + q_dn (q_t L ℓ) s = q_ed (q_t L ℓ) s := by unfold q_ed; rw [hp0]
          refine x_istore (pc' := 54) (lv' := [(4, _), (3, _), (2, _), (0, _), (1, _)]) rfl rfl (Nat.le_of_ble_eq_true rfl) rfl ?_
          refine x_iload_n (pc' := 55) rfl rfl rfl ?_
          refine x_iload (pc' := 57) rfl rfl rfl ?_
          refine x_iadd (pc' := 58) rfl rfl ?_
          refine x_eqi (nI_add _ _) ?_
          rw [hed]
          have hdn9 : q_dn (q_t L ℓ) s ≤ q_md (q_t L ℓ s) := hdl
          have hel : q_ed (q_t L ℓ) s < 2 ^ 20 := by omega
          refine x_istore_n (pc' := 59) (lv' := [(3, _), (4, _), (2, _), (0, _), (1, _)]) rfl rfl (Nat.le_of_ble_eq_true rfl) rfl ?_
          refine x_iload (pc' := 61) rfl rfl rfl ?_
          refine x_iload_n (pc' := 62) rfl rfl rfl ?_
          refine x_cS1i (d := 2) (pc' := 65) rfl rfl sX2_47 gX2_leastDigits ⟨Nat.le_of_ble_eq_true rfl, Nat.le_of_ble_eq_true rfl⟩ (Nat.le_of_ble_eq_true rfl) ⟨Nat.le_of_ble_eq_true rfl, Nat.le_of_ble_eq_true rfl⟩ ?_
          refine l_least (hc s) ⟨_, rfl, ?_⟩
          by_cases d3 : q_dn (q_t L ℓ) s < q_ld (q_t L ℓ s)
          · rw [if_pos (Or.inl d3)] at h
            refine x_icmp_lt (tgt := 78) (pc' := 68) rfl rfl rfl (fun _ => ?_) (fun q => absurd (nI_lt d3 (by omega)) q)
            refine x_iload_n (pc' := 79) rfl rfl rfl ?_
            refine x_goto (tgt := 84) rfl rfl ?_
            exact x_ireturn rfl rfl rfl (Nat.le_of_ble_eq_true rfl) (Nat.le_of_ble_eq_true rfl) (h)
          · refine x_icmp_lt (tgt := 78) (pc' := 68) rfl rfl rfl (fun q => absurd q (nI_nlt (by omega) (by omega))) (fun _ => ?_)
            refine x_aload_n (pc' := 69) rfl rfl rfl ?_
            refine x_iload_n (pc' := 70) rfl rfl rfl ?_
            refine x_cV1i (d := 1) (pc' := 73) rfl rfl sX2_34 gX2_letterAt (hS.lt) ⟨Nat.le_of_ble_eq_true rfl, Nat.le_of_ble_eq_true rfl⟩ (Nat.le_of_ble_eq_true rfl) ⟨Nat.le_of_ble_eq_true rfl, Nat.le_of_ble_eq_true rfl⟩ ?_
            refine l_at hS hL (by omega) ⟨_, rfl, ?_⟩
            refine x_bipush (pc' := 75) rfl rfl bipush_59 ?_
            by_cases d4 : q_t L ℓ (q_ed (q_t L ℓ) s) = 59
            · rw [if_neg (fun q => q.elim d3 (fun k => k d4))] at h
              refine x_icmp_eq (tgt := 82) (pc' := 78) rfl rfl rfl (fun _ => ?_) (fun q => absurd ((q_cI_eq (k := 59) (hc _) (by decide)).mpr d4) q)
              refine x_bipush (pc' := 84) rfl rfl bipush_m9 ?_
              exact x_ireturn rfl rfl rfl (Nat.le_of_ble_eq_true rfl) (Nat.le_of_ble_eq_true rfl) (h)
            · rw [if_pos (Or.inr d4)] at h
              refine x_icmp_eq (tgt := 82) (pc' := 78) rfl rfl rfl (fun q => absurd ((q_cI_eq (k := 59) (hc _) (by decide)).mp q) d4) (fun _ => ?_)
              refine x_iload_n (pc' := 79) rfl rfl rfl ?_
              refine x_goto (tgt := 84) rfl rfl ?_
              exact x_ireturn rfl rfl rfl (Nat.le_of_ble_eq_true rfl) (Nat.le_of_ble_eq_true rfl) (h)
        · exfalso
          have h2 := nI_pos (n := q_kd (q_t L ℓ (s + 1))) (by omega)
          rw [q] at h2
          exact h2 (by decide)
    · have hp0 : q_p0 (q_t L ℓ) s = s + 1 := if_neg d1
      rw [if_neg (fun q => d1 q.1)] at h
      refine x_icmp_ne (tgt := 43) (pc' := 25) rfl rfl rfl (fun _ => ?_) (fun q => absurd ((q_cI_eq (k := 98) (hc s) (by decide)).mp q) d1)
      refine x_aload_n (pc' := 44) rfl rfl rfl ?_
      refine x_iload_n (pc' := 45) rfl rfl rfl ?_
      refine x_iload_n (pc' := 46) rfl rfl rfl ?_
      refine x_cS1i (d := 1) (pc' := 49) rfl rfl sX2_37 gX2_mostDigits ⟨Nat.le_of_ble_eq_true rfl, Nat.le_of_ble_eq_true rfl⟩ (Nat.le_of_ble_eq_true rfl) ⟨Nat.le_of_ble_eq_true rfl, Nat.le_of_ble_eq_true rfl⟩ ?_
      refine l_most (hc s) ⟨_, rfl, ?_⟩
      refine x_cV2i (d := 3) (pc' := 52) rfl rfl sX2_43 gX2_digitsFrom (hS.lt) ⟨Nat.le_of_ble_eq_true rfl, Nat.le_of_ble_eq_true rfl⟩ (Nat.le_of_ble_eq_true rfl) ⟨Nat.le_of_ble_eq_true rfl, Nat.le_of_ble_eq_true rfl⟩ ?_
      refine l_digs hS hL (by omega) hm9 ⟨_, rfl, ?_⟩
      have hdn : q_df (q_t L ℓ) (q_md (q_t L ℓ s)) (s + 1) = q_dn (q_t L ℓ) s := by unfold q_dn; rw [hp0]
      rw [hdn]
      have hed : s + 1 + q_dn (q_t L ℓ) s = q_ed (q_t L ℓ) s := by unfold q_ed; rw [hp0]
      refine x_istore (pc' := 54) (lv' := [(4, _), (3, _), (2, _), (0, _), (1, _)]) rfl rfl (Nat.le_of_ble_eq_true rfl) rfl ?_
      refine x_iload_n (pc' := 55) rfl rfl rfl ?_
      refine x_iload (pc' := 57) rfl rfl rfl ?_
      refine x_iadd (pc' := 58) rfl rfl ?_
      refine x_eqi (nI_add _ _) ?_
      rw [hed]
      have hdn9 : q_dn (q_t L ℓ) s ≤ q_md (q_t L ℓ s) := hdl
      have hel : q_ed (q_t L ℓ) s < 2 ^ 20 := by omega
      refine x_istore_n (pc' := 59) (lv' := [(3, _), (4, _), (2, _), (0, _), (1, _)]) rfl rfl (Nat.le_of_ble_eq_true rfl) rfl ?_
      refine x_iload (pc' := 61) rfl rfl rfl ?_
      refine x_iload_n (pc' := 62) rfl rfl rfl ?_
      refine x_cS1i (d := 2) (pc' := 65) rfl rfl sX2_47 gX2_leastDigits ⟨Nat.le_of_ble_eq_true rfl, Nat.le_of_ble_eq_true rfl⟩ (Nat.le_of_ble_eq_true rfl) ⟨Nat.le_of_ble_eq_true rfl, Nat.le_of_ble_eq_true rfl⟩ ?_
      refine l_least (hc s) ⟨_, rfl, ?_⟩
      by_cases d3 : q_dn (q_t L ℓ) s < q_ld (q_t L ℓ s)
      · rw [if_pos (Or.inl d3)] at h
        refine x_icmp_lt (tgt := 78) (pc' := 68) rfl rfl rfl (fun _ => ?_) (fun q => absurd (nI_lt d3 (by omega)) q)
        refine x_iload_n (pc' := 79) rfl rfl rfl ?_
        refine x_goto (tgt := 84) rfl rfl ?_
        exact x_ireturn rfl rfl rfl (Nat.le_of_ble_eq_true rfl) (Nat.le_of_ble_eq_true rfl) (h)
      · refine x_icmp_lt (tgt := 78) (pc' := 68) rfl rfl rfl (fun q => absurd q (nI_nlt (by omega) (by omega))) (fun _ => ?_)
        refine x_aload_n (pc' := 69) rfl rfl rfl ?_
        refine x_iload_n (pc' := 70) rfl rfl rfl ?_
        refine x_cV1i (d := 1) (pc' := 73) rfl rfl sX2_34 gX2_letterAt (hS.lt) ⟨Nat.le_of_ble_eq_true rfl, Nat.le_of_ble_eq_true rfl⟩ (Nat.le_of_ble_eq_true rfl) ⟨Nat.le_of_ble_eq_true rfl, Nat.le_of_ble_eq_true rfl⟩ ?_
        refine l_at hS hL (by omega) ⟨_, rfl, ?_⟩
        refine x_bipush (pc' := 75) rfl rfl bipush_59 ?_
        by_cases d4 : q_t L ℓ (q_ed (q_t L ℓ) s) = 59
        · rw [if_neg (fun q => q.elim d3 (fun k => k d4))] at h
          refine x_icmp_eq (tgt := 82) (pc' := 78) rfl rfl rfl (fun _ => ?_) (fun q => absurd ((q_cI_eq (k := 59) (hc _) (by decide)).mpr d4) q)
          refine x_bipush (pc' := 84) rfl rfl bipush_m9 ?_
          exact x_ireturn rfl rfl rfl (Nat.le_of_ble_eq_true rfl) (Nat.le_of_ble_eq_true rfl) (h)
        · rw [if_pos (Or.inr d4)] at h
          refine x_icmp_eq (tgt := 82) (pc' := 78) rfl rfl rfl (fun q => absurd ((q_cI_eq (k := 59) (hc _) (by decide)).mp q) d4) (fun _ => ?_)
          refine x_iload_n (pc' := 79) rfl rfl rfl ?_
          refine x_goto (tgt := 84) rfl rfl ?_
          exact x_ireturn rfl rfl rfl (Nat.le_of_ble_eq_true rfl) (Nat.le_of_ble_eq_true rfl) (h)
theorem l_behL {s e : Nat} (hS : x_Sys z f S) (hL : q_L S L ℓ) (he : e < L) (h59 : q_t L ℓ e = 59) (hno : ∀ j, s ≤ j → j < e → ¬ q_t L ℓ j = 59) (h : post (some (.int (nI (e + 1)))) f) : ∀ (k i : Nat), i + k = e → s ≤ i → X E (x_rm 2 0 0) mX2_behindStatement (x_QM E z 0 0 post) 2 [(2, .int (nI i)), (0, .ref 17), (1, .int (nI s))] [] z f 0 0 := by
  have hc := q_t_le (L := L) hL.2.2.2
  have l2 := hL.2.1
  intro k
  induction k with
  | zero =>
    intro i hi hsi
    have hi2 : i = e := by omega
    subst hi2
    refine x_iload_n (pc' := 3) rfl rfl rfl ?_
    refine x_aload_n (pc' := 4) rfl rfl rfl ?_
    refine x_get (pc' := 7) rfl rfl rfl (hS.lt) rfl ?_
    refine x_eqi hL.1 ?_
    refine x_icmp_ge (tgt := 26) (pc' := 10) rfl rfl rfl (fun c7 => absurd c7 ((nI_ge he (by omega)))) (fun _ => ?_)
    refine x_aload_n (pc' := 11) rfl rfl rfl ?_
    refine x_iload_n (pc' := 12) rfl rfl rfl ?_
    refine x_cV1i (d := 1) (pc' := 15) rfl rfl sX2_34 gX2_letterAt (hS.lt) ⟨Nat.le_of_ble_eq_true rfl, Nat.le_of_ble_eq_true rfl⟩ (Nat.le_of_ble_eq_true rfl) ⟨Nat.le_of_ble_eq_true rfl, Nat.le_of_ble_eq_true rfl⟩ ?_
    refine l_at hS hL (by omega) ⟨_, rfl, ?_⟩
    refine x_bipush (pc' := 17) rfl rfl bipush_59 ?_
    refine x_icmp_eq (tgt := 26) (pc' := 20) rfl rfl rfl (fun _ => ?_) (fun c17 => absurd (((q_cI_eq (k := 59) (hc _) (by decide)).mpr h59)) c17)
    refine x_iload_n (pc' := 27) rfl rfl rfl ?_
    refine x_iconst (pc' := 28) rfl rfl iconst_1 ?_
    refine x_iadd (pc' := 29) rfl rfl ?_
    refine x_eqi (nI_1 _) ?_
    exact x_ireturn rfl rfl rfl (Nat.le_of_ble_eq_true rfl) (Nat.le_of_ble_eq_true rfl) (h)
  | succ k ih =>
    intro i hi hsi
    refine x_iload_n (pc' := 3) rfl rfl rfl ?_
    refine x_aload_n (pc' := 4) rfl rfl rfl ?_
    refine x_get (pc' := 7) rfl rfl rfl (hS.lt) rfl ?_
    refine x_eqi hL.1 ?_
    refine x_icmp_ge (tgt := 26) (pc' := 10) rfl rfl rfl (fun c7 => absurd c7 ((nI_ge (by omega) (by omega)))) (fun _ => ?_)
    refine x_aload_n (pc' := 11) rfl rfl rfl ?_
    refine x_iload_n (pc' := 12) rfl rfl rfl ?_
    refine x_cV1i (d := 1) (pc' := 15) rfl rfl sX2_34 gX2_letterAt (hS.lt) ⟨Nat.le_of_ble_eq_true rfl, Nat.le_of_ble_eq_true rfl⟩ (Nat.le_of_ble_eq_true rfl) ⟨Nat.le_of_ble_eq_true rfl, Nat.le_of_ble_eq_true rfl⟩ ?_
    refine l_at hS hL (by omega) ⟨_, rfl, ?_⟩
    refine x_bipush (pc' := 17) rfl rfl bipush_59 ?_
    refine x_icmp_eq (tgt := 26) (pc' := 20) rfl rfl rfl (fun c17 => absurd c17 ((fun q => hno i hsi (by omega) ((q_cI_eq (k := 59) (hc _) (by decide)).mp q)))) (fun _ => ?_)
    refine x_iinc (pc' := 23) (lv' := [(2, _), (0, _), (1, _)]) rfl rfl (Nat.le_of_ble_eq_true rfl) rfl (nI_1 i) rfl ?_
    refine x_goto (tgt := 2) rfl rfl ?_
    exact ih (i + 1) (by omega) (by omega)
theorem l_beh {s : Nat} (hS : x_Sys z f S) (hL : q_L S L ℓ) (hsk : q_sk (q_t L ℓ) s = none) (h : post (some (.int (nI (q_ed (q_t L ℓ) s + 1)))) f) : Y E 2 mX2_behindStatement [.ref 17, .int (nI s)] z f 0 0 post := by
  refine Y.intro gX2_behindStatement (lv := [(0, .ref 17), (1, .int (nI s))]) rfl (Nat.le_of_ble_eq_true rfl) ?_
  have h59 := (q_sk_no hsk).2.2.2
  have hgt := q_ed_gt (t := q_t L ℓ) (s := s)
  have he : q_ed (q_t L ℓ) s < L := by
    rcases Nat.lt_or_ge (q_ed (q_t L ℓ) s) L with q | q
    · exact q
    · rw [(q_t_256 hL.2.2.2).mpr q] at h59
      omega
  refine x_iload_n (pc' := 1) rfl rfl rfl ?_
  refine x_istore_n (pc' := 2) (lv' := [(2, _), (0, _), (1, _)]) rfl rfl (Nat.le_of_ble_eq_true rfl) rfl ?_
  refine x_lvp [0, 1, 2] rfl ?_
  exact l_behL hS hL he h59 (q_sk_59 hsk) h (q_ed (q_t L ℓ) s - s) s (by omega) (Nat.le_refl _)
end LT
end
section
-- == 61.gameC
/-! The class plays a game told in letters. -/
theorem g_add_ok {g : q_G} {k v : Nat} (h : g_ok 99 g) (hn : g_n g < 9) (hk : k ≤ 5) (hv : v ≤ 20) : g_ok 99 (g_add g k v) := by
  obtain ⟨a1, a2, a3, a4, a5, a6, a7, a8, a9⟩ := h
  refine ⟨hn, a2, a3, a4, q_up_le a5 hk, q_up_le a6 (by omega), a7, fun i hi => ⟨?_, ?_⟩, a9⟩
  · show q_up (g_κ g) (g_n g) k i = 0
    rw [q_up_n _ _ (by omega)]
    exact (a8 i hi).1
  · show q_up (g_β g) (g_n g) v i = 0
    rw [q_up_n _ _ (by omega)]
    exact (a8 i hi).2
theorem g_sw_ok {C : Nat} {g : q_G} {v w : Nat} (h : g_ok C g) (hv : v < g_n g) (hw : w < g_n g) : g_ok C (g_sw g v w) := by
  obtain ⟨a1, a2, a3, a4, a5, a6, a7, a8, a9⟩ := h
  refine ⟨a1, a2, a3, a4, a5, q_up_le (q_up_le a6 (a6 w)) (a6 v), a7, fun i hi => ⟨(a8 i hi).1, ?_⟩, a9⟩
  show q_up (q_up (g_β g) v (g_β g w)) w (g_β g v) i = 0
  rw [q_up_n _ _ (by omega), q_up_n _ _ (by omega)]
  exact (a8 i hi).2
theorem q_ms2_ok {t : Nat → Nat} : ∀ (k p : Nat) (G G' : q_G × Nat), g_ok 99 G.1 → G.2 ≤ 999 → q_ms2 t k p G = some G' → g_ok 99 G'.1 ∧ G'.2 ≤ 999
  | 0, p, G, G', h, hm, e => by
    have e2 : G = G' := Option.some.inj e
    subst e2
    exact ⟨h, hm⟩
  | k + 1, p, G, G', h, hm, e => by
    unfold q_ms2 at e
    split at e
    · rename_i hc
      exact q_ms2_ok k (p + 1) _ G' (g_mv_ok h (by decide) (by decide) hc.1.2.1) (by show G.2 + 1 ≤ 999; have := hc.2; omega) e
    · cases e
theorem q_do_ok {t : Nat → Nat} {s : Nat} {G G' : q_G × Nat} (hsk : q_sk t s = none) (h : g_ok 99 G.1) (hm : G.2 ≤ 999) (e : q_do t s G = some G') : g_ok 99 G'.1 ∧ G'.2 ≤ 999 := by
  obtain ⟨s1, s2, s3, s4⟩ := q_sk_no hsk
  have hdg := q_sk_dg hsk
  obtain ⟨n1, n2, n3, n4⟩ := q_dn_is hsk
  have hin := q_md_in s1
  obtain ⟨a1, a2, a3, a4, a5, a6, a7, a8, a9⟩ := id h
  unfold q_do at e
  split at e
  · rename_i c1
    split at e
    · cases e
    · rename_i c2
      have e2 := Option.some.inj e
      subst e2
      exact ⟨g_add_ok h (by omega) (q_kd_in (s2 c1)).2.2.2 (by omega), hm⟩
  · rename_i c1
    split at e
    · exact q_ms2_ok _ _ _ _ h hm e
    · rename_i c2
      have hp0 : q_p0 t s = s + 1 := if_neg c1
      have hd1 : q_dg (t (s + 1)) := hdg (s + 1) (by omega) (by unfold q_ed; have : 1 ≤ q_dn t s := by omega
                                                                omega)
      have hd1a := hd1.1
      have hd1b := hd1.2
      split at e
      · split at e
        · rename_i c4
          have e2 := Option.some.inj e
          subst e2
          exact ⟨g_sw_ok h c4.1 c4.2.1, hm⟩
        · cases e
      · split at e
        · split at e
          · cases e
          · rename_i c5
            have e2 := Option.some.inj e
            subst e2
            refine ⟨⟨a1, ⟨?_, ?_⟩, a3, a4, a5, a6, a7, a8, a9⟩, hm⟩
            · show 1 ≤ t (s + 1) - 48
              omega
            · show t (s + 1) - 48 ≤ 9
              omega
        · split at e
          · split at e
            · cases e
            · rename_i c6
              have e2 := Option.some.inj e
              subst e2
              exact ⟨⟨a1, a2, by show t (s + 1) - 48 ≤ 1; omega, a4, a5, a6, a7, a8, a9⟩, hm⟩
          · split at e
            · cases e
            · rename_i c6
              have e2 := Option.some.inj e
              subst e2
              exact ⟨⟨a1, a2, a3, by show t (s + 1) - 48 ≤ 1; omega, a5, a6, a7, a8, a9⟩, hm⟩
theorem q_sk_le {t : Nat → Nat} {s p : Nat} (h : q_sk t s = some p) : p ≤ s + 11 := by
  have h9 : q_dn t s ≤ 9 := Nat.le_trans (q_df_le t (q_md (t s)) (q_p0 t s)) (q_md_9 (t s))
  have h3 : q_ed t s ≤ s + 11 := by
    unfold q_ed q_p0
    split <;> omega
  unfold q_sk at h
  split at h
  · have := Option.some.inj h
    omega
  · split at h
    · have := Option.some.inj h
      omega
    · split at h
      · have := Option.some.inj h
        omega
      · cases h
theorem q_ed_lt {L : Nat} {ℓ : Nat → Nat} {s : Nat} (h255 : ∀ i, ℓ i ≤ 255) (hsk : q_sk (q_t L ℓ) s = none) : q_ed (q_t L ℓ) s < L := by
  have h59 := (q_sk_no hsk).2.2.2
  rcases Nat.lt_or_ge (q_ed (q_t L ℓ) s) L with q | q
  · exact q
  · rw [(q_t_256 h255).mpr q] at h59
    omega
theorem q_fa_le {L : Nat} {ℓ : Nat → Nat} (h255 : ∀ i, ℓ i ≤ 255) : ∀ (k s p : Nat), q_fa (q_t L ℓ) L k s = some p → p ≤ L + 11
  | 0, s, p, h => by cases h
  | k + 1, s, p, h => by
    unfold q_fa at h
    split at h
    · split at h
      · rename_i q hq
        have h2 := Option.some.inj h
        subst h2
        have := q_sk_le hq
        omega
      · exact q_fa_le h255 k _ p h
    · cases h
/-- the whole fault of form -/
def q_ff (L : Nat) (ℓ : Nat → Nat) : Option Nat := if L = 0 then some 0 else q_fa (q_t L ℓ) L L 0
theorem q_ff_le {L : Nat} {ℓ : Nat → Nat} (h255 : ∀ i, ℓ i ≤ 255) {p : Nat} (h : q_ff L ℓ = some p) : p ≤ L + 11 := by
  unfold q_ff at h
  split at h
  · have := Option.some.inj h
    omega
  · exact q_fa_le h255 L 0 p h
theorem q_rn_le {t : Nat → Nat} {L : Nat} : ∀ (k s p : Nat) (G : q_G × Nat), q_rn t L k s G = .inl p → p ≤ L
  | 0, s, p, G, h => by cases h
  | k + 1, s, p, G, h => by
    unfold q_rn at h
    split at h
    · split at h
      · have h2 := Sum.inl.inj h
        omega
      · exact q_rn_le k _ p _ h
    · cases h
def s_game (A : q_A) : q_A × Int32 := match q_ff (a_lc A) (a_lf A) with
  | some p => ((A.1, A.2.1, (0, a_lf A), A.2.2.2), -1000 - nI p)
  | none => match q_rn (q_t (a_lc A) (a_lf A)) (a_lc A) (a_lc A) 0 A.1 with
    | .inl s => ((A.1, A.2.1, (0, a_lf A), A.2.2.2), -2000 - nI s)
    | .inr G => ((G, A.2.1, (0, a_lf A), A.2.2.2), nI (q_ct (q_t (a_lc A) (a_lf A)) (a_lc A) (a_lc A) 0))
theorem q_neg1 : ∀ p, p < 200 → (-1000 - nI p : Int32) < 0 := by decide +kernel
theorem q_neg2 : ∀ p, p < 200 → (-2000 - nI p : Int32) < 0 := by decide +kernel
theorem q_ct_le {t : Nat → Nat} {L : Nat} : ∀ (k s : Nat), q_ct t L k s ≤ k
  | 0, s => Nat.le_refl _
  | k + 1, s => by
    unfold q_ct
    split
    · exact Nat.succ_le_succ (q_ct_le k _)
    · exact Nat.zero_le _
section GC
variable {E : x_E} {z : Nat} {f : x_H} {S : x_S} {M : x_N} {A : q_A} {post : Option Value → x_H → Prop} {L : Nat} {ℓ : Nat → Nat} {t : Nat} {T : x_T} {g : q_G} {m : Nat}
theorem w_addB {n : Nat} {k v : Int32} (hT : x_t z f t T) (hn : T.2.2.2 0 = nI n) (hn9 : n ≤ 9) (h1 : n < 9 → ∀ f' : x_H, x_t z f' t (upd T.1 n k, upd T.2.1 n v, T.2.2.1, upd T.2.2.2 0 (nI (n + 1))) → x_fr (x_ot t) f f' → post (some (.int 1)) f') (h0 : n = 9 → post (some (.int 0)) f) : Y E 1 mX3_addBowl [.ref t, .int k, .int v] z f 0 0 post := by
  refine Y.intro gX3_addBowl (lv := [(0, .ref t), (1, .int k), (2, .int v)]) rfl (Nat.le_of_ble_eq_true rfl) ?_
  have hcl : (nI n).toNatClampNeg = n := nI_clamp (by omega)
  refine x_aload_n (pc' := 1) rfl rfl rfl ?_
  refine x_get (pc' := 4) rfl rfl rfl (hT.1) rfl ?_
  refine x_eqi hn ?_
  refine x_if_lt (tgt := 16) (pc' := 7) rfl rfl rfl (fun c4 => absurd c4 (nI_pos (by omega))) (fun _ => ?_)
  refine x_aload_n (pc' := 8) rfl rfl rfl ?_
  refine x_get (pc' := 11) rfl rfl rfl (hT.1) rfl ?_
  refine x_eqi hn ?_
  refine x_bipush (pc' := 13) rfl rfl bipush_9 ?_
  by_cases d : n < 9
  · refine x_icmp_lt (tgt := 18) (pc' := 16) rfl rfl rfl (fun _ => ?_) (fun q => absurd (nI_lt (a := n) (b := 9) d (by decide)) q)
    refine x_aload_n (pc' := 19) rfl rfl rfl ?_
    refine x_get (pc' := 22) rfl rfl rfl (hT.1) rfl ?_
    refine x_aload_n (pc' := 23) rfl rfl rfl ?_
    refine x_get (pc' := 26) rfl rfl rfl (hT.1) rfl ?_
    refine x_eqi hn ?_
    refine x_iload_n (pc' := 27) rfl rfl rfl ?_
    refine x_iastore (pc' := 28) rfl rfl (hT.2.1) (vp_in_nI (n := n) (N := 9) d (by decide)) (fun f1 e1 => ?_)
    have hT1 := hT.kind e1
    have hF1 := (x_fr.rf (P := x_ot t)).up e1 (x_ot_in (by omega) (by omega))
    rw [hcl] at hT1
    refine x_aload_n (pc' := 29) rfl rfl rfl ?_
    refine x_get (pc' := 32) rfl rfl rfl (hT1.1) rfl ?_
    refine x_aload_n (pc' := 33) rfl rfl rfl ?_
    refine x_get (pc' := 36) rfl rfl rfl (hT1.1) rfl ?_
    refine x_eqi hn ?_
    refine x_iload_n (pc' := 37) rfl rfl rfl ?_
    refine x_iastore (pc' := 38) rfl rfl (hT1.2.2.1) (vp_in_nI (n := n) (N := 9) d (by decide)) (fun f2 e2 => ?_)
    have hT2 := hT1.bean e2
    have hF2 := hF1.up e2 (x_ot_in (by omega) (by omega))
    rw [hcl] at hT2
    refine x_aload_n (pc' := 39) rfl rfl rfl ?_
    refine x_dup (pc' := 40) rfl rfl rfl ?_
    refine x_get (pc' := 43) rfl rfl rfl (hT2.1) rfl ?_
    refine x_eqi hn ?_
    refine x_iconst (pc' := 44) rfl rfl iconst_1 ?_
    refine x_iadd (pc' := 45) rfl rfl ?_
    refine x_eqi (nI_1 _) ?_
    refine x_put (pc' := 48) rfl rfl rfl (hT2.1) (Nat.le_of_ble_eq_true rfl) rfl rfl rfl rfl (fun f3 e3 => ?_)
    have hT3 := hT2.num 0 e3 (x_tFs0 _ _ _)
    have hF3 := hF2.up e3 (x_ot_in (by omega) (by omega))
    refine x_iconst (pc' := 49) rfl rfl iconst_1 ?_
    exact x_ireturn rfl rfl rfl (Nat.le_of_ble_eq_true rfl) (Nat.le_of_ble_eq_true rfl) (h1 d _ hT3 hF3)
  · refine x_icmp_lt (tgt := 18) (pc' := 16) rfl rfl rfl (fun q => absurd q (nI_nlt (b := 9) (by omega) (by omega))) (fun _ => ?_)
    refine x_iconst (pc' := 17) rfl rfl iconst_0 ?_
    exact x_ireturn rfl rfl rfl (Nat.le_of_ble_eq_true rfl) (Nat.le_of_ble_eq_true rfl) (h0 (by omega))
theorem w_swap {n v w : Nat} (hT : x_t z f t T) (hn : T.2.2.2 0 = nI n) (hn9 : n ≤ 9) (hv : v < 2 ^ 31) (hw : w < 2 ^ 31) (h : ∀ (f' : x_H) (T' : x_T), x_t z f' t T' → (T'.2.2.2 = T.2.2.2 ∧ (v < n → w < n → T' = (T.1, upd (upd T.2.1 v (T.2.1 w)) w (T.2.1 v), T.2.2.1, T.2.2.2))) → x_fr (x_ot t) f f' → post none f') : Y E 3 mX3_swapBeans [.ref t, .int (nI v), .int (nI w)] z f 0 0 post := by
  refine Y.intro gX3_swapBeans (lv := [(0, .ref t), (1, .int (nI v)), (2, .int (nI w))]) rfl (Nat.le_of_ble_eq_true rfl) ?_
  have hcv : (nI v).toNatClampNeg = v := nI_clamp hv
  have hcw : (nI w).toNatClampNeg = w := nI_clamp hw
  by_cases d1 : v < n
  · have h1 := t_has_nI (T := T) hn hn9 d1
    by_cases d2 : w < n
    · have h2 := t_has_nI (T := T) hn hn9 d2
      refine x_aload_n (pc' := 1) rfl rfl rfl ?_
      refine x_iload_n (pc' := 2) rfl rfl rfl ?_
      refine x_cV1i (d := 2) (pc' := 5) rfl rfl sX3_59 gX3_beansOf (hT.1) ⟨Nat.le_of_ble_eq_true rfl, Nat.le_of_ble_eq_true rfl⟩ (Nat.le_of_ble_eq_true rfl) ⟨Nat.le_of_ble_eq_true rfl, Nat.le_of_ble_eq_true rfl⟩ ?_
      refine w_beansOf hT (fun _ => ⟨_, rfl, ?_⟩) (fun q => absurd h1 q)
      rw [hcv]
      refine x_istore_n (pc' := 6) (lv' := [(3, _), (0, _), (1, _), (2, _)]) rfl rfl (Nat.le_of_ble_eq_true rfl) rfl ?_
      refine x_aload_n (pc' := 7) rfl rfl rfl ?_
      refine x_iload_n (pc' := 8) rfl rfl rfl ?_
      refine x_aload_n (pc' := 9) rfl rfl rfl ?_
      refine x_iload_n (pc' := 10) rfl rfl rfl ?_
      refine x_cV1i (d := 2) (pc' := 13) rfl rfl sX3_59 gX3_beansOf (hT.1) ⟨Nat.le_of_ble_eq_true rfl, Nat.le_of_ble_eq_true rfl⟩ (Nat.le_of_ble_eq_true rfl) ⟨Nat.le_of_ble_eq_true rfl, Nat.le_of_ble_eq_true rfl⟩ ?_
      refine w_beansOf hT (fun _ => ⟨_, rfl, ?_⟩) (fun q => absurd h2 q)
      rw [hcw]
      refine x_cV2v (d := 2) (pc' := 16) rfl rfl sX3_63 gX3_lay (hT.1) ⟨Nat.le_of_ble_eq_true rfl, Nat.le_of_ble_eq_true rfl⟩ (Nat.le_of_ble_eq_true rfl) ⟨Nat.le_of_ble_eq_true rfl, Nat.le_of_ble_eq_true rfl⟩ ?_
      refine w_lay hT (fun _ f1 hT1 hF1 => ⟨rfl, ?_⟩) (fun q => absurd h1 q)
      rw [hcv] at hT1
      refine x_aload_n (pc' := 17) rfl rfl rfl ?_
      refine x_iload_n (pc' := 18) rfl rfl rfl ?_
      refine x_iload_n (pc' := 19) rfl rfl rfl ?_
      refine x_cV2v (d := 2) (pc' := 22) rfl rfl sX3_63 gX3_lay (hT1.1) ⟨Nat.le_of_ble_eq_true rfl, Nat.le_of_ble_eq_true rfl⟩ (Nat.le_of_ble_eq_true rfl) ⟨Nat.le_of_ble_eq_true rfl, Nat.le_of_ble_eq_true rfl⟩ ?_
      refine w_lay hT1 (fun _ f2 hT2 hF2 => ⟨rfl, ?_⟩) (fun q => absurd (show t_has (T.1, upd T.2.1 v (T.2.1 w), T.2.2.1, T.2.2.2) (nI w) from h2) q)
      rw [hcw] at hT2
      exact x_return rfl rfl (Nat.le_of_ble_eq_true rfl) (Nat.le_of_ble_eq_true rfl) (h _ _ hT2 ⟨rfl, fun _ _ => rfl⟩ (hF1.trans hF2))
    · have h2 : ¬ t_has T (nI w) := fun q => d2 (by have h9 := q.2.1; rw [hn] at h9; exact (nI_ltI hw (by omega)).mp h9)
      refine x_aload_n (pc' := 1) rfl rfl rfl ?_
      refine x_iload_n (pc' := 2) rfl rfl rfl ?_
      refine x_cV1i (d := 2) (pc' := 5) rfl rfl sX3_59 gX3_beansOf (hT.1) ⟨Nat.le_of_ble_eq_true rfl, Nat.le_of_ble_eq_true rfl⟩ (Nat.le_of_ble_eq_true rfl) ⟨Nat.le_of_ble_eq_true rfl, Nat.le_of_ble_eq_true rfl⟩ ?_
      refine w_beansOf hT (fun _ => ⟨_, rfl, ?_⟩) (fun q => absurd h1 q)
      refine x_istore_n (pc' := 6) (lv' := [(3, _), (0, _), (1, _), (2, _)]) rfl rfl (Nat.le_of_ble_eq_true rfl) rfl ?_
      refine x_aload_n (pc' := 7) rfl rfl rfl ?_
      refine x_iload_n (pc' := 8) rfl rfl rfl ?_
      refine x_aload_n (pc' := 9) rfl rfl rfl ?_
      refine x_iload_n (pc' := 10) rfl rfl rfl ?_
      refine x_cV1i (d := 2) (pc' := 13) rfl rfl sX3_59 gX3_beansOf (hT.1) ⟨Nat.le_of_ble_eq_true rfl, Nat.le_of_ble_eq_true rfl⟩ (Nat.le_of_ble_eq_true rfl) ⟨Nat.le_of_ble_eq_true rfl, Nat.le_of_ble_eq_true rfl⟩ ?_
      refine w_beansOf hT (fun q => absurd q h2) (fun _ => ⟨_, rfl, ?_⟩)
      refine x_cV2v (d := 2) (pc' := 16) rfl rfl sX3_63 gX3_lay (hT.1) ⟨Nat.le_of_ble_eq_true rfl, Nat.le_of_ble_eq_true rfl⟩ (Nat.le_of_ble_eq_true rfl) ⟨Nat.le_of_ble_eq_true rfl, Nat.le_of_ble_eq_true rfl⟩ ?_
      refine w_lay hT (fun _ f1 hT1 hF1 => ⟨rfl, ?_⟩) (fun q => absurd h1 q)
      refine x_aload_n (pc' := 17) rfl rfl rfl ?_
      refine x_iload_n (pc' := 18) rfl rfl rfl ?_
      refine x_iload_n (pc' := 19) rfl rfl rfl ?_
      refine x_cV2v (d := 2) (pc' := 22) rfl rfl sX3_63 gX3_lay (hT1.1) ⟨Nat.le_of_ble_eq_true rfl, Nat.le_of_ble_eq_true rfl⟩ (Nat.le_of_ble_eq_true rfl) ⟨Nat.le_of_ble_eq_true rfl, Nat.le_of_ble_eq_true rfl⟩ ?_
      refine w_lay hT1 (fun q => absurd q h2) (fun _ => ⟨rfl, ?_⟩)
      exact x_return rfl rfl (Nat.le_of_ble_eq_true rfl) (Nat.le_of_ble_eq_true rfl) (h _ _ hT1 ⟨rfl, fun _ q => absurd q d2⟩ hF1)
  · have h1 : ¬ t_has T (nI v) := fun q => d1 (by have h9 := q.2.1; rw [hn] at h9; exact (nI_ltI hv (by omega)).mp h9)
    by_cases d2 : w < n
    · have h2 := t_has_nI (T := T) hn hn9 d2
      refine x_aload_n (pc' := 1) rfl rfl rfl ?_
      refine x_iload_n (pc' := 2) rfl rfl rfl ?_
      refine x_cV1i (d := 2) (pc' := 5) rfl rfl sX3_59 gX3_beansOf (hT.1) ⟨Nat.le_of_ble_eq_true rfl, Nat.le_of_ble_eq_true rfl⟩ (Nat.le_of_ble_eq_true rfl) ⟨Nat.le_of_ble_eq_true rfl, Nat.le_of_ble_eq_true rfl⟩ ?_
      refine w_beansOf hT (fun q => absurd q h1) (fun _ => ⟨_, rfl, ?_⟩)
      refine x_istore_n (pc' := 6) (lv' := [(3, _), (0, _), (1, _), (2, _)]) rfl rfl (Nat.le_of_ble_eq_true rfl) rfl ?_
      refine x_aload_n (pc' := 7) rfl rfl rfl ?_
      refine x_iload_n (pc' := 8) rfl rfl rfl ?_
      refine x_aload_n (pc' := 9) rfl rfl rfl ?_
      refine x_iload_n (pc' := 10) rfl rfl rfl ?_
      refine x_cV1i (d := 2) (pc' := 13) rfl rfl sX3_59 gX3_beansOf (hT.1) ⟨Nat.le_of_ble_eq_true rfl, Nat.le_of_ble_eq_true rfl⟩ (Nat.le_of_ble_eq_true rfl) ⟨Nat.le_of_ble_eq_true rfl, Nat.le_of_ble_eq_true rfl⟩ ?_
      refine w_beansOf hT (fun _ => ⟨_, rfl, ?_⟩) (fun q => absurd h2 q)
      refine x_cV2v (d := 2) (pc' := 16) rfl rfl sX3_63 gX3_lay (hT.1) ⟨Nat.le_of_ble_eq_true rfl, Nat.le_of_ble_eq_true rfl⟩ (Nat.le_of_ble_eq_true rfl) ⟨Nat.le_of_ble_eq_true rfl, Nat.le_of_ble_eq_true rfl⟩ ?_
      refine w_lay hT (fun q => absurd q h1) (fun _ => ⟨rfl, ?_⟩)
      refine x_aload_n (pc' := 17) rfl rfl rfl ?_
      refine x_iload_n (pc' := 18) rfl rfl rfl ?_
      refine x_iload_n (pc' := 19) rfl rfl rfl ?_
      refine x_cV2v (d := 2) (pc' := 22) rfl rfl sX3_63 gX3_lay (hT.1) ⟨Nat.le_of_ble_eq_true rfl, Nat.le_of_ble_eq_true rfl⟩ (Nat.le_of_ble_eq_true rfl) ⟨Nat.le_of_ble_eq_true rfl, Nat.le_of_ble_eq_true rfl⟩ ?_
      refine w_lay hT (fun _ f2 hT2 hF2 => ⟨rfl, ?_⟩) (fun q => absurd h2 q)
      exact x_return rfl rfl (Nat.le_of_ble_eq_true rfl) (Nat.le_of_ble_eq_true rfl) (h _ _ hT2 ⟨rfl, fun q _ => absurd q d1⟩ hF2)
    · have h2 : ¬ t_has T (nI w) := fun q => d2 (by have h9 := q.2.1; rw [hn] at h9; exact (nI_ltI hw (by omega)).mp h9)
      refine x_aload_n (pc' := 1) rfl rfl rfl ?_
      refine x_iload_n (pc' := 2) rfl rfl rfl ?_
      refine x_cV1i (d := 2) (pc' := 5) rfl rfl sX3_59 gX3_beansOf (hT.1) ⟨Nat.le_of_ble_eq_true rfl, Nat.le_of_ble_eq_true rfl⟩ (Nat.le_of_ble_eq_true rfl) ⟨Nat.le_of_ble_eq_true rfl, Nat.le_of_ble_eq_true rfl⟩ ?_
      refine w_beansOf hT (fun q => absurd q h1) (fun _ => ⟨_, rfl, ?_⟩)
      refine x_istore_n (pc' := 6) (lv' := [(3, _), (0, _), (1, _), (2, _)]) rfl rfl (Nat.le_of_ble_eq_true rfl) rfl ?_
      refine x_aload_n (pc' := 7) rfl rfl rfl ?_
      refine x_iload_n (pc' := 8) rfl rfl rfl ?_
      refine x_aload_n (pc' := 9) rfl rfl rfl ?_
      refine x_iload_n (pc' := 10) rfl rfl rfl ?_
      refine x_cV1i (d := 2) (pc' := 13) rfl rfl sX3_59 gX3_beansOf (hT.1) ⟨Nat.le_of_ble_eq_true rfl, Nat.le_of_ble_eq_true rfl⟩ (Nat.le_of_ble_eq_true rfl) ⟨Nat.le_of_ble_eq_true rfl, Nat.le_of_ble_eq_true rfl⟩ ?_
      refine w_beansOf hT (fun q => absurd q h2) (fun _ => ⟨_, rfl, ?_⟩)
      refine x_cV2v (d := 2) (pc' := 16) rfl rfl sX3_63 gX3_lay (hT.1) ⟨Nat.le_of_ble_eq_true rfl, Nat.le_of_ble_eq_true rfl⟩ (Nat.le_of_ble_eq_true rfl) ⟨Nat.le_of_ble_eq_true rfl, Nat.le_of_ble_eq_true rfl⟩ ?_
      refine w_lay hT (fun q => absurd q h1) (fun _ => ⟨rfl, ?_⟩)
      refine x_aload_n (pc' := 17) rfl rfl rfl ?_
      refine x_iload_n (pc' := 18) rfl rfl rfl ?_
      refine x_iload_n (pc' := 19) rfl rfl rfl ?_
      refine x_cV2v (d := 2) (pc' := 22) rfl rfl sX3_63 gX3_lay (hT.1) ⟨Nat.le_of_ble_eq_true rfl, Nat.le_of_ble_eq_true rfl⟩ (Nat.le_of_ble_eq_true rfl) ⟨Nat.le_of_ble_eq_true rfl, Nat.le_of_ble_eq_true rfl⟩ ?_
      refine w_lay hT (fun q => absurd q h2) (fun _ => ⟨rfl, ?_⟩)
      exact x_return rfl rfl (Nat.le_of_ble_eq_true rfl) (Nat.le_of_ble_eq_true rfl) (h _ _ hT ⟨rfl, fun q _ => absurd q d1⟩ x_fr.rf)
/-- the table that a game is tried on -/
def c_tb (z : Nat) (f : x_H) (S0 : x_S) (T : x_T) (G : q_G × Nat) : Prop := x_Sys z f (S0.1, x_ut S0.2.1 2 T, S0.2.2.1, S0.2.2.2) ∧ t_is T G.1 ∧ T.2.2.2 4 = nI G.2 ∧ g_ok 99 G.1 ∧ G.2 ≤ 999
theorem c_tb_t {S0 : x_S} {G : q_G × Nat} (h : c_tb z f S0 T G) : x_t z f 9 T := h.1.2.1 2 (by decide)
abbrev c_tx (z : Nat) (f : x_H) (S0 : x_S) (T : x_T) : Prop := x_Sys z f (S0.1, x_ut S0.2.1 2 T, S0.2.2.1, S0.2.2.2)
theorem l_addBowl {s : Nat} {S0 : x_S} {G : q_G × Nat} (hC : c_tb z f S0 T G) (hL : q_L S0 L ℓ) (hs : s < 2 ^ 19) (h98 : q_t L ℓ s = 98) (hsk : q_sk (q_t L ℓ) s = none) (h1 : ∀ G', q_do (q_t L ℓ) s G = some G' → ∀ (f' : x_H) (T' : x_T), c_tb z f' S0 T' G' → x_fr (fun q => 59 ≤ q) f f' → post (some (.int 1)) f') (h0 : q_do (q_t L ℓ) s G = none → post (some (.int 0)) f) : Y E 3 mX2_addBowl [.ref 17, .int (nI s), .ref 9] z f 0 0 post := by
  refine Y.intro gX2_addBowl (lv := [(0, .ref 17), (1, .int (nI s)), (2, .ref 9)]) rfl (Nat.le_of_ble_eq_true rfl) ?_
  obtain ⟨s1, s2, s3, s4⟩ := q_sk_no hsk
  have hdn := (q_dn_is hsk).1 h98
  have hp0 : q_p0 (q_t L ℓ) s = s + 2 := if_pos h98
  have hd2 := q_sk_dg hsk (s + 2) (by omega) (by unfold q_ed; omega)
  have hd3 := q_sk_dg hsk (s + 3) (by omega) (by unfold q_ed; omega)
  have hc := q_t_le (L := L) hL.2.2.2
  have hkd := (q_kd_in (s2 h98)).2.2.2
  have hdo : q_do (q_t L ℓ) s G = if 20 < 10 * (q_t L ℓ (s + 2) - 48) + (q_t L ℓ (s + 3) - 48) ∨ g_n G.1 = 9 then none else some (g_add G.1 (q_kd (q_t L ℓ (s + 1))) (10 * (q_t L ℓ (s + 2) - 48) + (q_t L ℓ (s + 3) - 48)), G.2) := by unfold q_do; rw [if_pos h98]
  rw [hdo] at h1 h0
  have hd2a := hd2.1
  have hd2b := hd2.2
  have hd3a := hd3.1
  have hd3b := hd3.2
  have hok := hC.2.2.2.1
  have hT := c_tb_t hC
  have hS : x_Sys z f (S0.1, x_ut S0.2.1 2 T, S0.2.2.1, S0.2.2.2) := hC.1
  refine x_bipush (pc' := 2) rfl rfl bipush_10 ?_
  refine x_aload_n (pc' := 3) rfl rfl rfl ?_
  refine x_iload_n (pc' := 4) rfl rfl rfl ?_
  refine x_iconst (pc' := 5) rfl rfl iconst_2 ?_
  refine x_iadd (pc' := 6) rfl rfl ?_
  refine x_eqi (show nI s + 2 = nI (s + 2) from nI_add s 2) ?_
  refine x_cV1i (d := 2) (pc' := 9) rfl rfl sX2_50 gX2_digitAt (hS.lt) ⟨Nat.le_of_ble_eq_true rfl, Nat.le_of_ble_eq_true rfl⟩ (Nat.le_of_ble_eq_true rfl) ⟨Nat.le_of_ble_eq_true rfl, Nat.le_of_ble_eq_true rfl⟩ ?_
  refine l_digit hS hL (by omega) ⟨_, rfl, ?_⟩
  rw [if_pos hd2]
  refine x_imul (pc' := 10) rfl rfl ?_
  refine x_eqi (show (10 : Int32) * nI (q_t L ℓ (s + 2) - 48) = nI (10 * (q_t L ℓ (s + 2) - 48)) from pk_mul 10 _) ?_
  refine x_aload_n (pc' := 11) rfl rfl rfl ?_
  refine x_iload_n (pc' := 12) rfl rfl rfl ?_
  refine x_iconst (pc' := 13) rfl rfl iconst_3 ?_
  refine x_iadd (pc' := 14) rfl rfl ?_
  refine x_eqi (show nI s + 3 = nI (s + 3) from nI_add s 3) ?_
  refine x_cV1i (d := 2) (pc' := 17) rfl rfl sX2_50 gX2_digitAt (hS.lt) ⟨Nat.le_of_ble_eq_true rfl, Nat.le_of_ble_eq_true rfl⟩ (Nat.le_of_ble_eq_true rfl) ⟨Nat.le_of_ble_eq_true rfl, Nat.le_of_ble_eq_true rfl⟩ ?_
  refine l_digit hS hL (by omega) ⟨_, rfl, ?_⟩
  rw [if_pos hd3]
  refine x_iadd (pc' := 18) rfl rfl ?_
  refine x_eqi (nI_add _ _) ?_
  refine x_istore_n (pc' := 19) (lv' := [(3, _), (0, _), (1, _), (2, _)]) rfl rfl (Nat.le_of_ble_eq_true rfl) rfl ?_
  refine x_iload_n (pc' := 20) rfl rfl rfl ?_
  refine x_bipush (pc' := 22) rfl rfl bipush_20 ?_
  by_cases d1 : 20 < 10 * (q_t L ℓ (s + 2) - 48) + (q_t L ℓ (s + 3) - 48)
  · rw [if_pos (Or.inl d1)] at h0
    refine x_icmp_gt (tgt := 47) (pc' := 25) rfl rfl rfl (fun _ => ?_) (fun q => absurd (nI_lt (a := 20) d1 (by omega)) q)
    refine x_iconst (pc' := 48) rfl rfl iconst_0 ?_
    exact x_ireturn rfl rfl rfl (Nat.le_of_ble_eq_true rfl) (Nat.le_of_ble_eq_true rfl) (h0 rfl)
  · refine x_icmp_gt (tgt := 47) (pc' := 25) rfl rfl rfl (fun q => absurd q (nI_nlt (a := 20) (by omega) (by omega))) (fun _ => ?_)
    refine x_aload_n (pc' := 26) rfl rfl rfl ?_
    refine x_aload_n (pc' := 27) rfl rfl rfl ?_
    refine x_iload_n (pc' := 28) rfl rfl rfl ?_
    refine x_iconst (pc' := 29) rfl rfl iconst_1 ?_
    refine x_iadd (pc' := 30) rfl rfl ?_
    refine x_eqi (nI_1 _) ?_
    refine x_cV1i (d := 1) (pc' := 33) rfl rfl sX2_34 gX2_letterAt (hS.lt) ⟨Nat.le_of_ble_eq_true rfl, Nat.le_of_ble_eq_true rfl⟩ (Nat.le_of_ble_eq_true rfl) ⟨Nat.le_of_ble_eq_true rfl, Nat.le_of_ble_eq_true rfl⟩ ?_
    refine l_at hS hL (by omega) ⟨_, rfl, ?_⟩
    refine x_cS1i (d := 1) (pc' := 36) rfl rfl sX2_40 gX2_kindFor ⟨Nat.le_of_ble_eq_true rfl, Nat.le_of_ble_eq_true rfl⟩ (Nat.le_of_ble_eq_true rfl) ⟨Nat.le_of_ble_eq_true rfl, Nat.le_of_ble_eq_true rfl⟩ ?_
    refine l_kind (hc (s + 1)) ⟨_, rfl, ?_⟩
    rw [if_neg (s2 h98)]
    refine x_iload_n (pc' := 37) rfl rfl rfl ?_
    refine x_cV2i (d := 1) (pc' := 40) rfl rfl sX2_78 gX3_addBowl (hT.1) ⟨Nat.le_of_ble_eq_true rfl, Nat.le_of_ble_eq_true rfl⟩ (Nat.le_of_ble_eq_true rfl) ⟨Nat.le_of_ble_eq_true rfl, Nat.le_of_ble_eq_true rfl⟩ ?_
    refine w_addB hT hC.2.1.2.2.2.1 hok.1 (fun d3 f1 hT1 hF1 => ⟨_, rfl, ?_⟩) (fun d3 => ⟨_, rfl, ?_⟩)
    · have hC1 : c_tb z f1 S0 (upd T.1 (g_n G.1) (nI (q_kd (q_t L ℓ (s + 1)))), upd T.2.1 (g_n G.1) (nI (10 * (q_t L ℓ (s + 2) - 48) + (q_t L ℓ (s + 3) - 48))), T.2.2.1, upd T.2.2.2 0 (nI (g_n G.1 + 1))) (g_add G.1 (q_kd (q_t L ℓ (s + 1))) (10 * (q_t L ℓ (s + 2) - 48) + (q_t L ℓ (s + 3) - 48)), G.2) := by
        refine ⟨hS.tt (j := 2) (by decide) hT1 hF1, ⟨?_, ?_, hC.2.1.2.2.1, rfl, hC.2.1.2.2.2.2.1, hC.2.1.2.2.2.2.2.1, hC.2.1.2.2.2.2.2.2⟩, hC.2.2.1, g_add_ok hok d3 hkd (by omega), hC.2.2.2.2⟩
        · show upd T.1 (g_n G.1) (nI (q_kd (q_t L ℓ (s + 1)))) = _
          rw [hC.2.1.1, q_up_I]
          rfl
        · show upd T.2.1 (g_n G.1) (nI (10 * (q_t L ℓ (s + 2) - 48) + (q_t L ℓ (s + 3) - 48))) = _
          rw [hC.2.1.2.1, q_up_I]
          rfl
      refine x_if_eq (tgt := 47) (pc' := 43) rfl rfl rfl (fun c40 => absurd c40 ((by decide))) (fun _ => ?_)
      refine x_iconst (pc' := 44) rfl rfl iconst_1 ?_
      refine x_goto (tgt := 48) rfl rfl ?_
      exact x_ireturn rfl rfl rfl (Nat.le_of_ble_eq_true rfl) (Nat.le_of_ble_eq_true rfl) (h1 _ (if_neg (fun q => q.elim d1 (by omega))) _ _ hC1 (c_fr0 (j := 2) (by decide) hF1))
    · rw [if_pos (Or.inr d3)] at h0
      refine x_if_eq (tgt := 47) (pc' := 43) rfl rfl rfl (fun _ => ?_) (fun c40 => absurd (rfl) c40)
      refine x_iconst (pc' := 48) rfl rfl iconst_0 ?_
      exact x_ireturn rfl rfl rfl (Nat.le_of_ble_eq_true rfl) (Nat.le_of_ble_eq_true rfl) (h0 rfl)
theorem l_mksL {s e : Nat} {S0 : x_S} (hL : q_L S0 L ℓ) (he : e < L) (h59 : q_t L ℓ e = 59) (hdg : ∀ j, s ≤ j → j < e → q_dg (q_t L ℓ j)) (f0 : x_H) (R : Option (q_G × Nat)) (k1 : ∀ G', R = some G' → ∀ (f' : x_H) (T' : x_T), c_tb z f' S0 T' G' → x_fr (fun q => 59 ≤ q) f0 f' → post (some (.int 1)) f') (k0 : R = none → ∀ (f' : x_H) (T' : x_T), c_tx z f' S0 T' → x_fr (fun q => 59 ≤ q) f0 f' → post (some (.int 0)) f') : ∀ (k i : Nat) (G : q_G × Nat) (f : x_H) (T : x_T), i + k = e → s ≤ i → q_ms2 (q_t L ℓ) k i G = R → c_tb z f S0 T G → x_fr (fun q => 59 ≤ q) f0 f → X E (x_rm 5 0 0) mX2_makeMoves (x_QM E z 0 0 post) 2 [(3, .int (nI i)), (0, .ref 17), (1, .int (nI s)), (2, .ref 9)] [] z f 0 0 := by
  have l2 := hL.2.1
  intro k
  induction k with
  | zero =>
    intro i G f T hi hsi hR hC hF
    have hi2 : i = e := by omega
    subst hi2
    have hR2 : some G = R := hR
    have hS : x_Sys z f (S0.1, x_ut S0.2.1 2 T, S0.2.2.1, S0.2.2.2) := hC.1
    refine x_iload_n (pc' := 3) rfl rfl rfl ?_
    refine x_aload_n (pc' := 4) rfl rfl rfl ?_
    refine x_get (pc' := 7) rfl rfl rfl (hS.lt) rfl ?_
    refine x_eqi hL.1 ?_
    refine x_icmp_ge (tgt := 59) (pc' := 10) rfl rfl rfl (fun c7 => absurd c7 ((nI_ge he (by omega)))) (fun _ => ?_)
    refine x_aload_n (pc' := 11) rfl rfl rfl ?_
    refine x_iload_n (pc' := 12) rfl rfl rfl ?_
    refine x_cV1i (d := 2) (pc' := 15) rfl rfl sX2_50 gX2_digitAt (hS.lt) ⟨Nat.le_of_ble_eq_true rfl, Nat.le_of_ble_eq_true rfl⟩ (Nat.le_of_ble_eq_true rfl) ⟨Nat.le_of_ble_eq_true rfl, Nat.le_of_ble_eq_true rfl⟩ ?_
    refine l_digit hS hL (by omega) ⟨_, rfl, ?_⟩
    rw [h59, if_neg (by decide)]
    refine x_bipush (pc' := 17) rfl rfl bipush_m9 ?_
    refine x_icmp_eq (tgt := 59) (pc' := 20) rfl rfl rfl (fun _ => ?_) (fun c17 => absurd (rfl) c17)
    refine x_iconst (pc' := 60) rfl rfl iconst_1 ?_
    exact x_ireturn rfl rfl rfl (Nat.le_of_ble_eq_true rfl) (Nat.le_of_ble_eq_true rfl) (k1 G hR2.symm _ _ hC hF)
  | succ k ih =>
    intro i G f T hi hsi hR hC hF
    have hd := hdg i hsi (by omega)
    have hda := hd.1
    have hdb := hd.2
    have hS : x_Sys z f (S0.1, x_ut S0.2.1 2 T, S0.2.2.1, S0.2.2.2) := hC.1
    have hT := c_tb_t hC
    have hok := hC.2.2.2.1
    have hm := hC.2.2.2.2
    replace hR : (if g_can G.1 (q_t L ℓ i - 48) ∧ ¬ G.2 = 999 then q_ms2 (q_t L ℓ) k (i + 1) (g_mv G.1 (q_t L ℓ i - 48), G.2 + 1) else none) = R := hR
    refine x_iload_n (pc' := 3) rfl rfl rfl ?_
    refine x_aload_n (pc' := 4) rfl rfl rfl ?_
    refine x_get (pc' := 7) rfl rfl rfl (hS.lt) rfl ?_
    refine x_eqi hL.1 ?_
    refine x_icmp_ge (tgt := 59) (pc' := 10) rfl rfl rfl (fun c7 => absurd c7 ((nI_ge (by omega) (by omega)))) (fun _ => ?_)
    refine x_aload_n (pc' := 11) rfl rfl rfl ?_
    refine x_iload_n (pc' := 12) rfl rfl rfl ?_
    refine x_cV1i (d := 2) (pc' := 15) rfl rfl sX2_50 gX2_digitAt (hS.lt) ⟨Nat.le_of_ble_eq_true rfl, Nat.le_of_ble_eq_true rfl⟩ (Nat.le_of_ble_eq_true rfl) ⟨Nat.le_of_ble_eq_true rfl, Nat.le_of_ble_eq_true rfl⟩ ?_
    refine l_digit hS hL (by omega) ⟨_, rfl, ?_⟩
    rw [if_pos hd]
    refine x_bipush (pc' := 17) rfl rfl bipush_m9 ?_
    refine x_icmp_eq (tgt := 59) (pc' := 20) rfl rfl rfl (fun c17 => absurd c17 ((fun q => by have h2 := nI_pos (n := q_t L ℓ i - 48) (by omega); rw [q] at h2; exact h2 (by decide)))) (fun _ => ?_)
    refine x_aload_n (pc' := 21) rfl rfl rfl ?_
    refine x_aload_n (pc' := 22) rfl rfl rfl ?_
    refine x_iload_n (pc' := 23) rfl rfl rfl ?_
    refine x_cV1i (d := 2) (pc' := 26) rfl rfl sX2_50 gX2_digitAt (hS.lt) ⟨Nat.le_of_ble_eq_true rfl, Nat.le_of_ble_eq_true rfl⟩ (Nat.le_of_ble_eq_true rfl) ⟨Nat.le_of_ble_eq_true rfl, Nat.le_of_ble_eq_true rfl⟩ ?_
    refine l_digit hS hL (by omega) ⟨_, rfl, ?_⟩
    rw [if_pos hd]
    refine x_cV1i (d := 2) (pc' := 29) rfl rfl sX2_81 gX3_canMove (hT.1) ⟨Nat.le_of_ble_eq_true rfl, Nat.le_of_ble_eq_true rfl⟩ (Nat.le_of_ble_eq_true rfl) ⟨Nat.le_of_ble_eq_true rfl, Nat.le_of_ble_eq_true rfl⟩ ?_
    refine w_can hT hC.2.1 hok (by decide) (by omega) (fun d2 => ⟨_, rfl, ?_⟩) (fun d2 => ⟨_, rfl, ?_⟩)
    · refine x_if_eq (tgt := 42) (pc' := 32) rfl rfl rfl (fun c29 => absurd c29 ((by decide))) (fun _ => ?_)
      refine x_aload_n (pc' := 33) rfl rfl rfl ?_
      refine x_get (pc' := 36) rfl rfl rfl (hT.1) rfl ?_
      refine x_eqi hC.2.2.1 ?_
      refine x_sipush (pc' := 39) rfl rfl sipush_999 ?_
      by_cases d3 : G.2 = 999
      · rw [if_neg (fun q => q.2 d3)] at hR
        refine x_icmp_lt (tgt := 44) (pc' := 42) rfl rfl rfl (fun q => absurd q (by rw [d3]; decide)) (fun _ => ?_)
        refine x_iconst (pc' := 43) rfl rfl iconst_0 ?_
        exact x_ireturn rfl rfl rfl (Nat.le_of_ble_eq_true rfl) (Nat.le_of_ble_eq_true rfl) (k0 hR.symm _ _ hC.1 hF)
      · rw [if_pos ⟨d2, d3⟩] at hR
        refine x_icmp_lt (tgt := 44) (pc' := 42) rfl rfl rfl (fun _ => ?_) (fun q => absurd (nI_lt (b := 999) (by omega) (by decide)) q)
        refine x_aload_n (pc' := 45) rfl rfl rfl ?_
        refine x_aload_n (pc' := 46) rfl rfl rfl ?_
        refine x_iload_n (pc' := 47) rfl rfl rfl ?_
        refine x_cV1i (d := 2) (pc' := 50) rfl rfl sX2_50 gX2_digitAt (hS.lt) ⟨Nat.le_of_ble_eq_true rfl, Nat.le_of_ble_eq_true rfl⟩ (Nat.le_of_ble_eq_true rfl) ⟨Nat.le_of_ble_eq_true rfl, Nat.le_of_ble_eq_true rfl⟩ ?_
        refine l_digit hS hL (by omega) ⟨_, rfl, ?_⟩
        rw [if_pos hd]
        refine x_cV1v (d := 4) (pc' := 53) rfl rfl sX2_87 gX3_makeMove (hT.1) ⟨Nat.le_of_ble_eq_true rfl, Nat.le_of_ble_eq_true rfl⟩ (Nat.le_of_ble_eq_true rfl) ⟨Nat.le_of_ble_eq_true rfl, Nat.le_of_ble_eq_true rfl⟩ ?_
        refine w_move hT hC.2.1 hok (by decide) d2.2.1 (fun f1 T1 hT1 g1 g4 g5 g6 g7 g8 hF1 => ⟨rfl, ?_⟩)
        refine x_iinc (pc' := 56) (lv' := [(3, _), (0, _), (1, _), (2, _)]) rfl rfl (Nat.le_of_ble_eq_true rfl) rfl (nI_1 i) rfl ?_
        refine x_goto (tgt := 2) rfl rfl ?_
        refine ih (i + 1) _ _ T1 (by omega) (by omega) hR ⟨hS.tt (j := 2) (by decide) hT1 hF1, g1, ?_, g_mv_ok hok (by decide) (by decide) d2.2.1, by show G.2 + 1 ≤ 999; omega⟩ (hF.trans (c_fr0 (j := 2) (by decide) hF1))
        rw [g4, hC.2.2.1]
        exact nI_1 _
    · rw [if_neg (fun q => d2 q.1)] at hR
      refine x_if_eq (tgt := 42) (pc' := 32) rfl rfl rfl (fun _ => ?_) (fun c29 => absurd (rfl) c29)
      refine x_iconst (pc' := 43) rfl rfl iconst_0 ?_
      exact x_ireturn rfl rfl rfl (Nat.le_of_ble_eq_true rfl) (Nat.le_of_ble_eq_true rfl) (k0 hR.symm _ _ hC.1 hF)
theorem l_makeMoves {s e : Nat} {S0 : x_S} {G : q_G × Nat} (hC : c_tb z f S0 T G) (hL : q_L S0 L ℓ) (he : e < L) (hse : s ≤ e) (h59 : q_t L ℓ e = 59) (hdg : ∀ j, s ≤ j → j < e → q_dg (q_t L ℓ j)) (k1 : ∀ G', q_ms2 (q_t L ℓ) (e - s) s G = some G' → ∀ (f' : x_H) (T' : x_T), c_tb z f' S0 T' G' → x_fr (fun q => 59 ≤ q) f f' → post (some (.int 1)) f') (k0 : q_ms2 (q_t L ℓ) (e - s) s G = none → ∀ (f' : x_H) (T' : x_T), c_tx z f' S0 T' → x_fr (fun q => 59 ≤ q) f f' → post (some (.int 0)) f') : Y E 5 mX2_makeMoves [.ref 17, .int (nI s), .ref 9] z f 0 0 post := by
  refine Y.intro gX2_makeMoves (lv := [(0, .ref 17), (1, .int (nI s)), (2, .ref 9)]) rfl (Nat.le_of_ble_eq_true rfl) ?_
  refine x_iload_n (pc' := 1) rfl rfl rfl ?_
  refine x_istore_n (pc' := 2) (lv' := [(3, _), (0, _), (1, _), (2, _)]) rfl rfl (Nat.le_of_ble_eq_true rfl) rfl ?_
  exact l_mksL hL he h59 hdg f _ k1 k0 (e - s) s G f T (by omega) (Nat.le_refl _) rfl hC x_fr.rf
theorem c_tx_i {S0 : x_S} {f' : x_H} {U : x_T} (h : c_tx z f S0 T) (hU : x_t z f' 9 U) (hF : x_fr (x_ot 9) f f') : c_tx z f' S0 U := h.tt (j := 2) (by decide) hU hF
theorem l_apply {s : Nat} {S0 : x_S} {G : q_G × Nat} (hC : c_tb z f S0 T G) (hL : q_L S0 L ℓ) (hs : s < L) (hsk : q_sk (q_t L ℓ) s = none) (h1 : ∀ G', q_do (q_t L ℓ) s G = some G' → ∀ (f' : x_H) (T' : x_T), c_tb z f' S0 T' G' → x_fr (fun q => 59 ≤ q) f f' → post (some (.int 1)) f') (h0 : q_do (q_t L ℓ) s G = none → ∀ (f' : x_H) (T' : x_T), c_tx z f' S0 T' → x_fr (fun q => 59 ≤ q) f f' → post (some (.int 0)) f') : Y E 6 mX2_apply [.ref 17, .int (nI s), .ref 9] z f 0 0 post := by
  refine Y.intro gX2_apply (lv := [(0, .ref 17), (1, .int (nI s)), (2, .ref 9)]) rfl (Nat.le_of_ble_eq_true rfl) ?_
  obtain ⟨s1, s2, s3, s4⟩ := q_sk_no hsk
  obtain ⟨n1, n2, n3, n4⟩ := q_dn_is hsk
  have hdg := q_sk_dg hsk
  have hL96 := hL.2.1
  have hok := hC.2.2.2.1
  have hn9 := hok.1
  have hm := hC.2.2.2.2
  have hel := q_ed_lt hL.2.2.2 hsk
  have hT := c_tb_t hC
  obtain ⟨t1, t2, t3, t4, t5, t6, t7⟩ := hC.2.1
  have hS : x_Sys z f (S0.1, x_ut S0.2.1 2 T, S0.2.2.1, S0.2.2.2) := hC.1
  rcases q_md_in s1 with h98 | h99 | h102 | h108 | h116 | h115
  ·
    refine x_aload_n (pc' := 1) rfl rfl rfl ?_
    refine x_iload_n (pc' := 2) rfl rfl rfl ?_
    refine x_iconst (pc' := 3) rfl rfl iconst_1 ?_
    refine x_iadd (pc' := 4) rfl rfl ?_
    refine x_eqi (nI_1 _) ?_
    refine x_cV1i (d := 2) (pc' := 7) rfl rfl sX2_50 gX2_digitAt (hS.lt) ⟨Nat.le_of_ble_eq_true rfl, Nat.le_of_ble_eq_true rfl⟩ (Nat.le_of_ble_eq_true rfl) ⟨Nat.le_of_ble_eq_true rfl, Nat.le_of_ble_eq_true rfl⟩ ?_
    refine l_digit hS hL (by omega) ⟨_, rfl, ?_⟩
    refine x_istore_n (pc' := 8) (lv' := [(3, _), (0, _), (1, _), (2, _)]) rfl rfl (Nat.le_of_ble_eq_true rfl) rfl ?_
    refine x_aload_n (pc' := 9) rfl rfl rfl ?_
    refine x_iload_n (pc' := 10) rfl rfl rfl ?_
    refine x_iconst (pc' := 11) rfl rfl iconst_2 ?_
    refine x_iadd (pc' := 12) rfl rfl ?_
    refine x_eqi (show nI s + 2 = nI (s + 2) from nI_add s 2) ?_
    refine x_cV1i (d := 2) (pc' := 15) rfl rfl sX2_50 gX2_digitAt (hS.lt) ⟨Nat.le_of_ble_eq_true rfl, Nat.le_of_ble_eq_true rfl⟩ (Nat.le_of_ble_eq_true rfl) ⟨Nat.le_of_ble_eq_true rfl, Nat.le_of_ble_eq_true rfl⟩ ?_
    refine l_digit hS hL (by omega) ⟨_, rfl, ?_⟩
    refine x_istore (pc' := 17) (lv' := [(4, _), (3, _), (0, _), (1, _), (2, _)]) rfl rfl (Nat.le_of_ble_eq_true rfl) rfl ?_
    refine x_aload_n (pc' := 18) rfl rfl rfl ?_
    refine x_iload_n (pc' := 19) rfl rfl rfl ?_
    refine x_cV1i (d := 1) (pc' := 22) rfl rfl sX2_34 gX2_letterAt (hS.lt) ⟨Nat.le_of_ble_eq_true rfl, Nat.le_of_ble_eq_true rfl⟩ (Nat.le_of_ble_eq_true rfl) ⟨Nat.le_of_ble_eq_true rfl, Nat.le_of_ble_eq_true rfl⟩ ?_
    refine l_at hS hL (by omega) ⟨_, rfl, ?_⟩
    refine x_eqi (show q_cI (q_t L ℓ s) = 98 from by rw [h98]; decide) ?_
    refine x_lookup (off := 50) (tgt := 72) rfl (by decide) (by decide) rfl ?_
    refine x_aload_n (pc' := 73) rfl rfl rfl ?_
    refine x_iload_n (pc' := 74) rfl rfl rfl ?_
    refine x_aload_n (pc' := 75) rfl rfl rfl ?_
    refine x_cV2i (d := 3) (pc' := 78) rfl rfl sX2_53 gX2_addBowl (hS.lt) ⟨Nat.le_of_ble_eq_true rfl, Nat.le_of_ble_eq_true rfl⟩ (Nat.le_of_ble_eq_true rfl) ⟨Nat.le_of_ble_eq_true rfl, Nat.le_of_ble_eq_true rfl⟩ ?_
    refine l_addBowl hC hL (by omega) h98 hsk (fun G' e1 f1 T1 hC1 hF1 => ⟨_, rfl, ?_⟩) (fun e0 => ⟨_, rfl, ?_⟩)
    · exact x_ireturn rfl rfl rfl (Nat.le_of_ble_eq_true rfl) (Nat.le_of_ble_eq_true rfl) (h1 _ e1 _ _ hC1 hF1)
    · exact x_ireturn rfl rfl rfl (Nat.le_of_ble_eq_true rfl) (Nat.le_of_ble_eq_true rfl) (h0 e0 _ _ hC.1 x_fr.rf)
  · have hdn := n2 h99
    have hp0 : q_p0 (q_t L ℓ) s = s + 1 := if_neg (by omega)
    have hed : q_ed (q_t L ℓ) s = s + 3 := by unfold q_ed; rw [hp0, hdn]
    have hd1 := hdg (s + 1) (by omega) (by omega)
    have hd2 := hdg (s + 2) (by omega) (by omega)
    have hv9 : q_t L ℓ (s + 1) - 48 ≤ 9 := by have := hd1.2; omega
    have hw9 : q_t L ℓ (s + 2) - 48 ≤ 9 := by have := hd2.2; omega
    have hdo : q_do (q_t L ℓ) s G = if q_t L ℓ (s + 1) - 48 < g_n G.1 ∧ q_t L ℓ (s + 2) - 48 < g_n G.1 ∧ ¬ q_t L ℓ (s + 1) - 48 = q_t L ℓ (s + 2) - 48 then some (g_sw G.1 (q_t L ℓ (s + 1) - 48) (q_t L ℓ (s + 2) - 48), G.2) else none := by
      unfold q_do
      rw [if_neg (by omega), if_neg (by omega), if_pos h99]
    have hkk : ∀ G', q_do (q_t L ℓ) s G = some G' → g_ok 99 G'.1 ∧ G'.2 ≤ 999 := fun G' e => q_do_ok hsk hok hm e
    rw [hdo] at h1 h0 hkk
    clear hdo
    refine x_aload_n (pc' := 1) rfl rfl rfl ?_
    refine x_iload_n (pc' := 2) rfl rfl rfl ?_
    refine x_iconst (pc' := 3) rfl rfl iconst_1 ?_
    refine x_iadd (pc' := 4) rfl rfl ?_
    refine x_eqi (nI_1 _) ?_
    refine x_cV1i (d := 2) (pc' := 7) rfl rfl sX2_50 gX2_digitAt (hS.lt) ⟨Nat.le_of_ble_eq_true rfl, Nat.le_of_ble_eq_true rfl⟩ (Nat.le_of_ble_eq_true rfl) ⟨Nat.le_of_ble_eq_true rfl, Nat.le_of_ble_eq_true rfl⟩ ?_
    refine l_digit hS hL (by omega) ⟨_, rfl, ?_⟩
    rw [if_pos hd1]
    refine x_istore_n (pc' := 8) (lv' := [(3, _), (0, _), (1, _), (2, _)]) rfl rfl (Nat.le_of_ble_eq_true rfl) rfl ?_
    refine x_aload_n (pc' := 9) rfl rfl rfl ?_
    refine x_iload_n (pc' := 10) rfl rfl rfl ?_
    refine x_iconst (pc' := 11) rfl rfl iconst_2 ?_
    refine x_iadd (pc' := 12) rfl rfl ?_
    refine x_eqi (show nI s + 2 = nI (s + 2) from nI_add s 2) ?_
    refine x_cV1i (d := 2) (pc' := 15) rfl rfl sX2_50 gX2_digitAt (hS.lt) ⟨Nat.le_of_ble_eq_true rfl, Nat.le_of_ble_eq_true rfl⟩ (Nat.le_of_ble_eq_true rfl) ⟨Nat.le_of_ble_eq_true rfl, Nat.le_of_ble_eq_true rfl⟩ ?_
    refine l_digit hS hL (by omega) ⟨_, rfl, ?_⟩
    rw [if_pos hd2]
    refine x_istore (pc' := 17) (lv' := [(4, _), (3, _), (0, _), (1, _), (2, _)]) rfl rfl (Nat.le_of_ble_eq_true rfl) rfl ?_
    refine x_aload_n (pc' := 18) rfl rfl rfl ?_
    refine x_iload_n (pc' := 19) rfl rfl rfl ?_
    refine x_cV1i (d := 1) (pc' := 22) rfl rfl sX2_34 gX2_letterAt (hS.lt) ⟨Nat.le_of_ble_eq_true rfl, Nat.le_of_ble_eq_true rfl⟩ (Nat.le_of_ble_eq_true rfl) ⟨Nat.le_of_ble_eq_true rfl, Nat.le_of_ble_eq_true rfl⟩ ?_
    refine l_at hS hL (by omega) ⟨_, rfl, ?_⟩
    refine x_eqi (show q_cI (q_t L ℓ s) = 99 from by rw [h99]; decide) ?_
    generalize hv : q_t L ℓ (s + 1) - 48 = v at *
    generalize hw : q_t L ℓ (s + 2) - 48 = w at *
    refine x_lookup (off := 105) (tgt := 127) rfl (by decide) (by decide) rfl ?_
    refine x_aload_n (pc' := 128) rfl rfl rfl ?_
    refine x_iload_n (pc' := 129) rfl rfl rfl ?_
    refine x_iload (pc' := 131) rfl rfl rfl ?_
    refine x_cV2v (d := 3) (pc' := 134) rfl rfl sX2_67 gX3_swapBeans (hT.1) ⟨Nat.le_of_ble_eq_true rfl, Nat.le_of_ble_eq_true rfl⟩ (Nat.le_of_ble_eq_true rfl) ⟨Nat.le_of_ble_eq_true rfl, Nat.le_of_ble_eq_true rfl⟩ ?_
    refine w_swap (v := v) (w := w) hT t4 hn9 (by omega) (by omega) (fun f9 T9 hT9 e9 hF9 => ⟨rfl, ?_⟩)
    have hX9 : c_tx z f9 S0 T9 := c_tx_i hC.1 hT9 hF9
    have hF : x_fr (fun q => 59 ≤ q) f f9 := c_fr0 (j := 2) (by decide) hF9
    have hn9' : T9.2.2.2 0 = nI (g_n G.1) := by rw [e9.1]; exact t4
    refine x_iload_n (pc' := 135) rfl rfl rfl ?_
    refine x_iload (pc' := 137) rfl rfl rfl ?_
    by_cases d1 : v = w
    · rw [if_neg (fun q => q.2.2 d1)] at h0
      refine x_icmp_eq (tgt := 161) (pc' := 140) rfl rfl rfl (fun _ => ?_) (fun q => absurd (by rw [d1]) q)
      refine x_iconst (pc' := 162) rfl rfl iconst_0 ?_
      exact x_ireturn rfl rfl rfl (Nat.le_of_ble_eq_true rfl) (Nat.le_of_ble_eq_true rfl) (h0 rfl _ _ hX9 hF)
    · refine x_icmp_eq (tgt := 161) (pc' := 140) rfl rfl rfl (fun q => absurd ((nI_eq (by omega) (by omega)).mp q) d1) (fun _ => ?_)
      refine x_aload_n (pc' := 141) rfl rfl rfl ?_
      refine x_iload_n (pc' := 142) rfl rfl rfl ?_
      refine x_cV1i (d := 1) (pc' := 145) rfl rfl sX2_71 gX3_has (hT9.1) ⟨Nat.le_of_ble_eq_true rfl, Nat.le_of_ble_eq_true rfl⟩ (Nat.le_of_ble_eq_true rfl) ⟨Nat.le_of_ble_eq_true rfl, Nat.le_of_ble_eq_true rfl⟩ ?_
      refine w_has hT9 (fun q => ⟨_, rfl, ?_⟩) (fun q => ⟨_, rfl, ?_⟩)
      · have d2 : v < g_n G.1 := by have h9 := q.2.1; rw [hn9'] at h9; exact (nI_ltI (by omega) (by omega)).mp h9
        refine x_if_eq (tgt := 161) (pc' := 148) rfl rfl rfl (fun c145 => absurd c145 ((by decide))) (fun _ => ?_)
        refine x_aload_n (pc' := 149) rfl rfl rfl ?_
        refine x_iload (pc' := 151) rfl rfl rfl ?_
        refine x_cV1i (d := 1) (pc' := 154) rfl rfl sX2_71 gX3_has (hT9.1) ⟨Nat.le_of_ble_eq_true rfl, Nat.le_of_ble_eq_true rfl⟩ (Nat.le_of_ble_eq_true rfl) ⟨Nat.le_of_ble_eq_true rfl, Nat.le_of_ble_eq_true rfl⟩ ?_
        refine w_has hT9 (fun q => ⟨_, rfl, ?_⟩) (fun q => ⟨_, rfl, ?_⟩)
        · have d3 : w < g_n G.1 := by have h9 := q.2.1; rw [hn9'] at h9; exact (nI_ltI (by omega) (by omega)).mp h9
          refine x_if_eq (tgt := 161) (pc' := 157) rfl rfl rfl (fun c154 => absurd c154 ((by decide))) (fun _ => ?_)
          refine x_iconst (pc' := 158) rfl rfl iconst_1 ?_
          refine x_goto (tgt := 162) rfl rfl ?_
          have e10 : (if v < g_n G.1 ∧ w < g_n G.1 ∧ ¬ v = w then some (g_sw G.1 v w, G.2) else none) = some (g_sw G.1 v w, G.2) := if_pos ⟨d2, d3, d1⟩
          refine x_ireturn rfl rfl rfl (Nat.le_of_ble_eq_true rfl) (Nat.le_of_ble_eq_true rfl) (h1 _ e10 _ _ ⟨hX9, ?_, by rw [e9.1]; exact hC.2.2.1, (hkk _ e10).1, (hkk _ e10).2⟩ hF)
          rw [e9.2 d2 d3]
          refine ⟨t1, ?_, t3, t4, t5, t6, t7⟩
          show upd (upd T.2.1 v (T.2.1 w)) w (T.2.1 v) = _
          rw [t2, q_up_I, q_up_I]
          rfl
        · rw [if_neg (fun k => q (t_has_nI hn9' hn9 k.2.1))] at h0
          refine x_if_eq (tgt := 161) (pc' := 157) rfl rfl rfl (fun _ => ?_) (fun c154 => absurd (rfl) c154)
          refine x_iconst (pc' := 162) rfl rfl iconst_0 ?_
          exact x_ireturn rfl rfl rfl (Nat.le_of_ble_eq_true rfl) (Nat.le_of_ble_eq_true rfl) (h0 rfl _ _ hX9 hF)
      · rw [if_neg (fun k => q (t_has_nI hn9' hn9 k.1))] at h0
        refine x_if_eq (tgt := 161) (pc' := 148) rfl rfl rfl (fun _ => ?_) (fun c145 => absurd (rfl) c145)
        refine x_iconst (pc' := 162) rfl rfl iconst_0 ?_
        exact x_ireturn rfl rfl rfl (Nat.le_of_ble_eq_true rfl) (Nat.le_of_ble_eq_true rfl) (h0 rfl _ _ hX9 hF)
  · have hdn := n3 (by omega)
    have hp0 : q_p0 (q_t L ℓ) s = s + 1 := if_neg (by omega)
    have hed : q_ed (q_t L ℓ) s = s + 2 := by unfold q_ed; rw [hp0, hdn]
    have hd1 := hdg (s + 1) (by omega) (by omega)
    have hv9 : q_t L ℓ (s + 1) - 48 ≤ 9 := by have := hd1.2; omega
    have hdo : q_do (q_t L ℓ) s G = if q_t L ℓ (s + 1) - 48 = 0 then none else some ((G.1.1, G.1.2.1, G.1.2.2.1, g_n G.1, q_t L ℓ (s + 1) - 48, g_l G.1, g_t G.1), G.2) := by
      unfold q_do
      rw [if_neg (by omega), if_neg (by omega), if_neg (by omega), if_pos h102]
    have hkk : ∀ G', q_do (q_t L ℓ) s G = some G' → g_ok 99 G'.1 ∧ G'.2 ≤ 999 := fun G' e => q_do_ok hsk hok hm e
    rw [hdo] at h1 h0 hkk
    clear hdo
    refine x_aload_n (pc' := 1) rfl rfl rfl ?_
    refine x_iload_n (pc' := 2) rfl rfl rfl ?_
    refine x_iconst (pc' := 3) rfl rfl iconst_1 ?_
    refine x_iadd (pc' := 4) rfl rfl ?_
    refine x_eqi (nI_1 _) ?_
    refine x_cV1i (d := 2) (pc' := 7) rfl rfl sX2_50 gX2_digitAt (hS.lt) ⟨Nat.le_of_ble_eq_true rfl, Nat.le_of_ble_eq_true rfl⟩ (Nat.le_of_ble_eq_true rfl) ⟨Nat.le_of_ble_eq_true rfl, Nat.le_of_ble_eq_true rfl⟩ ?_
    refine l_digit hS hL (by omega) ⟨_, rfl, ?_⟩
    rw [if_pos hd1]
    refine x_istore_n (pc' := 8) (lv' := [(3, _), (0, _), (1, _), (2, _)]) rfl rfl (Nat.le_of_ble_eq_true rfl) rfl ?_
    refine x_aload_n (pc' := 9) rfl rfl rfl ?_
    refine x_iload_n (pc' := 10) rfl rfl rfl ?_
    refine x_iconst (pc' := 11) rfl rfl iconst_2 ?_
    refine x_iadd (pc' := 12) rfl rfl ?_
    refine x_eqi (show nI s + 2 = nI (s + 2) from nI_add s 2) ?_
    refine x_cV1i (d := 2) (pc' := 15) rfl rfl sX2_50 gX2_digitAt (hS.lt) ⟨Nat.le_of_ble_eq_true rfl, Nat.le_of_ble_eq_true rfl⟩ (Nat.le_of_ble_eq_true rfl) ⟨Nat.le_of_ble_eq_true rfl, Nat.le_of_ble_eq_true rfl⟩ ?_
    refine l_digit hS hL (by omega) ⟨_, rfl, ?_⟩
    refine x_istore (pc' := 17) (lv' := [(4, _), (3, _), (0, _), (1, _), (2, _)]) rfl rfl (Nat.le_of_ble_eq_true rfl) rfl ?_
    refine x_aload_n (pc' := 18) rfl rfl rfl ?_
    refine x_iload_n (pc' := 19) rfl rfl rfl ?_
    refine x_cV1i (d := 1) (pc' := 22) rfl rfl sX2_34 gX2_letterAt (hS.lt) ⟨Nat.le_of_ble_eq_true rfl, Nat.le_of_ble_eq_true rfl⟩ (Nat.le_of_ble_eq_true rfl) ⟨Nat.le_of_ble_eq_true rfl, Nat.le_of_ble_eq_true rfl⟩ ?_
    refine l_at hS hL (by omega) ⟨_, rfl, ?_⟩
    refine x_eqi (show q_cI (q_t L ℓ s) = 102 from by rw [h102]; decide) ?_
    generalize hv : q_t L ℓ (s + 1) - 48 = v at *
    refine x_lookup (off := 57) (tgt := 79) rfl (by decide) (by decide) rfl ?_
    refine x_aload_n (pc' := 80) rfl rfl rfl ?_
    refine x_iload_n (pc' := 81) rfl rfl rfl ?_
    refine x_put (pc' := 84) rfl rfl rfl (hT.1) (Nat.le_of_ble_eq_true rfl) rfl rfl rfl rfl (fun f1 e1 => ?_)
    have hT9 := hT.num 1 e1 (x_tFs1 _ _ _)
    have hF9 := (x_fr.rf (P := x_ot 9)).up e1 (x_ot_in (by omega) (by omega))
    have hX9 := c_tx_i hC.1 hT9 hF9
    have hF : x_fr (fun q => 59 ≤ q) f f1 := c_fr0 (j := 2) (by decide) hF9
    refine x_iload_n (pc' := 85) rfl rfl rfl ?_
    refine x_iconst (pc' := 86) rfl rfl iconst_1 ?_
    by_cases d1 : v = 0
    · rw [if_pos d1] at h0
      refine x_icmp_lt (tgt := 93) (pc' := 89) rfl rfl rfl (fun _ => ?_) (fun q => absurd (nI_lt (a := v) (b := 1) (by omega) (by decide)) q)
      refine x_iconst (pc' := 94) rfl rfl iconst_0 ?_
      exact x_ireturn rfl rfl rfl (Nat.le_of_ble_eq_true rfl) (Nat.le_of_ble_eq_true rfl) (h0 rfl _ _ hX9 hF)
    · refine x_icmp_lt (tgt := 93) (pc' := 89) rfl rfl rfl (fun q => absurd q (nI_nlt (a := v) (b := 1) (by omega) (by omega))) (fun _ => ?_)
      refine x_iconst (pc' := 90) rfl rfl iconst_1 ?_
      refine x_goto (tgt := 94) rfl rfl ?_
      have e10 : (if v = 0 then none else some ((G.1.1, G.1.2.1, G.1.2.2.1, g_n G.1, v, g_l G.1, g_t G.1), G.2)) = some ((G.1.1, G.1.2.1, G.1.2.2.1, g_n G.1, v, g_l G.1, g_t G.1), G.2) := if_neg d1
      exact x_ireturn rfl rfl rfl (Nat.le_of_ble_eq_true rfl) (Nat.le_of_ble_eq_true rfl) (h1 _ e10 _ _ ⟨hX9, ⟨t1, t2, t3, t4, rfl, t6, t7⟩, hC.2.2.1, (hkk _ e10).1, (hkk _ e10).2⟩ hF)
  · have hdn := n3 (by omega)
    have hp0 : q_p0 (q_t L ℓ) s = s + 1 := if_neg (by omega)
    have hed : q_ed (q_t L ℓ) s = s + 2 := by unfold q_ed; rw [hp0, hdn]
    have hd1 := hdg (s + 1) (by omega) (by omega)
    have hv9 : q_t L ℓ (s + 1) - 48 ≤ 9 := by have := hd1.2; omega
    have hdo : q_do (q_t L ℓ) s G = if 1 < q_t L ℓ (s + 1) - 48 then none else some ((G.1.1, G.1.2.1, G.1.2.2.1, g_n G.1, g_f G.1, q_t L ℓ (s + 1) - 48, g_t G.1), G.2) := by
      unfold q_do
      rw [if_neg (by omega), if_neg (by omega), if_neg (by omega), if_neg (by omega), if_pos h108]
    have hkk : ∀ G', q_do (q_t L ℓ) s G = some G' → g_ok 99 G'.1 ∧ G'.2 ≤ 999 := fun G' e => q_do_ok hsk hok hm e
    rw [hdo] at h1 h0 hkk
    clear hdo
    refine x_aload_n (pc' := 1) rfl rfl rfl ?_
    refine x_iload_n (pc' := 2) rfl rfl rfl ?_
    refine x_iconst (pc' := 3) rfl rfl iconst_1 ?_
    refine x_iadd (pc' := 4) rfl rfl ?_
    refine x_eqi (nI_1 _) ?_
    refine x_cV1i (d := 2) (pc' := 7) rfl rfl sX2_50 gX2_digitAt (hS.lt) ⟨Nat.le_of_ble_eq_true rfl, Nat.le_of_ble_eq_true rfl⟩ (Nat.le_of_ble_eq_true rfl) ⟨Nat.le_of_ble_eq_true rfl, Nat.le_of_ble_eq_true rfl⟩ ?_
    refine l_digit hS hL (by omega) ⟨_, rfl, ?_⟩
    rw [if_pos hd1]
    refine x_istore_n (pc' := 8) (lv' := [(3, _), (0, _), (1, _), (2, _)]) rfl rfl (Nat.le_of_ble_eq_true rfl) rfl ?_
    refine x_aload_n (pc' := 9) rfl rfl rfl ?_
    refine x_iload_n (pc' := 10) rfl rfl rfl ?_
    refine x_iconst (pc' := 11) rfl rfl iconst_2 ?_
    refine x_iadd (pc' := 12) rfl rfl ?_
    refine x_eqi (show nI s + 2 = nI (s + 2) from nI_add s 2) ?_
    refine x_cV1i (d := 2) (pc' := 15) rfl rfl sX2_50 gX2_digitAt (hS.lt) ⟨Nat.le_of_ble_eq_true rfl, Nat.le_of_ble_eq_true rfl⟩ (Nat.le_of_ble_eq_true rfl) ⟨Nat.le_of_ble_eq_true rfl, Nat.le_of_ble_eq_true rfl⟩ ?_
    refine l_digit hS hL (by omega) ⟨_, rfl, ?_⟩
    refine x_istore (pc' := 17) (lv' := [(4, _), (3, _), (0, _), (1, _), (2, _)]) rfl rfl (Nat.le_of_ble_eq_true rfl) rfl ?_
    refine x_aload_n (pc' := 18) rfl rfl rfl ?_
    refine x_iload_n (pc' := 19) rfl rfl rfl ?_
    refine x_cV1i (d := 1) (pc' := 22) rfl rfl sX2_34 gX2_letterAt (hS.lt) ⟨Nat.le_of_ble_eq_true rfl, Nat.le_of_ble_eq_true rfl⟩ (Nat.le_of_ble_eq_true rfl) ⟨Nat.le_of_ble_eq_true rfl, Nat.le_of_ble_eq_true rfl⟩ ?_
    refine l_at hS hL (by omega) ⟨_, rfl, ?_⟩
    refine x_eqi (show q_cI (q_t L ℓ s) = 108 from by rw [h108]; decide) ?_
    generalize hv : q_t L ℓ (s + 1) - 48 = v at *
    refine x_lookup (off := 73) (tgt := 95) rfl (by decide) (by decide) rfl ?_
    refine x_aload_n (pc' := 96) rfl rfl rfl ?_
    refine x_iload_n (pc' := 97) rfl rfl rfl ?_
    refine x_put (pc' := 100) rfl rfl rfl (hT.1) (Nat.le_of_ble_eq_true rfl) rfl rfl rfl rfl (fun f1 e1 => ?_)
    have hT9 := hT.num 2 e1 (x_tFs2 _ _ _)
    have hF9 := (x_fr.rf (P := x_ot 9)).up e1 (x_ot_in (by omega) (by omega))
    have hX9 := c_tx_i hC.1 hT9 hF9
    have hF : x_fr (fun q => 59 ≤ q) f f1 := c_fr0 (j := 2) (by decide) hF9
    refine x_iload_n (pc' := 101) rfl rfl rfl ?_
    refine x_iconst (pc' := 102) rfl rfl iconst_1 ?_
    by_cases d1 : 1 < v
    · rw [if_pos d1] at h0
      refine x_icmp_gt (tgt := 109) (pc' := 105) rfl rfl rfl (fun _ => ?_) (fun q => absurd (nI_lt (a := 1) d1 (by omega)) q)
      refine x_iconst (pc' := 110) rfl rfl iconst_0 ?_
      exact x_ireturn rfl rfl rfl (Nat.le_of_ble_eq_true rfl) (Nat.le_of_ble_eq_true rfl) (h0 rfl _ _ hX9 hF)
    · refine x_icmp_gt (tgt := 109) (pc' := 105) rfl rfl rfl (fun q => absurd q (nI_nlt (a := 1) (by omega) (by omega))) (fun _ => ?_)
      refine x_iconst (pc' := 106) rfl rfl iconst_1 ?_
      refine x_goto (tgt := 110) rfl rfl ?_
      have e10 : (if 1 < v then none else some ((G.1.1, G.1.2.1, G.1.2.2.1, g_n G.1, g_f G.1, v, g_t G.1), G.2)) = some ((G.1.1, G.1.2.1, G.1.2.2.1, g_n G.1, g_f G.1, v, g_t G.1), G.2) := if_neg d1
      exact x_ireturn rfl rfl rfl (Nat.le_of_ble_eq_true rfl) (Nat.le_of_ble_eq_true rfl) (h1 _ e10 _ _ ⟨hX9, ⟨t1, t2, t3, t4, t5, rfl, t7⟩, hC.2.2.1, (hkk _ e10).1, (hkk _ e10).2⟩ hF)
  · have hdn := n3 (by omega)
    have hp0 : q_p0 (q_t L ℓ) s = s + 1 := if_neg (by omega)
    have hed : q_ed (q_t L ℓ) s = s + 2 := by unfold q_ed; rw [hp0, hdn]
    have hd1 := hdg (s + 1) (by omega) (by omega)
    have hv9 : q_t L ℓ (s + 1) - 48 ≤ 9 := by have := hd1.2; omega
    have hdo : q_do (q_t L ℓ) s G = if 1 < q_t L ℓ (s + 1) - 48 then none else some ((G.1.1, G.1.2.1, G.1.2.2.1, g_n G.1, g_f G.1, g_l G.1, q_t L ℓ (s + 1) - 48), G.2) := by
      unfold q_do
      rw [if_neg (by omega), if_neg (by omega), if_neg (by omega), if_neg (by omega), if_neg (by omega)]
    have hkk : ∀ G', q_do (q_t L ℓ) s G = some G' → g_ok 99 G'.1 ∧ G'.2 ≤ 999 := fun G' e => q_do_ok hsk hok hm e
    rw [hdo] at h1 h0 hkk
    clear hdo
    refine x_aload_n (pc' := 1) rfl rfl rfl ?_
    refine x_iload_n (pc' := 2) rfl rfl rfl ?_
    refine x_iconst (pc' := 3) rfl rfl iconst_1 ?_
    refine x_iadd (pc' := 4) rfl rfl ?_
    refine x_eqi (nI_1 _) ?_
    refine x_cV1i (d := 2) (pc' := 7) rfl rfl sX2_50 gX2_digitAt (hS.lt) ⟨Nat.le_of_ble_eq_true rfl, Nat.le_of_ble_eq_true rfl⟩ (Nat.le_of_ble_eq_true rfl) ⟨Nat.le_of_ble_eq_true rfl, Nat.le_of_ble_eq_true rfl⟩ ?_
    refine l_digit hS hL (by omega) ⟨_, rfl, ?_⟩
    rw [if_pos hd1]
    refine x_istore_n (pc' := 8) (lv' := [(3, _), (0, _), (1, _), (2, _)]) rfl rfl (Nat.le_of_ble_eq_true rfl) rfl ?_
    refine x_aload_n (pc' := 9) rfl rfl rfl ?_
    refine x_iload_n (pc' := 10) rfl rfl rfl ?_
    refine x_iconst (pc' := 11) rfl rfl iconst_2 ?_
    refine x_iadd (pc' := 12) rfl rfl ?_
    refine x_eqi (show nI s + 2 = nI (s + 2) from nI_add s 2) ?_
    refine x_cV1i (d := 2) (pc' := 15) rfl rfl sX2_50 gX2_digitAt (hS.lt) ⟨Nat.le_of_ble_eq_true rfl, Nat.le_of_ble_eq_true rfl⟩ (Nat.le_of_ble_eq_true rfl) ⟨Nat.le_of_ble_eq_true rfl, Nat.le_of_ble_eq_true rfl⟩ ?_
    refine l_digit hS hL (by omega) ⟨_, rfl, ?_⟩
    refine x_istore (pc' := 17) (lv' := [(4, _), (3, _), (0, _), (1, _), (2, _)]) rfl rfl (Nat.le_of_ble_eq_true rfl) rfl ?_
    refine x_aload_n (pc' := 18) rfl rfl rfl ?_
    refine x_iload_n (pc' := 19) rfl rfl rfl ?_
    refine x_cV1i (d := 1) (pc' := 22) rfl rfl sX2_34 gX2_letterAt (hS.lt) ⟨Nat.le_of_ble_eq_true rfl, Nat.le_of_ble_eq_true rfl⟩ (Nat.le_of_ble_eq_true rfl) ⟨Nat.le_of_ble_eq_true rfl, Nat.le_of_ble_eq_true rfl⟩ ?_
    refine l_at hS hL (by omega) ⟨_, rfl, ?_⟩
    refine x_eqi (show q_cI (q_t L ℓ s) = 116 from by rw [h116]; decide) ?_
    generalize hv : q_t L ℓ (s + 1) - 48 = v at *
    refine x_lookup (off := 89) (tgt := 111) rfl (by decide) (by decide) rfl ?_
    refine x_aload_n (pc' := 112) rfl rfl rfl ?_
    refine x_iload_n (pc' := 113) rfl rfl rfl ?_
    refine x_put (pc' := 116) rfl rfl rfl (hT.1) (Nat.le_of_ble_eq_true rfl) rfl rfl rfl rfl (fun f1 e1 => ?_)
    have hT9 := hT.num 3 e1 (x_tFs3 _ _ _)
    have hF9 := (x_fr.rf (P := x_ot 9)).up e1 (x_ot_in (by omega) (by omega))
    have hX9 := c_tx_i hC.1 hT9 hF9
    have hF : x_fr (fun q => 59 ≤ q) f f1 := c_fr0 (j := 2) (by decide) hF9
    refine x_iload_n (pc' := 117) rfl rfl rfl ?_
    refine x_iconst (pc' := 118) rfl rfl iconst_1 ?_
    by_cases d1 : 1 < v
    · rw [if_pos d1] at h0
      refine x_icmp_gt (tgt := 125) (pc' := 121) rfl rfl rfl (fun _ => ?_) (fun q => absurd (nI_lt (a := 1) d1 (by omega)) q)
      refine x_iconst (pc' := 126) rfl rfl iconst_0 ?_
      exact x_ireturn rfl rfl rfl (Nat.le_of_ble_eq_true rfl) (Nat.le_of_ble_eq_true rfl) (h0 rfl _ _ hX9 hF)
    · refine x_icmp_gt (tgt := 125) (pc' := 121) rfl rfl rfl (fun q => absurd q (nI_nlt (a := 1) (by omega) (by omega))) (fun _ => ?_)
      refine x_iconst (pc' := 122) rfl rfl iconst_1 ?_
      refine x_goto (tgt := 126) rfl rfl ?_
      have e10 : (if 1 < v then none else some ((G.1.1, G.1.2.1, G.1.2.2.1, g_n G.1, g_f G.1, g_l G.1, v), G.2)) = some ((G.1.1, G.1.2.1, G.1.2.2.1, g_n G.1, g_f G.1, g_l G.1, v), G.2) := if_neg d1
      exact x_ireturn rfl rfl rfl (Nat.le_of_ble_eq_true rfl) (Nat.le_of_ble_eq_true rfl) (h1 _ e10 _ _ ⟨hX9, ⟨t1, t2, t3, t4, t5, t6, rfl⟩, hC.2.2.1, (hkk _ e10).1, (hkk _ e10).2⟩ hF)
  · have hdn := n4 h115
    have hp0 : q_p0 (q_t L ℓ) s = s + 1 := if_neg (by omega)
    have hed : q_ed (q_t L ℓ) s = s + 1 + q_dn (q_t L ℓ) s := by unfold q_ed; rw [hp0]
    have hdo : q_do (q_t L ℓ) s G = q_ms2 (q_t L ℓ) (q_ed (q_t L ℓ) s - (s + 1)) (s + 1) G := by
      unfold q_do
      rw [if_neg (by omega), if_pos h115, hed, show s + 1 + q_dn (q_t L ℓ) s - (s + 1) = q_dn (q_t L ℓ) s by omega]
    rw [hdo] at h1 h0
    refine x_aload_n (pc' := 1) rfl rfl rfl ?_
    refine x_iload_n (pc' := 2) rfl rfl rfl ?_
    refine x_iconst (pc' := 3) rfl rfl iconst_1 ?_
    refine x_iadd (pc' := 4) rfl rfl ?_
    refine x_eqi (nI_1 _) ?_
    refine x_cV1i (d := 2) (pc' := 7) rfl rfl sX2_50 gX2_digitAt (hS.lt) ⟨Nat.le_of_ble_eq_true rfl, Nat.le_of_ble_eq_true rfl⟩ (Nat.le_of_ble_eq_true rfl) ⟨Nat.le_of_ble_eq_true rfl, Nat.le_of_ble_eq_true rfl⟩ ?_
    refine l_digit hS hL (by omega) ⟨_, rfl, ?_⟩
    refine x_istore_n (pc' := 8) (lv' := [(3, _), (0, _), (1, _), (2, _)]) rfl rfl (Nat.le_of_ble_eq_true rfl) rfl ?_
    refine x_aload_n (pc' := 9) rfl rfl rfl ?_
    refine x_iload_n (pc' := 10) rfl rfl rfl ?_
    refine x_iconst (pc' := 11) rfl rfl iconst_2 ?_
    refine x_iadd (pc' := 12) rfl rfl ?_
    refine x_eqi (show nI s + 2 = nI (s + 2) from nI_add s 2) ?_
    refine x_cV1i (d := 2) (pc' := 15) rfl rfl sX2_50 gX2_digitAt (hS.lt) ⟨Nat.le_of_ble_eq_true rfl, Nat.le_of_ble_eq_true rfl⟩ (Nat.le_of_ble_eq_true rfl) ⟨Nat.le_of_ble_eq_true rfl, Nat.le_of_ble_eq_true rfl⟩ ?_
    refine l_digit hS hL (by omega) ⟨_, rfl, ?_⟩
    refine x_istore (pc' := 17) (lv' := [(4, _), (3, _), (0, _), (1, _), (2, _)]) rfl rfl (Nat.le_of_ble_eq_true rfl) rfl ?_
    refine x_aload_n (pc' := 18) rfl rfl rfl ?_
    refine x_iload_n (pc' := 19) rfl rfl rfl ?_
    refine x_cV1i (d := 1) (pc' := 22) rfl rfl sX2_34 gX2_letterAt (hS.lt) ⟨Nat.le_of_ble_eq_true rfl, Nat.le_of_ble_eq_true rfl⟩ (Nat.le_of_ble_eq_true rfl) ⟨Nat.le_of_ble_eq_true rfl, Nat.le_of_ble_eq_true rfl⟩ ?_
    refine l_at hS hL (by omega) ⟨_, rfl, ?_⟩
    refine x_eqi (show q_cI (q_t L ℓ s) = 115 from by rw [h115]; decide) ?_
    refine x_lookup (off := 141) (tgt := 163) rfl (by decide) (by decide) rfl ?_
    refine x_aload_n (pc' := 164) rfl rfl rfl ?_
    refine x_iload_n (pc' := 165) rfl rfl rfl ?_
    refine x_iconst (pc' := 166) rfl rfl iconst_1 ?_
    refine x_iadd (pc' := 167) rfl rfl ?_
    refine x_eqi (nI_1 _) ?_
    refine x_aload_n (pc' := 168) rfl rfl rfl ?_
    refine x_cV2i (d := 5) (pc' := 171) rfl rfl sX2_75 gX2_makeMoves (hS.lt) ⟨Nat.le_of_ble_eq_true rfl, Nat.le_of_ble_eq_true rfl⟩ (Nat.le_of_ble_eq_true rfl) ⟨Nat.le_of_ble_eq_true rfl, Nat.le_of_ble_eq_true rfl⟩ ?_
    refine l_makeMoves (s := s + 1) (e := q_ed (q_t L ℓ) s) hC hL hel (by omega) s4 (fun j hj => hdg j (by omega)) (fun G' e9 f9 T9 hC9 hF9 => ⟨_, rfl, ?_⟩) (fun e9 f9 T9 hX9 hF9 => ⟨_, rfl, ?_⟩)
    · exact x_ireturn rfl rfl rfl (Nat.le_of_ble_eq_true rfl) (Nat.le_of_ble_eq_true rfl) (h1 _ e9 _ _ hC9 hF9)
    · exact x_ireturn rfl rfl rfl (Nat.le_of_ble_eq_true rfl) (Nat.le_of_ble_eq_true rfl) (h0 e9 _ _ hX9 hF9)
end GC
end
section
-- == 62.gameD
/-! The class's game. -/
theorem q_fa_end {t : Nat → Nat} {L k s : Nat} (h : ¬ s < L) : q_fa t L k s = none := by
  cases k with
  | zero => rfl
  | succ k => exact if_neg h
theorem q_rn_end {t : Nat → Nat} {L k s : Nat} {G : q_G × Nat} (h : ¬ s < L) : q_rn t L k s G = .inr G := by
  cases k with
  | zero => rfl
  | succ k => exact if_neg h
theorem q_ct_end {t : Nat → Nat} {L k s : Nat} (h : ¬ s < L) : q_ct t L k s = 0 := by
  cases k with
  | zero => rfl
  | succ k => exact if_neg h
theorem q_sk_256 {t : Nat → Nat} {s : Nat} (h : t s = 256) : q_sk t s = some s := by
  unfold q_sk
  rw [h]
  exact if_pos rfl
theorem q_ff_some {L p : Nat} {ℓ : Nat → Nat} (h255 : ∀ i, ℓ i ≤ 255) (h : q_sk (q_t L ℓ) 0 = some p) : q_ff L ℓ = some p := by
  unfold q_ff
  by_cases d : L = 0
  · rw [if_pos d]
    rw [q_sk_256 ((q_t_256 h255).mpr (by omega))] at h
    exact h
  · rw [if_neg d]
    obtain ⟨k, rfl⟩ : ∃ k, L = k + 1 := ⟨L - 1, by omega⟩
    unfold q_fa
    rw [if_pos (by omega), h]
theorem q_ff_none {L : Nat} {ℓ : Nat → Nat} (h255 : ∀ i, ℓ i ≤ 255) (h : q_sk (q_t L ℓ) 0 = none) : 0 < L ∧ q_ff L ℓ = q_fa (q_t L ℓ) L (L - 1) (q_ed (q_t L ℓ) 0 + 1) := by
  by_cases d : L = 0
  · rw [q_sk_256 ((q_t_256 h255).mpr (by omega))] at h
    cases h
  · refine ⟨by omega, ?_⟩
    unfold q_ff
    rw [if_neg d]
    obtain ⟨k, rfl⟩ : ∃ k, L = k + 1 := ⟨L - 1, by omega⟩
    rw [q_fa, if_pos (by omega), h, Nat.add_sub_cancel]
theorem q_fa_go {L k s : Nat} {ℓ : Nat → Nat} (hs : s < L) (h : q_fa (q_t L ℓ) L (k + 1) s = none) : q_sk (q_t L ℓ) s = none ∧ q_fa (q_t L ℓ) L k (q_ed (q_t L ℓ) s + 1) = none := by
  unfold q_fa at h
  rw [if_pos hs] at h
  split at h
  · cases h
  · rename_i hh
    exact ⟨hh, h⟩
theorem q_oI_ne {p : Nat} (h : p < 2 ^ 31) : ¬ nI p = -9 := fun q => by
  have h2 := nI_pos h
  rw [q] at h2
  exact h2 (by decide)
section GD
variable {E : x_E} {z : Nat} {f : x_H} {S : x_S} {M : x_N} {A : q_A} {post : Option Value → x_H → Prop} {L : Nat} {ℓ : Nat → Nat} {T : x_T} {g : q_G} {m : Nat}
theorem l_stL (hS : x_Sys z f S) (hL : q_L S L ℓ) (R : Option Nat) (h : post (some (.int (q_oI R))) f) : ∀ (k i s : Nat), 1 ≤ i → i ≤ s → s ≤ L → L ≤ s + k → q_fa (q_t L ℓ) L k s = R → X E (x_rm 5 0 0) mX2_stuckAt (x_QM E z 0 0 post) 4 [(2, .int (nI i)), (1, .int (nI s)), (0, .ref 17)] [] z f 0 0 := by
  have l2 := hL.2.1
  intro k
  induction k with
  | zero =>
    intro i s h1 h2 h3 h4 hR
    have hR2 : none = R := hR
    subst hR2
    refine x_iload_n (pc' := 5) rfl rfl rfl ?_
    refine x_if_eq (tgt := 22) (pc' := 8) rfl rfl rfl (fun c5 => absurd c5 ((nI_ne0 (by omega) (by omega)))) (fun _ => ?_)
    refine x_iload_n (pc' := 9) rfl rfl rfl ?_
    refine x_bipush (pc' := 11) rfl rfl bipush_96 ?_
    refine x_icmp_ge (tgt := 48) (pc' := 14) rfl rfl rfl (fun c11 => ?_) (fun c11 => ?_)
    · refine x_bipush (pc' := 50) rfl rfl bipush_m9 ?_
      exact x_ireturn rfl rfl rfl (Nat.le_of_ble_eq_true rfl) (Nat.le_of_ble_eq_true rfl) (h)
    · refine x_iload_n (pc' := 15) rfl rfl rfl ?_
      refine x_aload_n (pc' := 16) rfl rfl rfl ?_
      refine x_get (pc' := 19) rfl rfl rfl (hS.lt) rfl ?_
      refine x_eqi hL.1 ?_
      refine x_icmp_ge (tgt := 48) (pc' := 22) rfl rfl rfl (fun _ => ?_) (fun c19 => absurd ((nI_le (by omega) (by omega))) c19)
      refine x_bipush (pc' := 50) rfl rfl bipush_m9 ?_
      exact x_ireturn rfl rfl rfl (Nat.le_of_ble_eq_true rfl) (Nat.le_of_ble_eq_true rfl) (h)
  | succ k ih =>
    intro i s h1 h2 h3 h4 hR
    by_cases hs : s < L
    · unfold q_fa at hR
      rw [if_pos hs] at hR
      refine x_iload_n (pc' := 5) rfl rfl rfl ?_
      refine x_if_eq (tgt := 22) (pc' := 8) rfl rfl rfl (fun c5 => absurd c5 ((nI_ne0 (by omega) (by omega)))) (fun _ => ?_)
      refine x_iload_n (pc' := 9) rfl rfl rfl ?_
      refine x_bipush (pc' := 11) rfl rfl bipush_96 ?_
      refine x_icmp_ge (tgt := 48) (pc' := 14) rfl rfl rfl (fun c11 => absurd c11 ((nI_ge (a := i) (b := 96) (by omega) (by decide)))) (fun _ => ?_)
      refine x_iload_n (pc' := 15) rfl rfl rfl ?_
      refine x_aload_n (pc' := 16) rfl rfl rfl ?_
      refine x_get (pc' := 19) rfl rfl rfl (hS.lt) rfl ?_
      refine x_eqi hL.1 ?_
      refine x_icmp_ge (tgt := 48) (pc' := 22) rfl rfl rfl (fun c19 => absurd c19 ((nI_ge hs (by omega)))) (fun _ => ?_)
      refine x_aload_n (pc' := 23) rfl rfl rfl ?_
      refine x_iload_n (pc' := 24) rfl rfl rfl ?_
      refine x_cV1i (d := 4) (pc' := 27) rfl rfl sX2_31 gX2_stuckIn (hS.lt) ⟨Nat.le_of_ble_eq_true rfl, Nat.le_of_ble_eq_true rfl⟩ (Nat.le_of_ble_eq_true rfl) ⟨Nat.le_of_ble_eq_true rfl, Nat.le_of_ble_eq_true rfl⟩ ?_
      refine l_stuckIn hS hL (by omega) ⟨_, rfl, ?_⟩
      refine x_istore_n (pc' := 28) (lv' := [(3, _), (2, _), (1, _), (0, _)]) rfl rfl (Nat.le_of_ble_eq_true rfl) rfl ?_
      refine x_iload_n (pc' := 29) rfl rfl rfl ?_
      refine x_bipush (pc' := 31) rfl rfl bipush_m9 ?_
      cases hsk : q_sk (q_t L ℓ) s with
      | none =>
        rw [hsk] at hR
        refine x_icmp_eq (tgt := 36) (pc' := 34) rfl rfl rfl (fun _ => ?_) (fun q => absurd rfl q)
        refine x_aload_n (pc' := 37) rfl rfl rfl ?_
        refine x_iload_n (pc' := 38) rfl rfl rfl ?_
        refine x_cV1i (d := 2) (pc' := 41) rfl rfl sX2_27 gX2_behindStatement (hS.lt) ⟨Nat.le_of_ble_eq_true rfl, Nat.le_of_ble_eq_true rfl⟩ (Nat.le_of_ble_eq_true rfl) ⟨Nat.le_of_ble_eq_true rfl, Nat.le_of_ble_eq_true rfl⟩ ?_
        refine l_beh hS hL hsk ⟨_, rfl, ?_⟩
        have hel := q_ed_lt hL.2.2.2 hsk
        have heg := q_ed_gt (t := q_t L ℓ) (s := s)
        refine x_istore_n (pc' := 42) (lv' := [(1, _), (3, _), (2, _), (0, _)]) rfl rfl (Nat.le_of_ble_eq_true rfl) rfl ?_
        refine x_iinc (pc' := 45) (lv' := [(2, _), (1, _), (3, _), (0, _)]) rfl rfl (Nat.le_of_ble_eq_true rfl) rfl (nI_1 i) rfl ?_
        refine x_goto (tgt := 4) rfl rfl ?_
        refine x_lvp [0, 1, 3] rfl ?_
        exact ih (i + 1) _ (by omega) (by omega) (by omega) (by omega) hR
      | some p =>
        rw [hsk] at hR
        have hp := q_sk_le hsk
        have hR2 : some p = R := hR
        subst hR2
        refine x_icmp_eq (tgt := 36) (pc' := 34) rfl rfl rfl (fun q => absurd q (q_oI_ne (by omega))) (fun _ => ?_)
        refine x_iload_n (pc' := 35) rfl rfl rfl ?_
        exact x_ireturn rfl rfl rfl (Nat.le_of_ble_eq_true rfl) (Nat.le_of_ble_eq_true rfl) (h)
    · rw [q_fa_end hs] at hR
      subst hR
      refine x_iload_n (pc' := 5) rfl rfl rfl ?_
      refine x_if_eq (tgt := 22) (pc' := 8) rfl rfl rfl (fun c5 => absurd c5 ((nI_ne0 (by omega) (by omega)))) (fun _ => ?_)
      refine x_iload_n (pc' := 9) rfl rfl rfl ?_
      refine x_bipush (pc' := 11) rfl rfl bipush_96 ?_
      refine x_icmp_ge (tgt := 48) (pc' := 14) rfl rfl rfl (fun c11 => ?_) (fun c11 => ?_)
      · refine x_bipush (pc' := 50) rfl rfl bipush_m9 ?_
        exact x_ireturn rfl rfl rfl (Nat.le_of_ble_eq_true rfl) (Nat.le_of_ble_eq_true rfl) (h)
      · refine x_iload_n (pc' := 15) rfl rfl rfl ?_
        refine x_aload_n (pc' := 16) rfl rfl rfl ?_
        refine x_get (pc' := 19) rfl rfl rfl (hS.lt) rfl ?_
        refine x_eqi hL.1 ?_
        refine x_icmp_ge (tgt := 48) (pc' := 22) rfl rfl rfl (fun _ => ?_) (fun c19 => absurd ((nI_le (by omega) (by omega))) c19)
        refine x_bipush (pc' := 50) rfl rfl bipush_m9 ?_
        exact x_ireturn rfl rfl rfl (Nat.le_of_ble_eq_true rfl) (Nat.le_of_ble_eq_true rfl) (h)
theorem l_stuckAt (hS : x_Sys z f S) (hL : q_L S L ℓ) (h : post (some (.int (q_oI (q_ff L ℓ)))) f) : Y E 5 mX2_stuckAt [.ref 17] z f 0 0 post := by
  refine Y.intro gX2_stuckAt (lv := [(0, .ref 17)]) rfl (Nat.le_of_ble_eq_true rfl) ?_
  refine x_iconst (pc' := 1) rfl rfl iconst_0 ?_
  refine x_istore_n (pc' := 2) (lv' := [(1, _), (0, _)]) rfl rfl (Nat.le_of_ble_eq_true rfl) rfl ?_
  refine x_iconst (pc' := 3) rfl rfl iconst_0 ?_
  refine x_istore_n (pc' := 4) (lv' := [(2, _), (1, _), (0, _)]) rfl rfl (Nat.le_of_ble_eq_true rfl) rfl ?_
  refine x_iload_n (pc' := 5) rfl rfl rfl ?_
  refine x_if_eq (tgt := 22) (pc' := 8) rfl rfl rfl (fun _ => ?_) (fun c5 => absurd (rfl) c5)
  refine x_aload_n (pc' := 23) rfl rfl rfl ?_
  refine x_iload_n (pc' := 24) rfl rfl rfl ?_
  refine x_cV1i (d := 4) (pc' := 27) rfl rfl sX2_31 gX2_stuckIn (hS.lt) ⟨Nat.le_of_ble_eq_true rfl, Nat.le_of_ble_eq_true rfl⟩ (Nat.le_of_ble_eq_true rfl) ⟨Nat.le_of_ble_eq_true rfl, Nat.le_of_ble_eq_true rfl⟩ ?_
  refine l_stuckIn (s := 0) hS hL (by decide) ⟨_, rfl, ?_⟩
  refine x_istore_n (pc' := 28) (lv' := [(3, _), (2, _), (1, _), (0, _)]) rfl rfl (Nat.le_of_ble_eq_true rfl) rfl ?_
  refine x_iload_n (pc' := 29) rfl rfl rfl ?_
  refine x_bipush (pc' := 31) rfl rfl bipush_m9 ?_
  cases hsk : q_sk (q_t L ℓ) 0 with
  | none =>
    refine x_icmp_eq (tgt := 36) (pc' := 34) rfl rfl rfl (fun _ => ?_) (fun q => absurd rfl q)
    refine x_aload_n (pc' := 37) rfl rfl rfl ?_
    refine x_iload_n (pc' := 38) rfl rfl rfl ?_
    refine x_cV1i (d := 2) (pc' := 41) rfl rfl sX2_27 gX2_behindStatement (hS.lt) ⟨Nat.le_of_ble_eq_true rfl, Nat.le_of_ble_eq_true rfl⟩ (Nat.le_of_ble_eq_true rfl) ⟨Nat.le_of_ble_eq_true rfl, Nat.le_of_ble_eq_true rfl⟩ ?_
    refine l_beh (s := 0) hS hL hsk ⟨_, rfl, ?_⟩
    have hel := q_ed_lt hL.2.2.2 hsk
    have heg := q_ed_gt (t := q_t L ℓ) (s := 0)
    obtain ⟨u1, u2⟩ := q_ff_none hL.2.2.2 hsk
    refine x_istore_n (pc' := 42) (lv' := [(1, _), (3, _), (2, _), (0, _)]) rfl rfl (Nat.le_of_ble_eq_true rfl) rfl ?_
    refine x_iinc (pc' := 45) (lv' := [(2, _), (1, _), (3, _), (0, _)]) rfl rfl (Nat.le_of_ble_eq_true rfl) rfl (nI_1 0) rfl ?_
    refine x_goto (tgt := 4) rfl rfl ?_
    refine x_lvp [0, 1, 3] rfl ?_
    exact l_stL hS hL _ h (L - 1) (0 + 1) _ (by omega) (by omega) (by omega) (by omega) u2.symm
  | some p =>
    rw [q_ff_some hL.2.2.2 hsk] at h
    have hp := q_sk_le hsk
    refine x_icmp_eq (tgt := 36) (pc' := 34) rfl rfl rfl (fun q => absurd q (q_oI_ne (by omega))) (fun _ => ?_)
    refine x_iload_n (pc' := 35) rfl rfl rfl ?_
    exact x_ireturn rfl rfl rfl (Nat.le_of_ble_eq_true rfl) (Nat.le_of_ble_eq_true rfl) (h)
theorem l_plL {S0 : x_S} {v2 : Int32} (hL : q_L S0 L ℓ) (f0 : x_H) (N : Nat) (R : Nat ⊕ (q_G × Nat)) (k1 : ∀ G, R = .inr G → ∀ (f' : x_H) (T' : x_T), c_tb z f' S0 T' G → x_fr (fun q => 59 ≤ q) f0 f' → post (some (.int (nI N))) f') (k0 : ∀ p, R = .inl p → ∀ (f' : x_H) (T' : x_T), c_tx z f' S0 T' → x_fr (fun q => 59 ≤ q) f0 f' → post (some (.int (-2000 - nI p))) f') : ∀ (k c s : Nat) (G : q_G × Nat) (f : x_H) (T : x_T), c ≤ s → s ≤ L → L ≤ s + k → q_fa (q_t L ℓ) L k s = none → q_rn (q_t L ℓ) L k s G = R → c + q_ct (q_t L ℓ) L k s = N → c_tb z f S0 T G → x_fr (fun q => 59 ≤ q) f0 f → X E (x_rm 7 0 0) mX2_playOn (x_QM E z 0 0 post) 22 [(4, .int (nI c)), (3, .int (nI s)), (2, .int v2), (0, .ref 17), (1, .ref 9)] [] z f 0 0 := by
  have l2 := hL.2.1
  intro k
  induction k with
  | zero =>
    intro c s G f T h1 h2 h3 h4 hR hN hC hF
    have hR2 : .inr G = R := hR
    have hN2 : c + 0 = N := hN
    rw [Nat.add_zero] at hN2
    subst hN2
    have hS : x_Sys z f (S0.1, x_ut S0.2.1 2 T, S0.2.2.1, S0.2.2.2) := hC.1
    refine x_iload_n (pc' := 23) rfl rfl rfl ?_
    refine x_aload_n (pc' := 24) rfl rfl rfl ?_
    refine x_get (pc' := 27) rfl rfl rfl (hS.lt) rfl ?_
    refine x_eqi hL.1 ?_
    refine x_icmp_ge (tgt := 64) (pc' := 30) rfl rfl rfl (fun _ => ?_) (fun c27 => absurd ((nI_le (by omega) (by omega))) c27)
    refine x_iload (pc' := 66) rfl rfl rfl ?_
    exact x_ireturn rfl rfl rfl (Nat.le_of_ble_eq_true rfl) (Nat.le_of_ble_eq_true rfl) (k1 G hR2.symm _ _ hC hF)
  | succ k ih =>
    intro c s G f T h1 h2 h3 h4 hR hN hC hF
    have hS : x_Sys z f (S0.1, x_ut S0.2.1 2 T, S0.2.2.1, S0.2.2.2) := hC.1
    by_cases hs : s < L
    · obtain ⟨hsk, h5⟩ := q_fa_go hs h4
      unfold q_rn at hR
      rw [if_pos hs] at hR
      unfold q_ct at hN
      rw [if_pos hs] at hN
      have hel := q_ed_lt hL.2.2.2 hsk
      have heg := q_ed_gt (t := q_t L ℓ) (s := s)
      refine x_iload_n (pc' := 23) rfl rfl rfl ?_
      refine x_aload_n (pc' := 24) rfl rfl rfl ?_
      refine x_get (pc' := 27) rfl rfl rfl (hS.lt) rfl ?_
      refine x_eqi hL.1 ?_
      refine x_icmp_ge (tgt := 64) (pc' := 30) rfl rfl rfl (fun c27 => absurd c27 ((nI_ge hs (by omega)))) (fun _ => ?_)
      refine x_iload (pc' := 32) rfl rfl rfl ?_
      refine x_bipush (pc' := 34) rfl rfl bipush_96 ?_
      refine x_icmp_ge (tgt := 64) (pc' := 37) rfl rfl rfl (fun c34 => absurd c34 ((nI_ge (a := c) (b := 96) (by omega) (by decide)))) (fun _ => ?_)
      refine x_aload_n (pc' := 38) rfl rfl rfl ?_
      refine x_iload_n (pc' := 39) rfl rfl rfl ?_
      refine x_aload_n (pc' := 40) rfl rfl rfl ?_
      refine x_cV2i (d := 6) (pc' := 43) rfl rfl sX2_23 gX2_apply (hS.lt) ⟨Nat.le_of_ble_eq_true rfl, Nat.le_of_ble_eq_true rfl⟩ (Nat.le_of_ble_eq_true rfl) ⟨Nat.le_of_ble_eq_true rfl, Nat.le_of_ble_eq_true rfl⟩ ?_
      refine l_apply hC hL hs hsk (fun G' e9 f9 T9 hC9 hF9 => ⟨_, rfl, ?_⟩) (fun e9 f9 T9 hX9 hF9 => ⟨_, rfl, ?_⟩)
      · rw [e9] at hR
        have hS9 : x_Sys z f9 (S0.1, x_ut S0.2.1 2 T9, S0.2.2.1, S0.2.2.2) := hC9.1
        refine x_if_ne (tgt := 52) (pc' := 46) rfl rfl rfl (fun _ => ?_) (fun c43 => absurd c43 ((by decide)))
        refine x_aload_n (pc' := 53) rfl rfl rfl ?_
        refine x_iload_n (pc' := 54) rfl rfl rfl ?_
        refine x_cV1i (d := 2) (pc' := 57) rfl rfl sX2_27 gX2_behindStatement (hS9.lt) ⟨Nat.le_of_ble_eq_true rfl, Nat.le_of_ble_eq_true rfl⟩ (Nat.le_of_ble_eq_true rfl) ⟨Nat.le_of_ble_eq_true rfl, Nat.le_of_ble_eq_true rfl⟩ ?_
        refine l_beh hS9 hL hsk ⟨_, rfl, ?_⟩
        refine x_istore_n (pc' := 58) (lv' := [(3, _), (4, _), (2, _), (0, _), (1, _)]) rfl rfl (Nat.le_of_ble_eq_true rfl) rfl ?_
        refine x_iinc (pc' := 61) (lv' := [(4, _), (3, _), (2, _), (0, _), (1, _)]) rfl rfl (Nat.le_of_ble_eq_true rfl) rfl (nI_1 c) rfl ?_
        refine x_goto (tgt := 22) rfl rfl ?_
        exact ih (c + 1) _ G' f9 T9 (by omega) (by omega) (by omega) h5 hR (by omega) hC9 (hF.trans hF9)
      · rw [e9] at hR
        refine x_if_ne (tgt := 52) (pc' := 46) rfl rfl rfl (fun c43 => absurd (rfl) c43) (fun _ => ?_)
        refine x_sipush (pc' := 49) rfl rfl sipush_m2000 ?_
        refine x_iload_n (pc' := 50) rfl rfl rfl ?_
        refine x_isub (pc' := 51) rfl rfl ?_
        exact x_ireturn rfl rfl rfl (Nat.le_of_ble_eq_true rfl) (Nat.le_of_ble_eq_true rfl) (k0 s hR.symm _ _ hX9 (hF.trans hF9))
    · rw [q_rn_end hs] at hR
      rw [q_ct_end hs, Nat.add_zero] at hN
      subst hN
      refine x_iload_n (pc' := 23) rfl rfl rfl ?_
      refine x_aload_n (pc' := 24) rfl rfl rfl ?_
      refine x_get (pc' := 27) rfl rfl rfl (hS.lt) rfl ?_
      refine x_eqi hL.1 ?_
      refine x_icmp_ge (tgt := 64) (pc' := 30) rfl rfl rfl (fun _ => ?_) (fun c27 => absurd ((nI_le (by omega) (by omega))) c27)
      refine x_iload (pc' := 66) rfl rfl rfl ?_
      exact x_ireturn rfl rfl rfl (Nat.le_of_ble_eq_true rfl) (Nat.le_of_ble_eq_true rfl) (k1 G hR.symm _ _ hC hF)
theorem l_playOn {S0 : x_S} {G : q_G × Nat} (hC : c_tb z f S0 T G) (hL : q_L S0 L ℓ) (h1 : ∀ p, q_ff L ℓ = some p → post (some (.int (-1000 - nI p))) f) (k1 : ∀ G', q_ff L ℓ = none → q_rn (q_t L ℓ) L L 0 G = .inr G' → ∀ (f' : x_H) (T' : x_T), c_tb z f' S0 T' G' → x_fr (fun q => 59 ≤ q) f f' → post (some (.int (nI (q_ct (q_t L ℓ) L L 0)))) f') (k0 : ∀ p, q_ff L ℓ = none → q_rn (q_t L ℓ) L L 0 G = .inl p → ∀ (f' : x_H) (T' : x_T), c_tx z f' S0 T' → x_fr (fun q => 59 ≤ q) f f' → post (some (.int (-2000 - nI p))) f') : Y E 7 mX2_playOn [.ref 17, .ref 9] z f 0 0 post := by
  refine Y.intro gX2_playOn (lv := [(0, .ref 17), (1, .ref 9)]) rfl (Nat.le_of_ble_eq_true rfl) ?_
  have hS : x_Sys z f (S0.1, x_ut S0.2.1 2 T, S0.2.2.1, S0.2.2.2) := hC.1
  have hL' : q_L (S0.1, x_ut S0.2.1 2 T, S0.2.2.1, S0.2.2.2) L ℓ := hL
  have l2 := hL.2.1
  refine x_aload_n (pc' := 1) rfl rfl rfl ?_
  refine x_cV0i (d := 5) (pc' := 4) rfl rfl sX2_19 gX2_stuckAt (hS.lt) ⟨Nat.le_of_ble_eq_true rfl, Nat.le_of_ble_eq_true rfl⟩ (Nat.le_of_ble_eq_true rfl) ⟨Nat.le_of_ble_eq_true rfl, Nat.le_of_ble_eq_true rfl⟩ ?_
  refine l_stuckAt hS hL' ⟨_, rfl, ?_⟩
  refine x_istore_n (pc' := 5) (lv' := [(2, _), (0, _), (1, _)]) rfl rfl (Nat.le_of_ble_eq_true rfl) rfl ?_
  refine x_iload_n (pc' := 6) rfl rfl rfl ?_
  refine x_bipush (pc' := 8) rfl rfl bipush_m9 ?_
  cases hff : q_ff L ℓ with
  | none =>
    refine x_icmp_eq (tgt := 17) (pc' := 11) rfl rfl rfl (fun _ => ?_) (fun q => absurd rfl q)
    refine x_iconst (pc' := 18) rfl rfl iconst_0 ?_
    refine x_istore_n (pc' := 19) (lv' := [(3, _), (2, _), (0, _), (1, _)]) rfl rfl (Nat.le_of_ble_eq_true rfl) rfl ?_
    refine x_iconst (pc' := 20) rfl rfl iconst_0 ?_
    refine x_istore (pc' := 22) (lv' := [(4, _), (3, _), (2, _), (0, _), (1, _)]) rfl rfl (Nat.le_of_ble_eq_true rfl) rfl ?_
    have hL0 : ¬ L = 0 := fun q => by unfold q_ff at hff; rw [if_pos q] at hff; cases hff
    have hfa : q_fa (q_t L ℓ) L L 0 = none := by
      unfold q_ff at hff
      rw [if_neg hL0] at hff
      exact hff
    exact l_plL hL f _ _ (fun G' e => k1 G' hff e) (fun p e => k0 p hff e) L 0 0 G f T (Nat.le_refl _) (Nat.zero_le _) (by omega) hfa rfl (Nat.zero_add _) hC x_fr.rf
  | some p =>
    have hp := q_ff_le hL.2.2.2 hff
    refine x_icmp_eq (tgt := 17) (pc' := 11) rfl rfl rfl (fun q => absurd q (q_oI_ne (by omega))) (fun _ => ?_)
    refine x_sipush (pc' := 14) rfl rfl sipush_m1000 ?_
    refine x_iload_n (pc' := 15) rfl rfl rfl ?_
    refine x_isub (pc' := 16) rfl rfl ?_
    exact x_ireturn rfl rfl rfl (Nat.le_of_ble_eq_true rfl) (Nat.le_of_ble_eq_true rfl) (h1 p hff)
theorem c_game (hS : x_Sys z f S) (hA : c_is S A) (ho : a_ok A) (h : c_ends z f post (s_game A)) : Y E 9 mX5_game [.ref 0] z f 0 0 post := by
  refine Y.intro gX5_game (lv := [(0, .ref 0)]) rfl (Nat.le_of_ble_eq_true rfl) ?_
  obtain ⟨b1, b2, b3, b4, b5, b6, b7, b8⟩ := id hA
  have hT := hS.2.1 0 (by decide)
  have hL : q_L S (a_lc A) (a_lf A) := ⟨b4, ho.2.2.2.1, b5, ho.2.2.2.2.1⟩
  have hlc := ho.2.2.2.1
  unfold s_game at h
  refine x_aload_n (pc' := 1) rfl rfl rfl ?_
  refine x_get (pc' := 4) rfl rfl rfl (hS.1) rfl ?_
  refine x_aload_n (pc' := 5) rfl rfl rfl ?_
  refine x_get (pc' := 8) rfl rfl rfl (hS.1) rfl ?_
  refine x_cV1v (d := 1) (pc' := 11) rfl rfl sX5_79 gX3_copyFrom ((hS.2.1 2 (by decide)).1) ⟨Nat.le_of_ble_eq_true rfl, Nat.le_of_ble_eq_true rfl⟩ (Nat.le_of_ble_eq_true rfl) ⟨Nat.le_of_ble_eq_true rfl, Nat.le_of_ble_eq_true rfl⟩ ?_
  refine w_copyFrom (hS.2.1 2 (by decide)) hT (by decide) (fun f1 hT1 hF1 => ⟨rfl, ?_⟩)
  have hS1 := hS.tab 2 (by decide) hT1 hF1
  have hC1 : c_tb z f1 S (x_cp (S.2.1 2) (S.2.1 0)) A.1 := ⟨hS1, x_cp_is b1, b2, ho.1, ho.2.1⟩
  have hF1' : x_fr (fun q => 59 ≤ q) f f1 := c_fr0 (j := 2) (by decide) hF1
  refine x_aload_n (pc' := 12) rfl rfl rfl ?_
  refine x_get (pc' := 15) rfl rfl rfl (hS1.1) rfl ?_
  refine x_aload_n (pc' := 16) rfl rfl rfl ?_
  refine x_get (pc' := 19) rfl rfl rfl (hS1.1) rfl ?_
  refine x_cV1i (d := 7) (pc' := 22) rfl rfl sX5_83 gX2_playOn (hS1.lt) ⟨Nat.le_of_ble_eq_true rfl, Nat.le_of_ble_eq_true rfl⟩ (Nat.le_of_ble_eq_true rfl) ⟨Nat.le_of_ble_eq_true rfl, Nat.le_of_ble_eq_true rfl⟩ ?_
  refine l_playOn hC1 hL (fun p hff => ⟨_, rfl, ?_⟩) (fun G' hff hrn f2 T2 hC2 hF2 => ⟨_, rfl, ?_⟩) (fun p hff hrn f2 T2 hX2 hF2 => ⟨_, rfl, ?_⟩)
  · rw [hff] at h
    have hp := q_ff_le hL.2.2.2 hff
    have hng := q_neg1 p (by omega)
    refine x_istore_n (pc' := 23) (lv' := [(1, _), (0, _)]) rfl rfl (Nat.le_of_ble_eq_true rfl) rfl ?_
    refine x_aload_n (pc' := 24) rfl rfl rfl ?_
    refine x_get (pc' := 27) rfl rfl rfl (hS1.1) rfl ?_
    refine x_cV0v (d := 1) (pc' := 30) rfl rfl sX5_87 gX2_clear (hS1.lt) ⟨Nat.le_of_ble_eq_true rfl, Nat.le_of_ble_eq_true rfl⟩ (Nat.le_of_ble_eq_true rfl) ⟨Nat.le_of_ble_eq_true rfl, Nat.le_of_ble_eq_true rfl⟩ ?_
    refine w_clear hS1 (fun f3 hS3 hF3 => ⟨rfl, ?_⟩)
    refine x_iload_n (pc' := 31) rfl rfl rfl ?_
    refine x_if_lt (tgt := 45) (pc' := 34) rfl rfl rfl (fun _ => ?_) (fun c31 => absurd (hng) c31)
    refine x_iload_n (pc' := 46) rfl rfl rfl ?_
    exact x_ireturn rfl rfl rfl (Nat.le_of_ble_eq_true rfl) (Nat.le_of_ble_eq_true rfl) (h _ _ hS3 ⟨b1, b2, b3, rfl, b5, b6, b7, b8⟩ (hF1'.trans hF3))
  · rw [hff, hrn] at h
    have hct := q_ct_le (t := q_t (a_lc A) (a_lf A)) (L := a_lc A) (a_lc A) 0
    have hS2 : x_Sys z f2 (S.1, x_ut S.2.1 2 T2, S.2.2.1, S.2.2.2) := hC2.1
    refine x_istore_n (pc' := 23) (lv' := [(1, _), (0, _)]) rfl rfl (Nat.le_of_ble_eq_true rfl) rfl ?_
    refine x_aload_n (pc' := 24) rfl rfl rfl ?_
    refine x_get (pc' := 27) rfl rfl rfl (hS2.1) rfl ?_
    refine x_cV0v (d := 1) (pc' := 30) rfl rfl sX5_87 gX2_clear (hS2.lt) ⟨Nat.le_of_ble_eq_true rfl, Nat.le_of_ble_eq_true rfl⟩ (Nat.le_of_ble_eq_true rfl) ⟨Nat.le_of_ble_eq_true rfl, Nat.le_of_ble_eq_true rfl⟩ ?_
    refine w_clear hS2 (fun f3 hS3 hF3 => ⟨rfl, ?_⟩)
    have hT3 : x_t z f3 9 T2 := hS3.2.1 2 (by decide)
    have hT03 : x_t z f3 1 (S.2.1 0) := hS3.2.1 0 (by decide)
    refine x_iload_n (pc' := 31) rfl rfl rfl ?_
    refine x_if_lt (tgt := 45) (pc' := 34) rfl rfl rfl (fun c31 => absurd c31 (nI_pos (by omega))) (fun _ => ?_)
    refine x_aload_n (pc' := 35) rfl rfl rfl ?_
    refine x_get (pc' := 38) rfl rfl rfl (hS3.1) rfl ?_
    refine x_aload_n (pc' := 39) rfl rfl rfl ?_
    refine x_get (pc' := 42) rfl rfl rfl (hS3.1) rfl ?_
    refine x_cV1v (d := 1) (pc' := 45) rfl rfl sX5_79 gX3_copyFrom (hT03.1) ⟨Nat.le_of_ble_eq_true rfl, Nat.le_of_ble_eq_true rfl⟩ (Nat.le_of_ble_eq_true rfl) ⟨Nat.le_of_ble_eq_true rfl, Nat.le_of_ble_eq_true rfl⟩ ?_
    refine w_copyFrom hT03 hT3 (by decide) (fun f4 hT4 hF4 => ⟨rfl, ?_⟩)
    have hS4 := hS3.tab 0 (by decide) hT4 hF4
    refine x_iload_n (pc' := 46) rfl rfl rfl ?_
    exact x_ireturn rfl rfl rfl (Nat.le_of_ble_eq_true rfl) (Nat.le_of_ble_eq_true rfl) (h _ _ hS4 ⟨x_cp_is hC2.2.1, hC2.2.2.1, b3, rfl, b5, b6, b7, b8⟩ (((hF1'.trans hF2).trans hF3).trans (c_fr0 (j := 0) (by decide) hF4)))
  · rw [hff, hrn] at h
    have hp := q_rn_le (t := q_t (a_lc A) (a_lf A)) _ _ _ _ hrn
    have hng := q_neg2 p (by omega)
    have hS2 : x_Sys z f2 (S.1, x_ut S.2.1 2 T2, S.2.2.1, S.2.2.2) := hX2
    refine x_istore_n (pc' := 23) (lv' := [(1, _), (0, _)]) rfl rfl (Nat.le_of_ble_eq_true rfl) rfl ?_
    refine x_aload_n (pc' := 24) rfl rfl rfl ?_
    refine x_get (pc' := 27) rfl rfl rfl (hS2.1) rfl ?_
    refine x_cV0v (d := 1) (pc' := 30) rfl rfl sX5_87 gX2_clear (hS2.lt) ⟨Nat.le_of_ble_eq_true rfl, Nat.le_of_ble_eq_true rfl⟩ (Nat.le_of_ble_eq_true rfl) ⟨Nat.le_of_ble_eq_true rfl, Nat.le_of_ble_eq_true rfl⟩ ?_
    refine w_clear hS2 (fun f3 hS3 hF3 => ⟨rfl, ?_⟩)
    refine x_iload_n (pc' := 31) rfl rfl rfl ?_
    refine x_if_lt (tgt := 45) (pc' := 34) rfl rfl rfl (fun _ => ?_) (fun c31 => absurd (hng) c31)
    refine x_iload_n (pc' := 46) rfl rfl rfl ?_
    exact x_ireturn rfl rfl rfl (Nat.le_of_ble_eq_true rfl) (Nat.le_of_ble_eq_true rfl) (h _ _ hS3 ⟨b1, b2, b3, rfl, b5, b6, b7, b8⟩ ((hF1'.trans hF2).trans hF3))
end GD
end
section
-- == 63.gameR
/-! The reference reads letters. -/
/-- the letters that the reference holds -/
def q_M (M : x_N) (L : Nat) (ℓ : Nat → Nat) : Prop := M.1 11 = nI L ∧ L ≤ 96 ∧ M.2.1 4 = (fun i => nI (ℓ i)) ∧ ∀ i, ℓ i ≤ 255
section GR
variable {E : x_E} {z : Nat} {f : x_H} {M : x_N} {A : q_A} {post : Option Value → x_H → Prop} {L : Nat} {ℓ : Nat → Nat} {g : q_G} {m : Nat}
theorem m_lAt {p : Nat} (hM : x_Mdl z f M) (hL : q_M M L ℓ) (hp : p < 2 ^ 31) (h : post (some (.int (q_cI (q_t L ℓ p)))) f) : Y E 1 mX6_letterAt [.ref 59, .int (nI p)] z f 0 0 post := by
  refine Y.intro gX6_letterAt (lv := [(0, .ref 59), (1, .int (nI p))]) rfl (Nat.le_of_ble_eq_true rfl) ?_
  obtain ⟨l1, l2, l3, l4⟩ := hL
  have hl := l4 p
  by_cases d : p < L
  · have e : q_cI (q_t L ℓ p) = nI (ℓ p) := by
      unfold q_t
      rw [if_pos d, q_cI_ne (by omega)]
    rw [e] at h
    refine x_iload_n (pc' := 1) rfl rfl rfl ?_
    refine x_aload_n (pc' := 2) rfl rfl rfl ?_
    refine x_get (pc' := 5) rfl rfl rfl (hM.1) rfl ?_
    refine x_eqi l1 ?_
    refine x_icmp_ge (tgt := 17) (pc' := 8) rfl rfl rfl (fun c5 => absurd c5 ((nI_ge d (by omega)))) (fun _ => ?_)
    refine x_aload_n (pc' := 9) rfl rfl rfl ?_
    refine x_get (pc' := 12) rfl rfl rfl (hM.1) rfl ?_
    refine x_iload_n (pc' := 13) rfl rfl rfl ?_
    refine x_iaload (pc' := 14) rfl rfl (hM.2.1 4 (by decide)) (vp_in_nI (n := p) (N := 96) (by omega) (by decide)) ?_
    refine x_eqi (show M.2.1 4 (nI p).toNatClampNeg = nI (ℓ p) from by rw [nI_clamp hp, l3]) ?_
    refine x_goto (tgt := 18) rfl rfl ?_
    exact x_ireturn rfl rfl rfl (Nat.le_of_ble_eq_true rfl) (Nat.le_of_ble_eq_true rfl) (h)
  · have e : q_cI (q_t L ℓ p) = -1 := by
      unfold q_t
      rw [if_neg d]
      rfl
    rw [e] at h
    refine x_iload_n (pc' := 1) rfl rfl rfl ?_
    refine x_aload_n (pc' := 2) rfl rfl rfl ?_
    refine x_get (pc' := 5) rfl rfl rfl (hM.1) rfl ?_
    refine x_eqi l1 ?_
    refine x_icmp_ge (tgt := 17) (pc' := 8) rfl rfl rfl (fun _ => ?_) (fun c5 => absurd ((nI_le (by omega) hp)) c5)
    refine x_iconst (pc' := 18) rfl rfl iconst_m1 ?_
    exact x_ireturn rfl rfl rfl (Nat.le_of_ble_eq_true rfl) (Nat.le_of_ble_eq_true rfl) (h)
theorem m_isD {c : Nat} (hc : c ≤ 256) (h1 : q_dg c → post (some (.int 1)) f) (h0 : ¬ q_dg c → post (some (.int 0)) f) : Y E 1 mX6_isDigit [.int (q_cI c)] z f 0 0 post := by
  refine Y.intro gX6_isDigit (lv := [(0, .int (q_cI c))]) rfl (Nat.le_of_ble_eq_true rfl) ?_
  by_cases d1 : 48 ≤ c ∧ ¬ c = 256
  · by_cases d2 : c ≤ 57
    ·
      refine x_iload_n (pc' := 1) rfl rfl rfl ?_
      refine x_bipush (pc' := 3) rfl rfl bipush_48 ?_
      refine x_icmp_lt (tgt := 16) (pc' := 6) rfl rfl rfl (fun c3 => absurd c3 ((fun q => absurd ((q_cI_lt (k := 48) hc (by decide)).mp q) (by omega)))) (fun _ => ?_)
      refine x_iload_n (pc' := 7) rfl rfl rfl ?_
      refine x_bipush (pc' := 9) rfl rfl bipush_57 ?_
      refine x_icmp_gt (tgt := 16) (pc' := 12) rfl rfl rfl (fun c9 => absurd c9 ((fun q => absurd ((q_cI_gt (k := 57) hc (by decide)).mp q) (by omega)))) (fun _ => ?_)
      refine x_iconst (pc' := 13) rfl rfl iconst_1 ?_
      refine x_goto (tgt := 17) rfl rfl ?_
      exact x_ireturn rfl rfl rfl (Nat.le_of_ble_eq_true rfl) (Nat.le_of_ble_eq_true rfl) (h1 ⟨d1.1, d2⟩)
    ·
      refine x_iload_n (pc' := 1) rfl rfl rfl ?_
      refine x_bipush (pc' := 3) rfl rfl bipush_48 ?_
      refine x_icmp_lt (tgt := 16) (pc' := 6) rfl rfl rfl (fun c3 => absurd c3 ((fun q => absurd ((q_cI_lt (k := 48) hc (by decide)).mp q) (by omega)))) (fun _ => ?_)
      refine x_iload_n (pc' := 7) rfl rfl rfl ?_
      refine x_bipush (pc' := 9) rfl rfl bipush_57 ?_
      refine x_icmp_gt (tgt := 16) (pc' := 12) rfl rfl rfl (fun _ => ?_) (fun c9 => absurd (((q_cI_gt (k := 57) hc (by decide)).mpr ⟨d1.2, by omega⟩)) c9)
      refine x_iconst (pc' := 17) rfl rfl iconst_0 ?_
      exact x_ireturn rfl rfl rfl (Nat.le_of_ble_eq_true rfl) (Nat.le_of_ble_eq_true rfl) (h0 (fun q => d2 q.2))
  ·
    refine x_iload_n (pc' := 1) rfl rfl rfl ?_
    refine x_bipush (pc' := 3) rfl rfl bipush_48 ?_
    refine x_icmp_lt (tgt := 16) (pc' := 6) rfl rfl rfl (fun _ => ?_) (fun c3 => absurd (((q_cI_lt (k := 48) hc (by decide)).mpr (by omega))) c3)
    refine x_iconst (pc' := 17) rfl rfl iconst_0 ?_
    exact x_ireturn rfl rfl rfl (Nat.le_of_ble_eq_true rfl) (Nat.le_of_ble_eq_true rfl) (h0 (fun q => d1 ⟨q.1, by have := q.2; omega⟩))
theorem m_kindO {c : Nat} (hc : c ≤ 256) (h : post (some (.int (if q_kd c = 9 then -1 else nI (q_kd c)))) f) : Y E 1 mX6_kindOf [.int (q_cI c)] z f 0 0 post := by
  refine Y.intro gX6_kindOf (lv := [(0, .int (q_cI c))]) rfl (Nat.le_of_ble_eq_true rfl) ?_
  by_cases d0 : c = 111
  · subst d0
    refine x_iload_n (pc' := 1) rfl rfl rfl ?_
    refine x_bipush (pc' := 3) rfl rfl bipush_111 ?_
    refine x_icmp_ne (tgt := 10) (pc' := 6) rfl rfl rfl (fun c3 => absurd ((by decide)) c3) (fun _ => ?_)
    refine x_iconst (pc' := 7) rfl rfl iconst_0 ?_
    refine x_goto (tgt := 61) rfl rfl ?_
    exact x_ireturn rfl rfl rfl (Nat.le_of_ble_eq_true rfl) (Nat.le_of_ble_eq_true rfl) (h)
  by_cases d1 : c = 104
  · subst d1
    refine x_iload_n (pc' := 1) rfl rfl rfl ?_
    refine x_bipush (pc' := 3) rfl rfl bipush_111 ?_
    refine x_icmp_ne (tgt := 10) (pc' := 6) rfl rfl rfl (fun _ => ?_) (fun c3 => absurd c3 ((by decide)))
    refine x_iload_n (pc' := 11) rfl rfl rfl ?_
    refine x_bipush (pc' := 13) rfl rfl bipush_104 ?_
    refine x_icmp_ne (tgt := 20) (pc' := 16) rfl rfl rfl (fun c13 => absurd ((by decide)) c13) (fun _ => ?_)
    refine x_iconst (pc' := 17) rfl rfl iconst_1 ?_
    refine x_goto (tgt := 61) rfl rfl ?_
    exact x_ireturn rfl rfl rfl (Nat.le_of_ble_eq_true rfl) (Nat.le_of_ble_eq_true rfl) (h)
  by_cases d2 : c = 100
  · subst d2
    refine x_iload_n (pc' := 1) rfl rfl rfl ?_
    refine x_bipush (pc' := 3) rfl rfl bipush_111 ?_
    refine x_icmp_ne (tgt := 10) (pc' := 6) rfl rfl rfl (fun _ => ?_) (fun c3 => absurd c3 ((by decide)))
    refine x_iload_n (pc' := 11) rfl rfl rfl ?_
    refine x_bipush (pc' := 13) rfl rfl bipush_104 ?_
    refine x_icmp_ne (tgt := 20) (pc' := 16) rfl rfl rfl (fun _ => ?_) (fun c13 => absurd c13 ((by decide)))
    refine x_iload_n (pc' := 21) rfl rfl rfl ?_
    refine x_bipush (pc' := 23) rfl rfl bipush_100 ?_
    refine x_icmp_ne (tgt := 30) (pc' := 26) rfl rfl rfl (fun c23 => absurd ((by decide)) c23) (fun _ => ?_)
    refine x_iconst (pc' := 27) rfl rfl iconst_2 ?_
    refine x_goto (tgt := 61) rfl rfl ?_
    exact x_ireturn rfl rfl rfl (Nat.le_of_ble_eq_true rfl) (Nat.le_of_ble_eq_true rfl) (h)
  by_cases d3 : c = 119
  · subst d3
    refine x_iload_n (pc' := 1) rfl rfl rfl ?_
    refine x_bipush (pc' := 3) rfl rfl bipush_111 ?_
    refine x_icmp_ne (tgt := 10) (pc' := 6) rfl rfl rfl (fun _ => ?_) (fun c3 => absurd c3 ((by decide)))
    refine x_iload_n (pc' := 11) rfl rfl rfl ?_
    refine x_bipush (pc' := 13) rfl rfl bipush_104 ?_
    refine x_icmp_ne (tgt := 20) (pc' := 16) rfl rfl rfl (fun _ => ?_) (fun c13 => absurd c13 ((by decide)))
    refine x_iload_n (pc' := 21) rfl rfl rfl ?_
    refine x_bipush (pc' := 23) rfl rfl bipush_100 ?_
    refine x_icmp_ne (tgt := 30) (pc' := 26) rfl rfl rfl (fun _ => ?_) (fun c23 => absurd c23 ((by decide)))
    refine x_iload_n (pc' := 31) rfl rfl rfl ?_
    refine x_bipush (pc' := 33) rfl rfl bipush_119 ?_
    refine x_icmp_ne (tgt := 40) (pc' := 36) rfl rfl rfl (fun c33 => absurd ((by decide)) c33) (fun _ => ?_)
    refine x_iconst (pc' := 37) rfl rfl iconst_3 ?_
    refine x_goto (tgt := 61) rfl rfl ?_
    exact x_ireturn rfl rfl rfl (Nat.le_of_ble_eq_true rfl) (Nat.le_of_ble_eq_true rfl) (h)
  by_cases d4 : c = 110
  · subst d4
    refine x_iload_n (pc' := 1) rfl rfl rfl ?_
    refine x_bipush (pc' := 3) rfl rfl bipush_111 ?_
    refine x_icmp_ne (tgt := 10) (pc' := 6) rfl rfl rfl (fun _ => ?_) (fun c3 => absurd c3 ((by decide)))
    refine x_iload_n (pc' := 11) rfl rfl rfl ?_
    refine x_bipush (pc' := 13) rfl rfl bipush_104 ?_
    refine x_icmp_ne (tgt := 20) (pc' := 16) rfl rfl rfl (fun _ => ?_) (fun c13 => absurd c13 ((by decide)))
    refine x_iload_n (pc' := 21) rfl rfl rfl ?_
    refine x_bipush (pc' := 23) rfl rfl bipush_100 ?_
    refine x_icmp_ne (tgt := 30) (pc' := 26) rfl rfl rfl (fun _ => ?_) (fun c23 => absurd c23 ((by decide)))
    refine x_iload_n (pc' := 31) rfl rfl rfl ?_
    refine x_bipush (pc' := 33) rfl rfl bipush_119 ?_
    refine x_icmp_ne (tgt := 40) (pc' := 36) rfl rfl rfl (fun _ => ?_) (fun c33 => absurd c33 ((by decide)))
    refine x_iload_n (pc' := 41) rfl rfl rfl ?_
    refine x_bipush (pc' := 43) rfl rfl bipush_110 ?_
    refine x_icmp_ne (tgt := 50) (pc' := 46) rfl rfl rfl (fun c43 => absurd ((by decide)) c43) (fun _ => ?_)
    refine x_iconst (pc' := 47) rfl rfl iconst_4 ?_
    refine x_goto (tgt := 61) rfl rfl ?_
    exact x_ireturn rfl rfl rfl (Nat.le_of_ble_eq_true rfl) (Nat.le_of_ble_eq_true rfl) (h)
  by_cases d5 : c = 113
  · subst d5
    refine x_iload_n (pc' := 1) rfl rfl rfl ?_
    refine x_bipush (pc' := 3) rfl rfl bipush_111 ?_
    refine x_icmp_ne (tgt := 10) (pc' := 6) rfl rfl rfl (fun _ => ?_) (fun c3 => absurd c3 ((by decide)))
    refine x_iload_n (pc' := 11) rfl rfl rfl ?_
    refine x_bipush (pc' := 13) rfl rfl bipush_104 ?_
    refine x_icmp_ne (tgt := 20) (pc' := 16) rfl rfl rfl (fun _ => ?_) (fun c13 => absurd c13 ((by decide)))
    refine x_iload_n (pc' := 21) rfl rfl rfl ?_
    refine x_bipush (pc' := 23) rfl rfl bipush_100 ?_
    refine x_icmp_ne (tgt := 30) (pc' := 26) rfl rfl rfl (fun _ => ?_) (fun c23 => absurd c23 ((by decide)))
    refine x_iload_n (pc' := 31) rfl rfl rfl ?_
    refine x_bipush (pc' := 33) rfl rfl bipush_119 ?_
    refine x_icmp_ne (tgt := 40) (pc' := 36) rfl rfl rfl (fun _ => ?_) (fun c33 => absurd c33 ((by decide)))
    refine x_iload_n (pc' := 41) rfl rfl rfl ?_
    refine x_bipush (pc' := 43) rfl rfl bipush_110 ?_
    refine x_icmp_ne (tgt := 50) (pc' := 46) rfl rfl rfl (fun _ => ?_) (fun c43 => absurd c43 ((by decide)))
    refine x_iload_n (pc' := 51) rfl rfl rfl ?_
    refine x_bipush (pc' := 53) rfl rfl bipush_113 ?_
    refine x_icmp_ne (tgt := 60) (pc' := 56) rfl rfl rfl (fun c53 => absurd ((by decide)) c53) (fun _ => ?_)
    refine x_iconst (pc' := 57) rfl rfl iconst_5 ?_
    refine x_goto (tgt := 61) rfl rfl ?_
    exact x_ireturn rfl rfl rfl (Nat.le_of_ble_eq_true rfl) (Nat.le_of_ble_eq_true rfl) (h)
  have e : q_kd c = 9 := by
    unfold q_kd
    rw [if_neg d0, if_neg d1, if_neg d2, if_neg d3, if_neg d4, if_neg d5]
  rw [if_pos e] at h
  refine x_iload_n (pc' := 1) rfl rfl rfl ?_
  refine x_bipush (pc' := 3) rfl rfl bipush_111 ?_
  refine x_icmp_ne (tgt := 10) (pc' := 6) rfl rfl rfl (fun _ => ?_) (fun c3 => absurd c3 ((fun q => d0 ((q_cI_eq (k := 111) hc (by decide)).mp q))))
  refine x_iload_n (pc' := 11) rfl rfl rfl ?_
  refine x_bipush (pc' := 13) rfl rfl bipush_104 ?_
  refine x_icmp_ne (tgt := 20) (pc' := 16) rfl rfl rfl (fun _ => ?_) (fun c13 => absurd c13 ((fun q => d1 ((q_cI_eq (k := 104) hc (by decide)).mp q))))
  refine x_iload_n (pc' := 21) rfl rfl rfl ?_
  refine x_bipush (pc' := 23) rfl rfl bipush_100 ?_
  refine x_icmp_ne (tgt := 30) (pc' := 26) rfl rfl rfl (fun _ => ?_) (fun c23 => absurd c23 ((fun q => d2 ((q_cI_eq (k := 100) hc (by decide)).mp q))))
  refine x_iload_n (pc' := 31) rfl rfl rfl ?_
  refine x_bipush (pc' := 33) rfl rfl bipush_119 ?_
  refine x_icmp_ne (tgt := 40) (pc' := 36) rfl rfl rfl (fun _ => ?_) (fun c33 => absurd c33 ((fun q => d3 ((q_cI_eq (k := 119) hc (by decide)).mp q))))
  refine x_iload_n (pc' := 41) rfl rfl rfl ?_
  refine x_bipush (pc' := 43) rfl rfl bipush_110 ?_
  refine x_icmp_ne (tgt := 50) (pc' := 46) rfl rfl rfl (fun _ => ?_) (fun c43 => absurd c43 ((fun q => d4 ((q_cI_eq (k := 110) hc (by decide)).mp q))))
  refine x_iload_n (pc' := 51) rfl rfl rfl ?_
  refine x_bipush (pc' := 53) rfl rfl bipush_113 ?_
  refine x_icmp_ne (tgt := 60) (pc' := 56) rfl rfl rfl (fun _ => ?_) (fun c53 => absurd c53 ((fun q => d5 ((q_cI_eq (k := 113) hc (by decide)).mp q))))
  refine x_iconst (pc' := 61) rfl rfl iconst_m1 ?_
  exact x_ireturn rfl rfl rfl (Nat.le_of_ble_eq_true rfl) (Nat.le_of_ble_eq_true rfl) (h)
theorem m_digsL {p n : Nat} (hM : x_Mdl z f M) (hL : q_M M L ℓ) (hp : p < 2 ^ 20) (hm : n ≤ 9) (h : post (some (.int (nI (q_df (q_t L ℓ) n p)))) f) : ∀ (k i : Nat), i + k = n → i + q_df (q_t L ℓ) k (p + i) = q_df (q_t L ℓ) n p → X E (x_rm 3 0 0) mX6_digitsFrom (x_QM E z 0 0 post) 2 [(3, .int (nI i)), (0, .ref 59), (1, .int (nI p)), (2, .int (nI n))] [] z f 0 0 := by
  have hc := q_t_le (L := L) hL.2.2.2
  intro k
  induction k with
  | zero =>
    intro i hi he
    have hi2 : i = n := by omega
    subst hi2
    rw [← he] at h
    refine x_iload_n (pc' := 3) rfl rfl rfl ?_
    refine x_iload_n (pc' := 4) rfl rfl rfl ?_
    refine x_icmp_ge (tgt := 26) (pc' := 7) rfl rfl rfl (fun _ => ?_) (fun c4 => absurd ((Int32.le_refl _)) c4)
    refine x_iload_n (pc' := 27) rfl rfl rfl ?_
    exact x_ireturn rfl rfl rfl (Nat.le_of_ble_eq_true rfl) (Nat.le_of_ble_eq_true rfl) (h)
  | succ k ih =>
    intro i hi he
    replace he : i + (if q_dg (q_t L ℓ (p + i)) then q_df (q_t L ℓ) k (p + i + 1) + 1 else 0) = q_df (q_t L ℓ) n p := he
    refine x_iload_n (pc' := 3) rfl rfl rfl ?_
    refine x_iload_n (pc' := 4) rfl rfl rfl ?_
    refine x_icmp_ge (tgt := 26) (pc' := 7) rfl rfl rfl (fun c4 => absurd c4 ((nI_ge (by omega) (by omega)))) (fun _ => ?_)
    refine x_aload_n (pc' := 8) rfl rfl rfl ?_
    refine x_iload_n (pc' := 9) rfl rfl rfl ?_
    refine x_iload_n (pc' := 10) rfl rfl rfl ?_
    refine x_iadd (pc' := 11) rfl rfl ?_
    refine x_eqi (nI_add _ _) ?_
    refine x_cV1i (d := 1) (pc' := 14) rfl rfl sX6_116 gX6_letterAt (hM.1) ⟨Nat.le_of_ble_eq_true rfl, Nat.le_of_ble_eq_true rfl⟩ (Nat.le_of_ble_eq_true rfl) ⟨Nat.le_of_ble_eq_true rfl, Nat.le_of_ble_eq_true rfl⟩ ?_
    refine m_lAt hM hL (by omega) ⟨_, rfl, ?_⟩
    refine x_cS1i (d := 1) (pc' := 17) rfl rfl sX6_119 gX6_isDigit ⟨Nat.le_of_ble_eq_true rfl, Nat.le_of_ble_eq_true rfl⟩ (Nat.le_of_ble_eq_true rfl) ⟨Nat.le_of_ble_eq_true rfl, Nat.le_of_ble_eq_true rfl⟩ ?_
    refine m_isD (hc (p + i)) (fun d => ⟨_, rfl, ?_⟩) (fun d => ⟨_, rfl, ?_⟩)
    · rw [if_pos d] at he
      refine x_if_eq (tgt := 26) (pc' := 20) rfl rfl rfl (fun c17 => absurd c17 ((by decide))) (fun _ => ?_)
      refine x_iinc (pc' := 23) (lv' := [(3, _), (0, _), (1, _), (2, _)]) rfl rfl (Nat.le_of_ble_eq_true rfl) rfl (nI_1 i) rfl ?_
      refine x_goto (tgt := 2) rfl rfl ?_
      refine ih (i + 1) (by omega) ?_
      rw [show p + (i + 1) = p + i + 1 by omega]
      omega
    · rw [if_neg d] at he
      rw [← he] at h
      refine x_if_eq (tgt := 26) (pc' := 20) rfl rfl rfl (fun _ => ?_) (fun c17 => absurd (rfl) c17)
      refine x_iload_n (pc' := 27) rfl rfl rfl ?_
      exact x_ireturn rfl rfl rfl (Nat.le_of_ble_eq_true rfl) (Nat.le_of_ble_eq_true rfl) (h)
theorem m_digs {p n : Nat} (hM : x_Mdl z f M) (hL : q_M M L ℓ) (hp : p < 2 ^ 20) (hm : n ≤ 9) (h : post (some (.int (nI (q_df (q_t L ℓ) n p)))) f) : Y E 3 mX6_digitsFrom [.ref 59, .int (nI p), .int (nI n)] z f 0 0 post := by
  refine Y.intro gX6_digitsFrom (lv := [(0, .ref 59), (1, .int (nI p)), (2, .int (nI n))]) rfl (Nat.le_of_ble_eq_true rfl) ?_
  refine x_iconst (pc' := 1) rfl rfl iconst_0 ?_
  refine x_istore_n (pc' := 2) (lv' := [(3, _), (0, _), (1, _), (2, _)]) rfl rfl (Nat.le_of_ble_eq_true rfl) rfl ?_
  exact m_digsL hM hL hp hm h n 0 (by omega) (by rw [Nat.zero_add]; rfl)
/-- with the place of a fault -/
abbrev m_bad (M : x_N) (p : Nat) : x_N := (upd M.1 20 (nI p), M.2.1, M.2.2)
theorem m_passes {s : Nat} (hM : x_Mdl z f M) (hL : q_M M L ℓ) (hs : s < 2 ^ 19) (h1 : ∀ p, q_sk (q_t L ℓ) s = some p → ∀ (f' : x_H) (r : Int32), x_Mdl z f' (m_bad M p) → x_fr (fun q => q < 59) f f' → post (some (.int r)) f') (h0 : q_sk (q_t L ℓ) s = none → post (some (.int (nI (q_ed (q_t L ℓ) s + 1)))) f) : Y E 4 mX6_passes [.ref 59, .int (nI s)] z f 0 0 post := by
  refine Y.intro gX6_passes (lv := [(0, .ref 59), (1, .int (nI s))]) rfl (Nat.le_of_ble_eq_true rfl) ?_
  have hc := q_t_le (L := L) hL.2.2.2
  have hdef : q_sk (q_t L ℓ) s = if q_md (q_t L ℓ s) = 0 then some s else if q_t L ℓ s = 98 ∧ q_kd (q_t L ℓ (s + 1)) = 9 then some (s + 1) else if q_dn (q_t L ℓ) s < q_ld (q_t L ℓ s) ∨ ¬ q_t L ℓ (q_ed (q_t L ℓ) s) = 59 then some (q_ed (q_t L ℓ) s) else none := rfl
  rw [hdef] at h1 h0
  have hm9 := q_md_9 (q_t L ℓ s)
  have hdl : q_dn (q_t L ℓ) s ≤ q_md (q_t L ℓ s) := q_df_le (q_t L ℓ) (q_md (q_t L ℓ s)) (q_p0 (q_t L ℓ) s)
  by_cases dm : q_md (q_t L ℓ s) = 0
  · rw [if_pos dm] at h1
    have hne : ∀ k : Nat, k = 98 ∨ k = 99 ∨ k = 102 ∨ k = 108 ∨ k = 116 ∨ k = 115 → ¬ q_cI (q_t L ℓ s) = nI k := by
      intro k hk q
      have e := (q_cI_eq (hc s) (by omega)).mp q
      rw [e] at dm
      rcases hk with rfl | rfl | rfl | rfl | rfl | rfl <;> exact absurd dm (by decide)
    refine x_aload_n (pc' := 1) rfl rfl rfl ?_
    refine x_iload_n (pc' := 2) rfl rfl rfl ?_
    refine x_cV1i (d := 1) (pc' := 5) rfl rfl sX6_116 gX6_letterAt (hM.1) ⟨Nat.le_of_ble_eq_true rfl, Nat.le_of_ble_eq_true rfl⟩ (Nat.le_of_ble_eq_true rfl) ⟨Nat.le_of_ble_eq_true rfl, Nat.le_of_ble_eq_true rfl⟩ ?_
    refine m_lAt hM hL (by omega) ⟨_, rfl, ?_⟩
    refine x_istore_n (pc' := 6) (lv' := [(2, _), (0, _), (1, _)]) rfl rfl (Nat.le_of_ble_eq_true rfl) rfl ?_
    refine x_iload_n (pc' := 7) rfl rfl rfl ?_
    refine x_iconst (pc' := 8) rfl rfl iconst_1 ?_
    refine x_iadd (pc' := 9) rfl rfl ?_
    refine x_eqi (nI_1 _) ?_
    refine x_istore_n (pc' := 10) (lv' := [(3, _), (2, _), (0, _), (1, _)]) rfl rfl (Nat.le_of_ble_eq_true rfl) rfl ?_
    refine x_iconst (pc' := 11) rfl rfl iconst_1 ?_
    refine x_istore (pc' := 13) (lv' := [(4, _), (3, _), (2, _), (0, _), (1, _)]) rfl rfl (Nat.le_of_ble_eq_true rfl) rfl ?_
    refine x_iconst (pc' := 14) rfl rfl iconst_1 ?_
    refine x_istore (pc' := 16) (lv' := [(5, _), (4, _), (3, _), (2, _), (0, _), (1, _)]) rfl rfl (Nat.le_of_ble_eq_true rfl) rfl ?_
    refine x_iload_n (pc' := 17) rfl rfl rfl ?_
    refine x_bipush (pc' := 19) rfl rfl bipush_98 ?_
    refine x_icmp_ne (tgt := 52) (pc' := 22) rfl rfl rfl (fun _ => ?_) (fun c19 => absurd c19 ((hne 98 (by omega))))
    refine x_iload_n (pc' := 53) rfl rfl rfl ?_
    refine x_bipush (pc' := 55) rfl rfl bipush_99 ?_
    refine x_icmp_ne (tgt := 67) (pc' := 58) rfl rfl rfl (fun _ => ?_) (fun c55 => absurd c55 ((hne 99 (by omega))))
    refine x_iload_n (pc' := 68) rfl rfl rfl ?_
    refine x_bipush (pc' := 70) rfl rfl bipush_115 ?_
    refine x_icmp_ne (tgt := 80) (pc' := 73) rfl rfl rfl (fun _ => ?_) (fun c70 => absurd c70 ((hne 115 (by omega))))
    refine x_iload_n (pc' := 81) rfl rfl rfl ?_
    refine x_bipush (pc' := 83) rfl rfl bipush_102 ?_
    refine x_icmp_eq (tgt := 105) (pc' := 86) rfl rfl rfl (fun c83 => absurd c83 ((hne 102 (by omega)))) (fun _ => ?_)
    refine x_iload_n (pc' := 87) rfl rfl rfl ?_
    refine x_bipush (pc' := 89) rfl rfl bipush_108 ?_
    refine x_icmp_eq (tgt := 105) (pc' := 92) rfl rfl rfl (fun c89 => absurd c89 ((hne 108 (by omega)))) (fun _ => ?_)
    refine x_iload_n (pc' := 93) rfl rfl rfl ?_
    refine x_bipush (pc' := 95) rfl rfl bipush_116 ?_
    refine x_icmp_eq (tgt := 105) (pc' := 98) rfl rfl rfl (fun c95 => absurd c95 ((hne 116 (by omega)))) (fun _ => ?_)
    refine x_aload_n (pc' := 99) rfl rfl rfl ?_
    refine x_iload_n (pc' := 100) rfl rfl rfl ?_
    refine x_put (pc' := 103) rfl rfl rfl (hM.1) (Nat.le_of_ble_eq_true rfl) rfl rfl rfl rfl (fun f1 e1 => ?_)
    have hM1 := hM.num 20 e1 (x_mFs20 _ _)
    have hF1 := r_fr0 e1 (by decide)
    refine x_iload_n (pc' := 104) rfl rfl rfl ?_
    exact x_ireturn rfl rfl rfl (Nat.le_of_ble_eq_true rfl) (Nat.le_of_ble_eq_true rfl) (h1 s rfl _ _ hM1 hF1)
  rw [if_neg dm] at h1 h0
  rcases q_md_in dm with h98 | h99 | h102 | h108 | h116 | h115
  · have hp0 : q_p0 (q_t L ℓ) s = s + 2 := if_pos h98
    have hdn : q_df (q_t L ℓ) 2 (s + 1 + 1) = q_dn (q_t L ℓ) s := by
      unfold q_dn
      rw [hp0, h98]
      rfl
    have hed : s + 1 + 1 + q_dn (q_t L ℓ) s = q_ed (q_t L ℓ) s := by unfold q_ed; rw [hp0]
    have hld : q_ld (q_t L ℓ s) = 2 := by rw [h98]; rfl
    rw [hld] at h1 h0
    refine x_aload_n (pc' := 1) rfl rfl rfl ?_
    refine x_iload_n (pc' := 2) rfl rfl rfl ?_
    refine x_cV1i (d := 1) (pc' := 5) rfl rfl sX6_116 gX6_letterAt (hM.1) ⟨Nat.le_of_ble_eq_true rfl, Nat.le_of_ble_eq_true rfl⟩ (Nat.le_of_ble_eq_true rfl) ⟨Nat.le_of_ble_eq_true rfl, Nat.le_of_ble_eq_true rfl⟩ ?_
    refine m_lAt hM hL (by omega) ⟨_, rfl, ?_⟩
    refine x_istore_n (pc' := 6) (lv' := [(2, _), (0, _), (1, _)]) rfl rfl (Nat.le_of_ble_eq_true rfl) rfl ?_
    refine x_iload_n (pc' := 7) rfl rfl rfl ?_
    refine x_iconst (pc' := 8) rfl rfl iconst_1 ?_
    refine x_iadd (pc' := 9) rfl rfl ?_
    refine x_eqi (nI_1 _) ?_
    refine x_istore_n (pc' := 10) (lv' := [(3, _), (2, _), (0, _), (1, _)]) rfl rfl (Nat.le_of_ble_eq_true rfl) rfl ?_
    refine x_iconst (pc' := 11) rfl rfl iconst_1 ?_
    refine x_istore (pc' := 13) (lv' := [(4, _), (3, _), (2, _), (0, _), (1, _)]) rfl rfl (Nat.le_of_ble_eq_true rfl) rfl ?_
    refine x_iconst (pc' := 14) rfl rfl iconst_1 ?_
    refine x_istore (pc' := 16) (lv' := [(5, _), (4, _), (3, _), (2, _), (0, _), (1, _)]) rfl rfl (Nat.le_of_ble_eq_true rfl) rfl ?_
    refine x_iload_n (pc' := 17) rfl rfl rfl ?_
    refine x_bipush (pc' := 19) rfl rfl bipush_98 ?_
    refine x_icmp_ne (tgt := 52) (pc' := 22) rfl rfl rfl (fun c19 => absurd (((q_cI_eq (k := 98) (hc s) (by decide)).mpr h98)) c19) (fun _ => ?_)
    refine x_aload_n (pc' := 23) rfl rfl rfl ?_
    refine x_iload_n (pc' := 24) rfl rfl rfl ?_
    refine x_cV1i (d := 1) (pc' := 27) rfl rfl sX6_116 gX6_letterAt (hM.1) ⟨Nat.le_of_ble_eq_true rfl, Nat.le_of_ble_eq_true rfl⟩ (Nat.le_of_ble_eq_true rfl) ⟨Nat.le_of_ble_eq_true rfl, Nat.le_of_ble_eq_true rfl⟩ ?_
    refine m_lAt hM hL (by omega) ⟨_, rfl, ?_⟩
    refine x_cS1i (d := 1) (pc' := 30) rfl rfl sX6_122 gX6_kindOf ⟨Nat.le_of_ble_eq_true rfl, Nat.le_of_ble_eq_true rfl⟩ (Nat.le_of_ble_eq_true rfl) ⟨Nat.le_of_ble_eq_true rfl, Nat.le_of_ble_eq_true rfl⟩ ?_
    refine m_kindO (hc (s + 1)) ⟨_, rfl, ?_⟩
    by_cases d2 : q_kd (q_t L ℓ (s + 1)) = 9
    · rw [if_pos ⟨h98, d2⟩] at h1
      rw [if_pos d2]
      refine x_if_ge (tgt := 40) (pc' := 33) rfl rfl rfl (fun q => absurd q (by decide)) (fun _ => ?_)
      refine x_aload_n (pc' := 34) rfl rfl rfl ?_
      refine x_iload_n (pc' := 35) rfl rfl rfl ?_
      refine x_put (pc' := 38) rfl rfl rfl (hM.1) (Nat.le_of_ble_eq_true rfl) rfl rfl rfl rfl (fun f1 e1 => ?_)
      have hM1 := hM.num 20 e1 (x_mFs20 _ _)
      have hF1 := r_fr0 e1 (by decide)
      refine x_iload_n (pc' := 39) rfl rfl rfl ?_
      exact x_ireturn rfl rfl rfl (Nat.le_of_ble_eq_true rfl) (Nat.le_of_ble_eq_true rfl) (h1 (s + 1) rfl _ _ hM1 hF1)
    · rw [if_neg (fun q => d2 q.2)] at h1 h0
      rw [if_neg d2]
      have hk5 := (q_kd_in d2).2.2.2
      refine x_if_ge (tgt := 40) (pc' := 33) rfl rfl rfl (fun _ => ?_) (fun q => absurd (nI_pos' (by omega)) q)
      refine x_iinc (pc' := 43) (lv' := [(3, _), (5, _), (4, _), (2, _), (0, _), (1, _)]) rfl rfl (Nat.le_of_ble_eq_true rfl) rfl (nI_1 _) rfl ?_
      refine x_iconst (pc' := 44) rfl rfl iconst_2 ?_
      refine x_istore (pc' := 46) (lv' := [(4, _), (3, _), (5, _), (2, _), (0, _), (1, _)]) rfl rfl (Nat.le_of_ble_eq_true rfl) rfl ?_
      refine x_iconst (pc' := 47) rfl rfl iconst_2 ?_
      refine x_istore (pc' := 49) (lv' := [(5, _), (4, _), (3, _), (2, _), (0, _), (1, _)]) rfl rfl (Nat.le_of_ble_eq_true rfl) rfl ?_
      refine x_goto (tgt := 105) rfl rfl ?_
      refine x_aload_n (pc' := 106) rfl rfl rfl ?_
      refine x_iload_n (pc' := 107) rfl rfl rfl ?_
      refine x_iload (pc' := 109) rfl rfl rfl ?_
      refine x_cV2i (d := 3) (pc' := 112) rfl rfl sX6_128 gX6_digitsFrom (hM.1) ⟨Nat.le_of_ble_eq_true rfl, Nat.le_of_ble_eq_true rfl⟩ (Nat.le_of_ble_eq_true rfl) ⟨Nat.le_of_ble_eq_true rfl, Nat.le_of_ble_eq_true rfl⟩ ?_
      refine m_digs (n := 2) hM hL (by omega) (by omega) ⟨_, rfl, ?_⟩
      rw [hdn]
      refine x_istore (pc' := 114) (lv' := [(6, _), (5, _), (4, _), (3, _), (2, _), (0, _), (1, _)]) rfl rfl (Nat.le_of_ble_eq_true rfl) rfl ?_
      refine x_iload_n (pc' := 115) rfl rfl rfl ?_
      refine x_iload (pc' := 117) rfl rfl rfl ?_
      refine x_iadd (pc' := 118) rfl rfl ?_
      refine x_eqi (nI_add _ _) ?_
      rw [hed]
      have hel : q_ed (q_t L ℓ) s < 2 ^ 20 := by omega
      refine x_istore_n (pc' := 119) (lv' := [(3, _), (6, _), (5, _), (4, _), (2, _), (0, _), (1, _)]) rfl rfl (Nat.le_of_ble_eq_true rfl) rfl ?_
      refine x_iload (pc' := 121) rfl rfl rfl ?_
      refine x_iload (pc' := 123) rfl rfl rfl ?_
      by_cases d3 : q_dn (q_t L ℓ) s < 2
      · rw [if_pos (Or.inl d3)] at h1
        refine x_icmp_lt (tgt := 136) (pc' := 126) rfl rfl rfl (fun _ => ?_) (fun q => absurd (nI_lt (b := 2) d3 (by decide)) q)
        refine x_aload_n (pc' := 137) rfl rfl rfl ?_
        refine x_iload_n (pc' := 138) rfl rfl rfl ?_
        refine x_put (pc' := 141) rfl rfl rfl (hM.1) (Nat.le_of_ble_eq_true rfl) rfl rfl rfl rfl (fun f2 e2 => ?_)
        have hM9 := hM.num 20 e2 (x_mFs20 _ _)
        have hF9 := r_fr0 e2 (by decide)
        refine x_iload_n (pc' := 142) rfl rfl rfl ?_
        refine x_iconst (pc' := 143) rfl rfl iconst_1 ?_
        refine x_iadd (pc' := 144) rfl rfl ?_
        refine x_eqi (nI_1 _) ?_
        exact x_ireturn rfl rfl rfl (Nat.le_of_ble_eq_true rfl) (Nat.le_of_ble_eq_true rfl) (h1 _ rfl _ _ hM9 hF9)
      · refine x_icmp_lt (tgt := 136) (pc' := 126) rfl rfl rfl (fun q => absurd q (nI_nlt (b := 2) (by omega) (by omega))) (fun _ => ?_)
        refine x_aload_n (pc' := 127) rfl rfl rfl ?_
        refine x_iload_n (pc' := 128) rfl rfl rfl ?_
        refine x_cV1i (d := 1) (pc' := 131) rfl rfl sX6_116 gX6_letterAt (hM.1) ⟨Nat.le_of_ble_eq_true rfl, Nat.le_of_ble_eq_true rfl⟩ (Nat.le_of_ble_eq_true rfl) ⟨Nat.le_of_ble_eq_true rfl, Nat.le_of_ble_eq_true rfl⟩ ?_
        refine m_lAt hM hL (by omega) ⟨_, rfl, ?_⟩
        refine x_bipush (pc' := 133) rfl rfl bipush_59 ?_
        by_cases d4 : q_t L ℓ (q_ed (q_t L ℓ) s) = 59
        · rw [if_neg (fun q => q.elim d3 (fun k => k d4))] at h0
          refine x_icmp_eq (tgt := 141) (pc' := 136) rfl rfl rfl (fun _ => ?_) (fun q => absurd ((q_cI_eq (k := 59) (hc _) (by decide)).mpr d4) q)
          refine x_iload_n (pc' := 142) rfl rfl rfl ?_
          refine x_iconst (pc' := 143) rfl rfl iconst_1 ?_
          refine x_iadd (pc' := 144) rfl rfl ?_
          refine x_eqi (nI_1 _) ?_
          exact x_ireturn rfl rfl rfl (Nat.le_of_ble_eq_true rfl) (Nat.le_of_ble_eq_true rfl) (h0 rfl)
        · rw [if_pos (Or.inr d4)] at h1
          refine x_icmp_eq (tgt := 141) (pc' := 136) rfl rfl rfl (fun q => absurd ((q_cI_eq (k := 59) (hc _) (by decide)).mp q) d4) (fun _ => ?_)
          refine x_aload_n (pc' := 137) rfl rfl rfl ?_
          refine x_iload_n (pc' := 138) rfl rfl rfl ?_
          refine x_put (pc' := 141) rfl rfl rfl (hM.1) (Nat.le_of_ble_eq_true rfl) rfl rfl rfl rfl (fun f3 e3 => ?_)
          have hM9 := hM.num 20 e3 (x_mFs20 _ _)
          have hF9 := r_fr0 e3 (by decide)
          refine x_iload_n (pc' := 142) rfl rfl rfl ?_
          refine x_iconst (pc' := 143) rfl rfl iconst_1 ?_
          refine x_iadd (pc' := 144) rfl rfl ?_
          refine x_eqi (nI_1 _) ?_
          exact x_ireturn rfl rfl rfl (Nat.le_of_ble_eq_true rfl) (Nat.le_of_ble_eq_true rfl) (h1 _ rfl _ _ hM9 hF9)
  · have hp0 : q_p0 (q_t L ℓ) s = s + 1 := if_neg (by omega)
    have hdn : q_df (q_t L ℓ) 2 (s + 1) = q_dn (q_t L ℓ) s := by
      unfold q_dn
      rw [hp0, h99]
      rfl
    have hed : s + 1 + q_dn (q_t L ℓ) s = q_ed (q_t L ℓ) s := by unfold q_ed; rw [hp0]
    have hld : q_ld (q_t L ℓ s) = 2 := by rw [h99]; rfl
    rw [hld, if_neg (fun q => absurd (h99.symm.trans q.1) (by decide))] at h1 h0
    have hne : ∀ k : Nat, k ≤ 255 → ¬ k = 99 → ¬ q_cI (q_t L ℓ s) = nI k := fun k hk hk2 q => hk2 (((q_cI_eq (hc s) hk).mp q).symm.trans h99)
    have heq : q_cI (q_t L ℓ s) = nI 99 := (q_cI_eq (hc s) (by decide)).mpr h99
    refine x_aload_n (pc' := 1) rfl rfl rfl ?_
    refine x_iload_n (pc' := 2) rfl rfl rfl ?_
    refine x_cV1i (d := 1) (pc' := 5) rfl rfl sX6_116 gX6_letterAt (hM.1) ⟨Nat.le_of_ble_eq_true rfl, Nat.le_of_ble_eq_true rfl⟩ (Nat.le_of_ble_eq_true rfl) ⟨Nat.le_of_ble_eq_true rfl, Nat.le_of_ble_eq_true rfl⟩ ?_
    refine m_lAt hM hL (by omega) ⟨_, rfl, ?_⟩
    refine x_istore_n (pc' := 6) (lv' := [(2, _), (0, _), (1, _)]) rfl rfl (Nat.le_of_ble_eq_true rfl) rfl ?_
    refine x_iload_n (pc' := 7) rfl rfl rfl ?_
    refine x_iconst (pc' := 8) rfl rfl iconst_1 ?_
    refine x_iadd (pc' := 9) rfl rfl ?_
    refine x_eqi (nI_1 _) ?_
    refine x_istore_n (pc' := 10) (lv' := [(3, _), (2, _), (0, _), (1, _)]) rfl rfl (Nat.le_of_ble_eq_true rfl) rfl ?_
    refine x_iconst (pc' := 11) rfl rfl iconst_1 ?_
    refine x_istore (pc' := 13) (lv' := [(4, _), (3, _), (2, _), (0, _), (1, _)]) rfl rfl (Nat.le_of_ble_eq_true rfl) rfl ?_
    refine x_iconst (pc' := 14) rfl rfl iconst_1 ?_
    refine x_istore (pc' := 16) (lv' := [(5, _), (4, _), (3, _), (2, _), (0, _), (1, _)]) rfl rfl (Nat.le_of_ble_eq_true rfl) rfl ?_
    refine x_iload_n (pc' := 17) rfl rfl rfl ?_
    refine x_bipush (pc' := 19) rfl rfl bipush_98 ?_
    refine x_icmp_ne (tgt := 52) (pc' := 22) rfl rfl rfl (fun _ => ?_) (fun c19 => absurd c19 ((hne 98 (by decide) (by decide))))
    refine x_iload_n (pc' := 53) rfl rfl rfl ?_
    refine x_bipush (pc' := 55) rfl rfl bipush_99 ?_
    refine x_icmp_ne (tgt := 67) (pc' := 58) rfl rfl rfl (fun c55 => absurd (heq) c55) (fun _ => ?_)
    refine x_iconst (pc' := 59) rfl rfl iconst_2 ?_
    refine x_istore (pc' := 61) (lv' := [(4, _), (5, _), (3, _), (2, _), (0, _), (1, _)]) rfl rfl (Nat.le_of_ble_eq_true rfl) rfl ?_
    refine x_iconst (pc' := 62) rfl rfl iconst_2 ?_
    refine x_istore (pc' := 64) (lv' := [(5, _), (4, _), (3, _), (2, _), (0, _), (1, _)]) rfl rfl (Nat.le_of_ble_eq_true rfl) rfl ?_
    refine x_goto (tgt := 105) rfl rfl ?_
    refine x_aload_n (pc' := 106) rfl rfl rfl ?_
    refine x_iload_n (pc' := 107) rfl rfl rfl ?_
    refine x_iload (pc' := 109) rfl rfl rfl ?_
    refine x_cV2i (d := 3) (pc' := 112) rfl rfl sX6_128 gX6_digitsFrom (hM.1) ⟨Nat.le_of_ble_eq_true rfl, Nat.le_of_ble_eq_true rfl⟩ (Nat.le_of_ble_eq_true rfl) ⟨Nat.le_of_ble_eq_true rfl, Nat.le_of_ble_eq_true rfl⟩ ?_
    refine m_digs (n := 2) hM hL (by omega) (by omega) ⟨_, rfl, ?_⟩
    rw [hdn]
    refine x_istore (pc' := 114) (lv' := [(6, _), (5, _), (4, _), (3, _), (2, _), (0, _), (1, _)]) rfl rfl (Nat.le_of_ble_eq_true rfl) rfl ?_
    refine x_iload_n (pc' := 115) rfl rfl rfl ?_
    refine x_iload (pc' := 117) rfl rfl rfl ?_
    refine x_iadd (pc' := 118) rfl rfl ?_
    refine x_eqi (nI_add _ _) ?_
    rw [hed]
    have hel : q_ed (q_t L ℓ) s < 2 ^ 20 := by omega
    refine x_istore_n (pc' := 119) (lv' := [(3, _), (6, _), (5, _), (4, _), (2, _), (0, _), (1, _)]) rfl rfl (Nat.le_of_ble_eq_true rfl) rfl ?_
    refine x_iload (pc' := 121) rfl rfl rfl ?_
    refine x_iload (pc' := 123) rfl rfl rfl ?_
    by_cases d3 : q_dn (q_t L ℓ) s < 2
    · rw [if_pos (Or.inl d3)] at h1
      refine x_icmp_lt (tgt := 136) (pc' := 126) rfl rfl rfl (fun _ => ?_) (fun q => absurd (nI_lt (b := 2) d3 (by decide)) q)
      refine x_aload_n (pc' := 137) rfl rfl rfl ?_
      refine x_iload_n (pc' := 138) rfl rfl rfl ?_
      refine x_put (pc' := 141) rfl rfl rfl (hM.1) (Nat.le_of_ble_eq_true rfl) rfl rfl rfl rfl (fun f1 e1 => ?_)
      have hM9 := hM.num 20 e1 (x_mFs20 _ _)
      have hF9 := r_fr0 e1 (by decide)
      refine x_iload_n (pc' := 142) rfl rfl rfl ?_
      refine x_iconst (pc' := 143) rfl rfl iconst_1 ?_
      refine x_iadd (pc' := 144) rfl rfl ?_
      refine x_eqi (nI_1 _) ?_
      exact x_ireturn rfl rfl rfl (Nat.le_of_ble_eq_true rfl) (Nat.le_of_ble_eq_true rfl) (h1 _ rfl _ _ hM9 hF9)
    · refine x_icmp_lt (tgt := 136) (pc' := 126) rfl rfl rfl (fun q => absurd q (nI_nlt (b := 2) (by omega) (by omega))) (fun _ => ?_)
      refine x_aload_n (pc' := 127) rfl rfl rfl ?_
      refine x_iload_n (pc' := 128) rfl rfl rfl ?_
      refine x_cV1i (d := 1) (pc' := 131) rfl rfl sX6_116 gX6_letterAt (hM.1) ⟨Nat.le_of_ble_eq_true rfl, Nat.le_of_ble_eq_true rfl⟩ (Nat.le_of_ble_eq_true rfl) ⟨Nat.le_of_ble_eq_true rfl, Nat.le_of_ble_eq_true rfl⟩ ?_
      refine m_lAt hM hL (by omega) ⟨_, rfl, ?_⟩
      refine x_bipush (pc' := 133) rfl rfl bipush_59 ?_
      by_cases d4 : q_t L ℓ (q_ed (q_t L ℓ) s) = 59
      · rw [if_neg (fun q => q.elim d3 (fun k => k d4))] at h0
        refine x_icmp_eq (tgt := 141) (pc' := 136) rfl rfl rfl (fun _ => ?_) (fun q => absurd ((q_cI_eq (k := 59) (hc _) (by decide)).mpr d4) q)
        refine x_iload_n (pc' := 142) rfl rfl rfl ?_
        refine x_iconst (pc' := 143) rfl rfl iconst_1 ?_
        refine x_iadd (pc' := 144) rfl rfl ?_
        refine x_eqi (nI_1 _) ?_
        exact x_ireturn rfl rfl rfl (Nat.le_of_ble_eq_true rfl) (Nat.le_of_ble_eq_true rfl) (h0 rfl)
      · rw [if_pos (Or.inr d4)] at h1
        refine x_icmp_eq (tgt := 141) (pc' := 136) rfl rfl rfl (fun q => absurd ((q_cI_eq (k := 59) (hc _) (by decide)).mp q) d4) (fun _ => ?_)
        refine x_aload_n (pc' := 137) rfl rfl rfl ?_
        refine x_iload_n (pc' := 138) rfl rfl rfl ?_
        refine x_put (pc' := 141) rfl rfl rfl (hM.1) (Nat.le_of_ble_eq_true rfl) rfl rfl rfl rfl (fun f2 e2 => ?_)
        have hM9 := hM.num 20 e2 (x_mFs20 _ _)
        have hF9 := r_fr0 e2 (by decide)
        refine x_iload_n (pc' := 142) rfl rfl rfl ?_
        refine x_iconst (pc' := 143) rfl rfl iconst_1 ?_
        refine x_iadd (pc' := 144) rfl rfl ?_
        refine x_eqi (nI_1 _) ?_
        exact x_ireturn rfl rfl rfl (Nat.le_of_ble_eq_true rfl) (Nat.le_of_ble_eq_true rfl) (h1 _ rfl _ _ hM9 hF9)
  · have hp0 : q_p0 (q_t L ℓ) s = s + 1 := if_neg (by omega)
    have hdn : q_df (q_t L ℓ) 1 (s + 1) = q_dn (q_t L ℓ) s := by
      unfold q_dn
      rw [hp0, h102]
      rfl
    have hed : s + 1 + q_dn (q_t L ℓ) s = q_ed (q_t L ℓ) s := by unfold q_ed; rw [hp0]
    have hld : q_ld (q_t L ℓ s) = 1 := by rw [h102]; rfl
    rw [hld, if_neg (fun q => absurd (h102.symm.trans q.1) (by decide))] at h1 h0
    have hne : ∀ k : Nat, k ≤ 255 → ¬ k = 102 → ¬ q_cI (q_t L ℓ s) = nI k := fun k hk hk2 q => hk2 (((q_cI_eq (hc s) hk).mp q).symm.trans h102)
    have heq : q_cI (q_t L ℓ s) = nI 102 := (q_cI_eq (hc s) (by decide)).mpr h102
    refine x_aload_n (pc' := 1) rfl rfl rfl ?_
    refine x_iload_n (pc' := 2) rfl rfl rfl ?_
    refine x_cV1i (d := 1) (pc' := 5) rfl rfl sX6_116 gX6_letterAt (hM.1) ⟨Nat.le_of_ble_eq_true rfl, Nat.le_of_ble_eq_true rfl⟩ (Nat.le_of_ble_eq_true rfl) ⟨Nat.le_of_ble_eq_true rfl, Nat.le_of_ble_eq_true rfl⟩ ?_
    refine m_lAt hM hL (by omega) ⟨_, rfl, ?_⟩
    refine x_istore_n (pc' := 6) (lv' := [(2, _), (0, _), (1, _)]) rfl rfl (Nat.le_of_ble_eq_true rfl) rfl ?_
    refine x_iload_n (pc' := 7) rfl rfl rfl ?_
    refine x_iconst (pc' := 8) rfl rfl iconst_1 ?_
    refine x_iadd (pc' := 9) rfl rfl ?_
    refine x_eqi (nI_1 _) ?_
    refine x_istore_n (pc' := 10) (lv' := [(3, _), (2, _), (0, _), (1, _)]) rfl rfl (Nat.le_of_ble_eq_true rfl) rfl ?_
    refine x_iconst (pc' := 11) rfl rfl iconst_1 ?_
    refine x_istore (pc' := 13) (lv' := [(4, _), (3, _), (2, _), (0, _), (1, _)]) rfl rfl (Nat.le_of_ble_eq_true rfl) rfl ?_
    refine x_iconst (pc' := 14) rfl rfl iconst_1 ?_
    refine x_istore (pc' := 16) (lv' := [(5, _), (4, _), (3, _), (2, _), (0, _), (1, _)]) rfl rfl (Nat.le_of_ble_eq_true rfl) rfl ?_
    refine x_iload_n (pc' := 17) rfl rfl rfl ?_
    refine x_bipush (pc' := 19) rfl rfl bipush_98 ?_
    refine x_icmp_ne (tgt := 52) (pc' := 22) rfl rfl rfl (fun _ => ?_) (fun c19 => absurd c19 ((hne 98 (by decide) (by decide))))
    refine x_iload_n (pc' := 53) rfl rfl rfl ?_
    refine x_bipush (pc' := 55) rfl rfl bipush_99 ?_
    refine x_icmp_ne (tgt := 67) (pc' := 58) rfl rfl rfl (fun _ => ?_) (fun c55 => absurd c55 ((hne 99 (by decide) (by decide))))
    refine x_iload_n (pc' := 68) rfl rfl rfl ?_
    refine x_bipush (pc' := 70) rfl rfl bipush_115 ?_
    refine x_icmp_ne (tgt := 80) (pc' := 73) rfl rfl rfl (fun _ => ?_) (fun c70 => absurd c70 ((hne 115 (by decide) (by decide))))
    refine x_iload_n (pc' := 81) rfl rfl rfl ?_
    refine x_bipush (pc' := 83) rfl rfl bipush_102 ?_
    refine x_icmp_eq (tgt := 105) (pc' := 86) rfl rfl rfl (fun _ => ?_) (fun c83 => absurd (heq) c83)
    refine x_aload_n (pc' := 106) rfl rfl rfl ?_
    refine x_iload_n (pc' := 107) rfl rfl rfl ?_
    refine x_iload (pc' := 109) rfl rfl rfl ?_
    refine x_cV2i (d := 3) (pc' := 112) rfl rfl sX6_128 gX6_digitsFrom (hM.1) ⟨Nat.le_of_ble_eq_true rfl, Nat.le_of_ble_eq_true rfl⟩ (Nat.le_of_ble_eq_true rfl) ⟨Nat.le_of_ble_eq_true rfl, Nat.le_of_ble_eq_true rfl⟩ ?_
    refine m_digs (n := 1) hM hL (by omega) (by omega) ⟨_, rfl, ?_⟩
    rw [hdn]
    refine x_istore (pc' := 114) (lv' := [(6, _), (5, _), (4, _), (3, _), (2, _), (0, _), (1, _)]) rfl rfl (Nat.le_of_ble_eq_true rfl) rfl ?_
    refine x_iload_n (pc' := 115) rfl rfl rfl ?_
    refine x_iload (pc' := 117) rfl rfl rfl ?_
    refine x_iadd (pc' := 118) rfl rfl ?_
    refine x_eqi (nI_add _ _) ?_
    rw [hed]
    have hel : q_ed (q_t L ℓ) s < 2 ^ 20 := by omega
    refine x_istore_n (pc' := 119) (lv' := [(3, _), (6, _), (5, _), (4, _), (2, _), (0, _), (1, _)]) rfl rfl (Nat.le_of_ble_eq_true rfl) rfl ?_
    refine x_iload (pc' := 121) rfl rfl rfl ?_
    refine x_iload (pc' := 123) rfl rfl rfl ?_
    by_cases d3 : q_dn (q_t L ℓ) s < 1
    · rw [if_pos (Or.inl d3)] at h1
      refine x_icmp_lt (tgt := 136) (pc' := 126) rfl rfl rfl (fun _ => ?_) (fun q => absurd (nI_lt (b := 1) d3 (by decide)) q)
      refine x_aload_n (pc' := 137) rfl rfl rfl ?_
      refine x_iload_n (pc' := 138) rfl rfl rfl ?_
      refine x_put (pc' := 141) rfl rfl rfl (hM.1) (Nat.le_of_ble_eq_true rfl) rfl rfl rfl rfl (fun f1 e1 => ?_)
      have hM9 := hM.num 20 e1 (x_mFs20 _ _)
      have hF9 := r_fr0 e1 (by decide)
      refine x_iload_n (pc' := 142) rfl rfl rfl ?_
      refine x_iconst (pc' := 143) rfl rfl iconst_1 ?_
      refine x_iadd (pc' := 144) rfl rfl ?_
      refine x_eqi (nI_1 _) ?_
      exact x_ireturn rfl rfl rfl (Nat.le_of_ble_eq_true rfl) (Nat.le_of_ble_eq_true rfl) (h1 _ rfl _ _ hM9 hF9)
    · refine x_icmp_lt (tgt := 136) (pc' := 126) rfl rfl rfl (fun q => absurd q (nI_nlt (b := 1) (by omega) (by omega))) (fun _ => ?_)
      refine x_aload_n (pc' := 127) rfl rfl rfl ?_
      refine x_iload_n (pc' := 128) rfl rfl rfl ?_
      refine x_cV1i (d := 1) (pc' := 131) rfl rfl sX6_116 gX6_letterAt (hM.1) ⟨Nat.le_of_ble_eq_true rfl, Nat.le_of_ble_eq_true rfl⟩ (Nat.le_of_ble_eq_true rfl) ⟨Nat.le_of_ble_eq_true rfl, Nat.le_of_ble_eq_true rfl⟩ ?_
      refine m_lAt hM hL (by omega) ⟨_, rfl, ?_⟩
      refine x_bipush (pc' := 133) rfl rfl bipush_59 ?_
      by_cases d4 : q_t L ℓ (q_ed (q_t L ℓ) s) = 59
      · rw [if_neg (fun q => q.elim d3 (fun k => k d4))] at h0
        refine x_icmp_eq (tgt := 141) (pc' := 136) rfl rfl rfl (fun _ => ?_) (fun q => absurd ((q_cI_eq (k := 59) (hc _) (by decide)).mpr d4) q)
        refine x_iload_n (pc' := 142) rfl rfl rfl ?_
        refine x_iconst (pc' := 143) rfl rfl iconst_1 ?_
        refine x_iadd (pc' := 144) rfl rfl ?_
        refine x_eqi (nI_1 _) ?_
        exact x_ireturn rfl rfl rfl (Nat.le_of_ble_eq_true rfl) (Nat.le_of_ble_eq_true rfl) (h0 rfl)
      · rw [if_pos (Or.inr d4)] at h1
        refine x_icmp_eq (tgt := 141) (pc' := 136) rfl rfl rfl (fun q => absurd ((q_cI_eq (k := 59) (hc _) (by decide)).mp q) d4) (fun _ => ?_)
        refine x_aload_n (pc' := 137) rfl rfl rfl ?_
        refine x_iload_n (pc' := 138) rfl rfl rfl ?_
        refine x_put (pc' := 141) rfl rfl rfl (hM.1) (Nat.le_of_ble_eq_true rfl) rfl rfl rfl rfl (fun f2 e2 => ?_)
        have hM9 := hM.num 20 e2 (x_mFs20 _ _)
        have hF9 := r_fr0 e2 (by decide)
        refine x_iload_n (pc' := 142) rfl rfl rfl ?_
        refine x_iconst (pc' := 143) rfl rfl iconst_1 ?_
        refine x_iadd (pc' := 144) rfl rfl ?_
        refine x_eqi (nI_1 _) ?_
        exact x_ireturn rfl rfl rfl (Nat.le_of_ble_eq_true rfl) (Nat.le_of_ble_eq_true rfl) (h1 _ rfl _ _ hM9 hF9)
  · have hp0 : q_p0 (q_t L ℓ) s = s + 1 := if_neg (by omega)
    have hdn : q_df (q_t L ℓ) 1 (s + 1) = q_dn (q_t L ℓ) s := by
      unfold q_dn
      rw [hp0, h108]
      rfl
    have hed : s + 1 + q_dn (q_t L ℓ) s = q_ed (q_t L ℓ) s := by unfold q_ed; rw [hp0]
    have hld : q_ld (q_t L ℓ s) = 1 := by rw [h108]; rfl
    rw [hld, if_neg (fun q => absurd (h108.symm.trans q.1) (by decide))] at h1 h0
    have hne : ∀ k : Nat, k ≤ 255 → ¬ k = 108 → ¬ q_cI (q_t L ℓ s) = nI k := fun k hk hk2 q => hk2 (((q_cI_eq (hc s) hk).mp q).symm.trans h108)
    have heq : q_cI (q_t L ℓ s) = nI 108 := (q_cI_eq (hc s) (by decide)).mpr h108
    refine x_aload_n (pc' := 1) rfl rfl rfl ?_
    refine x_iload_n (pc' := 2) rfl rfl rfl ?_
    refine x_cV1i (d := 1) (pc' := 5) rfl rfl sX6_116 gX6_letterAt (hM.1) ⟨Nat.le_of_ble_eq_true rfl, Nat.le_of_ble_eq_true rfl⟩ (Nat.le_of_ble_eq_true rfl) ⟨Nat.le_of_ble_eq_true rfl, Nat.le_of_ble_eq_true rfl⟩ ?_
    refine m_lAt hM hL (by omega) ⟨_, rfl, ?_⟩
    refine x_istore_n (pc' := 6) (lv' := [(2, _), (0, _), (1, _)]) rfl rfl (Nat.le_of_ble_eq_true rfl) rfl ?_
    refine x_iload_n (pc' := 7) rfl rfl rfl ?_
    refine x_iconst (pc' := 8) rfl rfl iconst_1 ?_
    refine x_iadd (pc' := 9) rfl rfl ?_
    refine x_eqi (nI_1 _) ?_
    refine x_istore_n (pc' := 10) (lv' := [(3, _), (2, _), (0, _), (1, _)]) rfl rfl (Nat.le_of_ble_eq_true rfl) rfl ?_
    refine x_iconst (pc' := 11) rfl rfl iconst_1 ?_
    refine x_istore (pc' := 13) (lv' := [(4, _), (3, _), (2, _), (0, _), (1, _)]) rfl rfl (Nat.le_of_ble_eq_true rfl) rfl ?_
    refine x_iconst (pc' := 14) rfl rfl iconst_1 ?_
    refine x_istore (pc' := 16) (lv' := [(5, _), (4, _), (3, _), (2, _), (0, _), (1, _)]) rfl rfl (Nat.le_of_ble_eq_true rfl) rfl ?_
    refine x_iload_n (pc' := 17) rfl rfl rfl ?_
    refine x_bipush (pc' := 19) rfl rfl bipush_98 ?_
    refine x_icmp_ne (tgt := 52) (pc' := 22) rfl rfl rfl (fun _ => ?_) (fun c19 => absurd c19 ((hne 98 (by decide) (by decide))))
    refine x_iload_n (pc' := 53) rfl rfl rfl ?_
    refine x_bipush (pc' := 55) rfl rfl bipush_99 ?_
    refine x_icmp_ne (tgt := 67) (pc' := 58) rfl rfl rfl (fun _ => ?_) (fun c55 => absurd c55 ((hne 99 (by decide) (by decide))))
    refine x_iload_n (pc' := 68) rfl rfl rfl ?_
    refine x_bipush (pc' := 70) rfl rfl bipush_115 ?_
    refine x_icmp_ne (tgt := 80) (pc' := 73) rfl rfl rfl (fun _ => ?_) (fun c70 => absurd c70 ((hne 115 (by decide) (by decide))))
    refine x_iload_n (pc' := 81) rfl rfl rfl ?_
    refine x_bipush (pc' := 83) rfl rfl bipush_102 ?_
    refine x_icmp_eq (tgt := 105) (pc' := 86) rfl rfl rfl (fun c83 => absurd c83 ((hne 102 (by decide) (by decide)))) (fun _ => ?_)
    refine x_iload_n (pc' := 87) rfl rfl rfl ?_
    refine x_bipush (pc' := 89) rfl rfl bipush_108 ?_
    refine x_icmp_eq (tgt := 105) (pc' := 92) rfl rfl rfl (fun _ => ?_) (fun c89 => absurd (heq) c89)
    refine x_aload_n (pc' := 106) rfl rfl rfl ?_
    refine x_iload_n (pc' := 107) rfl rfl rfl ?_
    refine x_iload (pc' := 109) rfl rfl rfl ?_
    refine x_cV2i (d := 3) (pc' := 112) rfl rfl sX6_128 gX6_digitsFrom (hM.1) ⟨Nat.le_of_ble_eq_true rfl, Nat.le_of_ble_eq_true rfl⟩ (Nat.le_of_ble_eq_true rfl) ⟨Nat.le_of_ble_eq_true rfl, Nat.le_of_ble_eq_true rfl⟩ ?_
    refine m_digs (n := 1) hM hL (by omega) (by omega) ⟨_, rfl, ?_⟩
    rw [hdn]
    refine x_istore (pc' := 114) (lv' := [(6, _), (5, _), (4, _), (3, _), (2, _), (0, _), (1, _)]) rfl rfl (Nat.le_of_ble_eq_true rfl) rfl ?_
    refine x_iload_n (pc' := 115) rfl rfl rfl ?_
    refine x_iload (pc' := 117) rfl rfl rfl ?_
    refine x_iadd (pc' := 118) rfl rfl ?_
    refine x_eqi (nI_add _ _) ?_
    rw [hed]
    have hel : q_ed (q_t L ℓ) s < 2 ^ 20 := by omega
    refine x_istore_n (pc' := 119) (lv' := [(3, _), (6, _), (5, _), (4, _), (2, _), (0, _), (1, _)]) rfl rfl (Nat.le_of_ble_eq_true rfl) rfl ?_
    refine x_iload (pc' := 121) rfl rfl rfl ?_
    refine x_iload (pc' := 123) rfl rfl rfl ?_
    by_cases d3 : q_dn (q_t L ℓ) s < 1
    · rw [if_pos (Or.inl d3)] at h1
      refine x_icmp_lt (tgt := 136) (pc' := 126) rfl rfl rfl (fun _ => ?_) (fun q => absurd (nI_lt (b := 1) d3 (by decide)) q)
      refine x_aload_n (pc' := 137) rfl rfl rfl ?_
      refine x_iload_n (pc' := 138) rfl rfl rfl ?_
      refine x_put (pc' := 141) rfl rfl rfl (hM.1) (Nat.le_of_ble_eq_true rfl) rfl rfl rfl rfl (fun f1 e1 => ?_)
      have hM9 := hM.num 20 e1 (x_mFs20 _ _)
      have hF9 := r_fr0 e1 (by decide)
      refine x_iload_n (pc' := 142) rfl rfl rfl ?_
      refine x_iconst (pc' := 143) rfl rfl iconst_1 ?_
      refine x_iadd (pc' := 144) rfl rfl ?_
      refine x_eqi (nI_1 _) ?_
      exact x_ireturn rfl rfl rfl (Nat.le_of_ble_eq_true rfl) (Nat.le_of_ble_eq_true rfl) (h1 _ rfl _ _ hM9 hF9)
    · refine x_icmp_lt (tgt := 136) (pc' := 126) rfl rfl rfl (fun q => absurd q (nI_nlt (b := 1) (by omega) (by omega))) (fun _ => ?_)
      refine x_aload_n (pc' := 127) rfl rfl rfl ?_
      refine x_iload_n (pc' := 128) rfl rfl rfl ?_
      refine x_cV1i (d := 1) (pc' := 131) rfl rfl sX6_116 gX6_letterAt (hM.1) ⟨Nat.le_of_ble_eq_true rfl, Nat.le_of_ble_eq_true rfl⟩ (Nat.le_of_ble_eq_true rfl) ⟨Nat.le_of_ble_eq_true rfl, Nat.le_of_ble_eq_true rfl⟩ ?_
      refine m_lAt hM hL (by omega) ⟨_, rfl, ?_⟩
      refine x_bipush (pc' := 133) rfl rfl bipush_59 ?_
      by_cases d4 : q_t L ℓ (q_ed (q_t L ℓ) s) = 59
      · rw [if_neg (fun q => q.elim d3 (fun k => k d4))] at h0
        refine x_icmp_eq (tgt := 141) (pc' := 136) rfl rfl rfl (fun _ => ?_) (fun q => absurd ((q_cI_eq (k := 59) (hc _) (by decide)).mpr d4) q)
        refine x_iload_n (pc' := 142) rfl rfl rfl ?_
        refine x_iconst (pc' := 143) rfl rfl iconst_1 ?_
        refine x_iadd (pc' := 144) rfl rfl ?_
        refine x_eqi (nI_1 _) ?_
        exact x_ireturn rfl rfl rfl (Nat.le_of_ble_eq_true rfl) (Nat.le_of_ble_eq_true rfl) (h0 rfl)
      · rw [if_pos (Or.inr d4)] at h1
        refine x_icmp_eq (tgt := 141) (pc' := 136) rfl rfl rfl (fun q => absurd ((q_cI_eq (k := 59) (hc _) (by decide)).mp q) d4) (fun _ => ?_)
        refine x_aload_n (pc' := 137) rfl rfl rfl ?_
        refine x_iload_n (pc' := 138) rfl rfl rfl ?_
        refine x_put (pc' := 141) rfl rfl rfl (hM.1) (Nat.le_of_ble_eq_true rfl) rfl rfl rfl rfl (fun f2 e2 => ?_)
        have hM9 := hM.num 20 e2 (x_mFs20 _ _)
        have hF9 := r_fr0 e2 (by decide)
        refine x_iload_n (pc' := 142) rfl rfl rfl ?_
        refine x_iconst (pc' := 143) rfl rfl iconst_1 ?_
        refine x_iadd (pc' := 144) rfl rfl ?_
        refine x_eqi (nI_1 _) ?_
        exact x_ireturn rfl rfl rfl (Nat.le_of_ble_eq_true rfl) (Nat.le_of_ble_eq_true rfl) (h1 _ rfl _ _ hM9 hF9)
  · have hp0 : q_p0 (q_t L ℓ) s = s + 1 := if_neg (by omega)
    have hdn : q_df (q_t L ℓ) 1 (s + 1) = q_dn (q_t L ℓ) s := by
      unfold q_dn
      rw [hp0, h116]
      rfl
    have hed : s + 1 + q_dn (q_t L ℓ) s = q_ed (q_t L ℓ) s := by unfold q_ed; rw [hp0]
    have hld : q_ld (q_t L ℓ s) = 1 := by rw [h116]; rfl
    rw [hld, if_neg (fun q => absurd (h116.symm.trans q.1) (by decide))] at h1 h0
    have hne : ∀ k : Nat, k ≤ 255 → ¬ k = 116 → ¬ q_cI (q_t L ℓ s) = nI k := fun k hk hk2 q => hk2 (((q_cI_eq (hc s) hk).mp q).symm.trans h116)
    have heq : q_cI (q_t L ℓ s) = nI 116 := (q_cI_eq (hc s) (by decide)).mpr h116
    refine x_aload_n (pc' := 1) rfl rfl rfl ?_
    refine x_iload_n (pc' := 2) rfl rfl rfl ?_
    refine x_cV1i (d := 1) (pc' := 5) rfl rfl sX6_116 gX6_letterAt (hM.1) ⟨Nat.le_of_ble_eq_true rfl, Nat.le_of_ble_eq_true rfl⟩ (Nat.le_of_ble_eq_true rfl) ⟨Nat.le_of_ble_eq_true rfl, Nat.le_of_ble_eq_true rfl⟩ ?_
    refine m_lAt hM hL (by omega) ⟨_, rfl, ?_⟩
    refine x_istore_n (pc' := 6) (lv' := [(2, _), (0, _), (1, _)]) rfl rfl (Nat.le_of_ble_eq_true rfl) rfl ?_
    refine x_iload_n (pc' := 7) rfl rfl rfl ?_
    refine x_iconst (pc' := 8) rfl rfl iconst_1 ?_
    refine x_iadd (pc' := 9) rfl rfl ?_
    refine x_eqi (nI_1 _) ?_
    refine x_istore_n (pc' := 10) (lv' := [(3, _), (2, _), (0, _), (1, _)]) rfl rfl (Nat.le_of_ble_eq_true rfl) rfl ?_
    refine x_iconst (pc' := 11) rfl rfl iconst_1 ?_
    refine x_istore (pc' := 13) (lv' := [(4, _), (3, _), (2, _), (0, _), (1, _)]) rfl rfl (Nat.le_of_ble_eq_true rfl) rfl ?_
    refine x_iconst (pc' := 14) rfl rfl iconst_1 ?_
    refine x_istore (pc' := 16) (lv' := [(5, _), (4, _), (3, _), (2, _), (0, _), (1, _)]) rfl rfl (Nat.le_of_ble_eq_true rfl) rfl ?_
    refine x_iload_n (pc' := 17) rfl rfl rfl ?_
    refine x_bipush (pc' := 19) rfl rfl bipush_98 ?_
    refine x_icmp_ne (tgt := 52) (pc' := 22) rfl rfl rfl (fun _ => ?_) (fun c19 => absurd c19 ((hne 98 (by decide) (by decide))))
    refine x_iload_n (pc' := 53) rfl rfl rfl ?_
    refine x_bipush (pc' := 55) rfl rfl bipush_99 ?_
    refine x_icmp_ne (tgt := 67) (pc' := 58) rfl rfl rfl (fun _ => ?_) (fun c55 => absurd c55 ((hne 99 (by decide) (by decide))))
    refine x_iload_n (pc' := 68) rfl rfl rfl ?_
    refine x_bipush (pc' := 70) rfl rfl bipush_115 ?_
    refine x_icmp_ne (tgt := 80) (pc' := 73) rfl rfl rfl (fun _ => ?_) (fun c70 => absurd c70 ((hne 115 (by decide) (by decide))))
    refine x_iload_n (pc' := 81) rfl rfl rfl ?_
    refine x_bipush (pc' := 83) rfl rfl bipush_102 ?_
    refine x_icmp_eq (tgt := 105) (pc' := 86) rfl rfl rfl (fun c83 => absurd c83 ((hne 102 (by decide) (by decide)))) (fun _ => ?_)
    refine x_iload_n (pc' := 87) rfl rfl rfl ?_
    refine x_bipush (pc' := 89) rfl rfl bipush_108 ?_
    refine x_icmp_eq (tgt := 105) (pc' := 92) rfl rfl rfl (fun c89 => absurd c89 ((hne 108 (by decide) (by decide)))) (fun _ => ?_)
    refine x_iload_n (pc' := 93) rfl rfl rfl ?_
    refine x_bipush (pc' := 95) rfl rfl bipush_116 ?_
    refine x_icmp_eq (tgt := 105) (pc' := 98) rfl rfl rfl (fun _ => ?_) (fun c95 => absurd (heq) c95)
    refine x_aload_n (pc' := 106) rfl rfl rfl ?_
    refine x_iload_n (pc' := 107) rfl rfl rfl ?_
    refine x_iload (pc' := 109) rfl rfl rfl ?_
    refine x_cV2i (d := 3) (pc' := 112) rfl rfl sX6_128 gX6_digitsFrom (hM.1) ⟨Nat.le_of_ble_eq_true rfl, Nat.le_of_ble_eq_true rfl⟩ (Nat.le_of_ble_eq_true rfl) ⟨Nat.le_of_ble_eq_true rfl, Nat.le_of_ble_eq_true rfl⟩ ?_
    refine m_digs (n := 1) hM hL (by omega) (by omega) ⟨_, rfl, ?_⟩
    rw [hdn]
    refine x_istore (pc' := 114) (lv' := [(6, _), (5, _), (4, _), (3, _), (2, _), (0, _), (1, _)]) rfl rfl (Nat.le_of_ble_eq_true rfl) rfl ?_
    refine x_iload_n (pc' := 115) rfl rfl rfl ?_
    refine x_iload (pc' := 117) rfl rfl rfl ?_
    refine x_iadd (pc' := 118) rfl rfl ?_
    refine x_eqi (nI_add _ _) ?_
    rw [hed]
    have hel : q_ed (q_t L ℓ) s < 2 ^ 20 := by omega
    refine x_istore_n (pc' := 119) (lv' := [(3, _), (6, _), (5, _), (4, _), (2, _), (0, _), (1, _)]) rfl rfl (Nat.le_of_ble_eq_true rfl) rfl ?_
    refine x_iload (pc' := 121) rfl rfl rfl ?_
    refine x_iload (pc' := 123) rfl rfl rfl ?_
    by_cases d3 : q_dn (q_t L ℓ) s < 1
    · rw [if_pos (Or.inl d3)] at h1
      refine x_icmp_lt (tgt := 136) (pc' := 126) rfl rfl rfl (fun _ => ?_) (fun q => absurd (nI_lt (b := 1) d3 (by decide)) q)
      refine x_aload_n (pc' := 137) rfl rfl rfl ?_
      refine x_iload_n (pc' := 138) rfl rfl rfl ?_
      refine x_put (pc' := 141) rfl rfl rfl (hM.1) (Nat.le_of_ble_eq_true rfl) rfl rfl rfl rfl (fun f1 e1 => ?_)
      have hM9 := hM.num 20 e1 (x_mFs20 _ _)
      have hF9 := r_fr0 e1 (by decide)
      refine x_iload_n (pc' := 142) rfl rfl rfl ?_
      refine x_iconst (pc' := 143) rfl rfl iconst_1 ?_
      refine x_iadd (pc' := 144) rfl rfl ?_
      refine x_eqi (nI_1 _) ?_
      exact x_ireturn rfl rfl rfl (Nat.le_of_ble_eq_true rfl) (Nat.le_of_ble_eq_true rfl) (h1 _ rfl _ _ hM9 hF9)
    · refine x_icmp_lt (tgt := 136) (pc' := 126) rfl rfl rfl (fun q => absurd q (nI_nlt (b := 1) (by omega) (by omega))) (fun _ => ?_)
      refine x_aload_n (pc' := 127) rfl rfl rfl ?_
      refine x_iload_n (pc' := 128) rfl rfl rfl ?_
      refine x_cV1i (d := 1) (pc' := 131) rfl rfl sX6_116 gX6_letterAt (hM.1) ⟨Nat.le_of_ble_eq_true rfl, Nat.le_of_ble_eq_true rfl⟩ (Nat.le_of_ble_eq_true rfl) ⟨Nat.le_of_ble_eq_true rfl, Nat.le_of_ble_eq_true rfl⟩ ?_
      refine m_lAt hM hL (by omega) ⟨_, rfl, ?_⟩
      refine x_bipush (pc' := 133) rfl rfl bipush_59 ?_
      by_cases d4 : q_t L ℓ (q_ed (q_t L ℓ) s) = 59
      · rw [if_neg (fun q => q.elim d3 (fun k => k d4))] at h0
        refine x_icmp_eq (tgt := 141) (pc' := 136) rfl rfl rfl (fun _ => ?_) (fun q => absurd ((q_cI_eq (k := 59) (hc _) (by decide)).mpr d4) q)
        refine x_iload_n (pc' := 142) rfl rfl rfl ?_
        refine x_iconst (pc' := 143) rfl rfl iconst_1 ?_
        refine x_iadd (pc' := 144) rfl rfl ?_
        refine x_eqi (nI_1 _) ?_
        exact x_ireturn rfl rfl rfl (Nat.le_of_ble_eq_true rfl) (Nat.le_of_ble_eq_true rfl) (h0 rfl)
      · rw [if_pos (Or.inr d4)] at h1
        refine x_icmp_eq (tgt := 141) (pc' := 136) rfl rfl rfl (fun q => absurd ((q_cI_eq (k := 59) (hc _) (by decide)).mp q) d4) (fun _ => ?_)
        refine x_aload_n (pc' := 137) rfl rfl rfl ?_
        refine x_iload_n (pc' := 138) rfl rfl rfl ?_
        refine x_put (pc' := 141) rfl rfl rfl (hM.1) (Nat.le_of_ble_eq_true rfl) rfl rfl rfl rfl (fun f2 e2 => ?_)
        have hM9 := hM.num 20 e2 (x_mFs20 _ _)
        have hF9 := r_fr0 e2 (by decide)
        refine x_iload_n (pc' := 142) rfl rfl rfl ?_
        refine x_iconst (pc' := 143) rfl rfl iconst_1 ?_
        refine x_iadd (pc' := 144) rfl rfl ?_
        refine x_eqi (nI_1 _) ?_
        exact x_ireturn rfl rfl rfl (Nat.le_of_ble_eq_true rfl) (Nat.le_of_ble_eq_true rfl) (h1 _ rfl _ _ hM9 hF9)
  · have hp0 : q_p0 (q_t L ℓ) s = s + 1 := if_neg (by omega)
    have hdn : q_df (q_t L ℓ) 9 (s + 1) = q_dn (q_t L ℓ) s := by
      unfold q_dn
      rw [hp0, h115]
      rfl
    have hed : s + 1 + q_dn (q_t L ℓ) s = q_ed (q_t L ℓ) s := by unfold q_ed; rw [hp0]
    have hld : q_ld (q_t L ℓ s) = 1 := by rw [h115]; rfl
    rw [hld, if_neg (fun q => absurd (h115.symm.trans q.1) (by decide))] at h1 h0
    have hne : ∀ k : Nat, k ≤ 255 → ¬ k = 115 → ¬ q_cI (q_t L ℓ s) = nI k := fun k hk hk2 q => hk2 (((q_cI_eq (hc s) hk).mp q).symm.trans h115)
    have heq : q_cI (q_t L ℓ s) = nI 115 := (q_cI_eq (hc s) (by decide)).mpr h115
    refine x_aload_n (pc' := 1) rfl rfl rfl ?_
    refine x_iload_n (pc' := 2) rfl rfl rfl ?_
    refine x_cV1i (d := 1) (pc' := 5) rfl rfl sX6_116 gX6_letterAt (hM.1) ⟨Nat.le_of_ble_eq_true rfl, Nat.le_of_ble_eq_true rfl⟩ (Nat.le_of_ble_eq_true rfl) ⟨Nat.le_of_ble_eq_true rfl, Nat.le_of_ble_eq_true rfl⟩ ?_
    refine m_lAt hM hL (by omega) ⟨_, rfl, ?_⟩
    refine x_istore_n (pc' := 6) (lv' := [(2, _), (0, _), (1, _)]) rfl rfl (Nat.le_of_ble_eq_true rfl) rfl ?_
    refine x_iload_n (pc' := 7) rfl rfl rfl ?_
    refine x_iconst (pc' := 8) rfl rfl iconst_1 ?_
    refine x_iadd (pc' := 9) rfl rfl ?_
    refine x_eqi (nI_1 _) ?_
    refine x_istore_n (pc' := 10) (lv' := [(3, _), (2, _), (0, _), (1, _)]) rfl rfl (Nat.le_of_ble_eq_true rfl) rfl ?_
    refine x_iconst (pc' := 11) rfl rfl iconst_1 ?_
    refine x_istore (pc' := 13) (lv' := [(4, _), (3, _), (2, _), (0, _), (1, _)]) rfl rfl (Nat.le_of_ble_eq_true rfl) rfl ?_
    refine x_iconst (pc' := 14) rfl rfl iconst_1 ?_
    refine x_istore (pc' := 16) (lv' := [(5, _), (4, _), (3, _), (2, _), (0, _), (1, _)]) rfl rfl (Nat.le_of_ble_eq_true rfl) rfl ?_
    refine x_iload_n (pc' := 17) rfl rfl rfl ?_
    refine x_bipush (pc' := 19) rfl rfl bipush_98 ?_
    refine x_icmp_ne (tgt := 52) (pc' := 22) rfl rfl rfl (fun _ => ?_) (fun c19 => absurd c19 ((hne 98 (by decide) (by decide))))
    refine x_iload_n (pc' := 53) rfl rfl rfl ?_
    refine x_bipush (pc' := 55) rfl rfl bipush_99 ?_
    refine x_icmp_ne (tgt := 67) (pc' := 58) rfl rfl rfl (fun _ => ?_) (fun c55 => absurd c55 ((hne 99 (by decide) (by decide))))
    refine x_iload_n (pc' := 68) rfl rfl rfl ?_
    refine x_bipush (pc' := 70) rfl rfl bipush_115 ?_
    refine x_icmp_ne (tgt := 80) (pc' := 73) rfl rfl rfl (fun c70 => absurd (heq) c70) (fun _ => ?_)
    refine x_bipush (pc' := 75) rfl rfl bipush_9 ?_
    refine x_istore (pc' := 77) (lv' := [(5, _), (4, _), (3, _), (2, _), (0, _), (1, _)]) rfl rfl (Nat.le_of_ble_eq_true rfl) rfl ?_
    refine x_goto (tgt := 105) rfl rfl ?_
    refine x_aload_n (pc' := 106) rfl rfl rfl ?_
    refine x_iload_n (pc' := 107) rfl rfl rfl ?_
    refine x_iload (pc' := 109) rfl rfl rfl ?_
    refine x_cV2i (d := 3) (pc' := 112) rfl rfl sX6_128 gX6_digitsFrom (hM.1) ⟨Nat.le_of_ble_eq_true rfl, Nat.le_of_ble_eq_true rfl⟩ (Nat.le_of_ble_eq_true rfl) ⟨Nat.le_of_ble_eq_true rfl, Nat.le_of_ble_eq_true rfl⟩ ?_
    refine m_digs (n := 9) hM hL (by omega) (by omega) ⟨_, rfl, ?_⟩
    rw [hdn]
    refine x_istore (pc' := 114) (lv' := [(6, _), (5, _), (4, _), (3, _), (2, _), (0, _), (1, _)]) rfl rfl (Nat.le_of_ble_eq_true rfl) rfl ?_
    refine x_iload_n (pc' := 115) rfl rfl rfl ?_
    refine x_iload (pc' := 117) rfl rfl rfl ?_
    refine x_iadd (pc' := 118) rfl rfl ?_
    refine x_eqi (nI_add _ _) ?_
    rw [hed]
    have hel : q_ed (q_t L ℓ) s < 2 ^ 20 := by omega
    refine x_istore_n (pc' := 119) (lv' := [(3, _), (6, _), (5, _), (4, _), (2, _), (0, _), (1, _)]) rfl rfl (Nat.le_of_ble_eq_true rfl) rfl ?_
    refine x_iload (pc' := 121) rfl rfl rfl ?_
    refine x_iload (pc' := 123) rfl rfl rfl ?_
    by_cases d3 : q_dn (q_t L ℓ) s < 1
    · rw [if_pos (Or.inl d3)] at h1
      refine x_icmp_lt (tgt := 136) (pc' := 126) rfl rfl rfl (fun _ => ?_) (fun q => absurd (nI_lt (b := 1) d3 (by decide)) q)
      refine x_aload_n (pc' := 137) rfl rfl rfl ?_
      refine x_iload_n (pc' := 138) rfl rfl rfl ?_
      refine x_put (pc' := 141) rfl rfl rfl (hM.1) (Nat.le_of_ble_eq_true rfl) rfl rfl rfl rfl (fun f1 e1 => ?_)
      have hM9 := hM.num 20 e1 (x_mFs20 _ _)
      have hF9 := r_fr0 e1 (by decide)
      refine x_iload_n (pc' := 142) rfl rfl rfl ?_
      refine x_iconst (pc' := 143) rfl rfl iconst_1 ?_
      refine x_iadd (pc' := 144) rfl rfl ?_
      refine x_eqi (nI_1 _) ?_
      exact x_ireturn rfl rfl rfl (Nat.le_of_ble_eq_true rfl) (Nat.le_of_ble_eq_true rfl) (h1 _ rfl _ _ hM9 hF9)
    · refine x_icmp_lt (tgt := 136) (pc' := 126) rfl rfl rfl (fun q => absurd q (nI_nlt (b := 1) (by omega) (by omega))) (fun _ => ?_)
      refine x_aload_n (pc' := 127) rfl rfl rfl ?_
      refine x_iload_n (pc' := 128) rfl rfl rfl ?_
      refine x_cV1i (d := 1) (pc' := 131) rfl rfl sX6_116 gX6_letterAt (hM.1) ⟨Nat.le_of_ble_eq_true rfl, Nat.le_of_ble_eq_true rfl⟩ (Nat.le_of_ble_eq_true rfl) ⟨Nat.le_of_ble_eq_true rfl, Nat.le_of_ble_eq_true rfl⟩ ?_
      refine m_lAt hM hL (by omega) ⟨_, rfl, ?_⟩
      refine x_bipush (pc' := 133) rfl rfl bipush_59 ?_
      by_cases d4 : q_t L ℓ (q_ed (q_t L ℓ) s) = 59
      · rw [if_neg (fun q => q.elim d3 (fun k => k d4))] at h0
        refine x_icmp_eq (tgt := 141) (pc' := 136) rfl rfl rfl (fun _ => ?_) (fun q => absurd ((q_cI_eq (k := 59) (hc _) (by decide)).mpr d4) q)
        refine x_iload_n (pc' := 142) rfl rfl rfl ?_
        refine x_iconst (pc' := 143) rfl rfl iconst_1 ?_
        refine x_iadd (pc' := 144) rfl rfl ?_
        refine x_eqi (nI_1 _) ?_
        exact x_ireturn rfl rfl rfl (Nat.le_of_ble_eq_true rfl) (Nat.le_of_ble_eq_true rfl) (h0 rfl)
      · rw [if_pos (Or.inr d4)] at h1
        refine x_icmp_eq (tgt := 141) (pc' := 136) rfl rfl rfl (fun q => absurd ((q_cI_eq (k := 59) (hc _) (by decide)).mp q) d4) (fun _ => ?_)
        refine x_aload_n (pc' := 137) rfl rfl rfl ?_
        refine x_iload_n (pc' := 138) rfl rfl rfl ?_
        refine x_put (pc' := 141) rfl rfl rfl (hM.1) (Nat.le_of_ble_eq_true rfl) rfl rfl rfl rfl (fun f2 e2 => ?_)
        have hM9 := hM.num 20 e2 (x_mFs20 _ _)
        have hF9 := r_fr0 e2 (by decide)
        refine x_iload_n (pc' := 142) rfl rfl rfl ?_
        refine x_iconst (pc' := 143) rfl rfl iconst_1 ?_
        refine x_iadd (pc' := 144) rfl rfl ?_
        refine x_eqi (nI_1 _) ?_
        exact x_ireturn rfl rfl rfl (Nat.le_of_ble_eq_true rfl) (Nat.le_of_ble_eq_true rfl) (h1 _ rfl _ _ hM9 hF9)
end GR
end
section
-- == 64.gameS
/-! The reference's statements. -/
def m_ks (M M' : x_N) : Prop := (∀ j, j ≠ 0 → j ≠ 1 → j ≠ 2 → M'.2.1 j = M.2.1 j) ∧ (∀ i, i = 11 ∨ i = 13 ∨ 18 ≤ i → M'.1 i = M.1 i)
theorem m_ks.rf {M : x_N} : m_ks M M := ⟨fun _ _ _ _ => rfl, fun _ _ => rfl⟩
theorem m_ks.trans {M M1 M2 : x_N} (h : m_ks M M1) (h2 : m_ks M1 M2) : m_ks M M2 := ⟨fun j a b c => (h2.1 j a b c).trans (h.1 j a b c), fun i a => (h2.2 i a).trans (h.2 i a)⟩
theorem m_kp.ks {M M' : x_N} (h : m_kp M M') : m_ks M M' := ⟨fun j _ b c => h.1 j b c, fun i a => h.2.2 i (by omega) (by omega) (by omega) (by omega) (by omega)⟩
/-- a game that the reference plays in the place of another -/
def m_tb (z : Nat) (f : x_H) (M0 M : x_N) (G : q_G × Nat) : Prop := x_Mdl z f M ∧ m_is M G.1 ∧ M.1 8 = nI G.2 ∧ g_ok 99 G.1 ∧ G.2 ≤ 999 ∧ m_ks M0 M ∧ M0.1 18 = 0
theorem q_M_at {M : x_N} {L : Nat} {ℓ : Nat → Nat} (hL : q_M M L ℓ) {i : Nat} (h : i < L) : M.2.1 4 (nI i).toNatClampNeg = nI (q_t L ℓ i) := by
  have := hL.2.1
  rw [nI_clamp (by omega), hL.2.2.1]
  unfold q_t
  rw [if_pos h]
theorem q_M.ks {M M' : x_N} {L : Nat} {ℓ : Nat → Nat} (hL : q_M M L ℓ) (h : m_ks M M') : q_M M' L ℓ := ⟨(h.2 11 (by omega)).trans hL.1, hL.2.1, (h.1 4 (by decide) (by decide) (by decide)).trans hL.2.2.1, hL.2.2.2⟩
section GS
variable {E : x_E} {z : Nat} {f : x_H} {M M0 : x_N} {A : q_A} {post : Option Value → x_H → Prop} {L : Nat} {ℓ : Nat → Nat} {g : q_G} {G : q_G × Nat} {m : Nat}
theorem m_digit {p : Nat} (hM : x_Mdl z f M) (hL : q_M M L ℓ) (hp : p < L) (h48 : 48 ≤ q_t L ℓ p) (h : post (some (.int (nI (q_t L ℓ p - 48)))) f) : Y E 1 mX6_digit [.ref 59, .int (nI p)] z f 0 0 post := by
  refine Y.intro gX6_digit (lv := [(0, .ref 59), (1, .int (nI p))]) rfl (Nat.le_of_ble_eq_true rfl) ?_
  have l2 := hL.2.1
  refine x_aload_n (pc' := 1) rfl rfl rfl ?_
  refine x_get (pc' := 4) rfl rfl rfl (hM.1) rfl ?_
  refine x_iload_n (pc' := 5) rfl rfl rfl ?_
  refine x_iaload (pc' := 6) rfl rfl (hM.2.1 4 (by decide)) (vp_in_nI (n := p) (N := 96) (by omega) (by decide)) ?_
  refine x_eqi (q_M_at hL hp) ?_
  refine x_bipush (pc' := 8) rfl rfl bipush_48 ?_
  refine x_isub (pc' := 9) rfl rfl ?_
  refine x_eqi (show nI (q_t L ℓ p) - 48 = nI (q_t L ℓ p - 48) from pk_sub (b := 48) h48) ?_
  exact x_ireturn rfl rfl rfl (Nat.le_of_ble_eq_true rfl) (Nat.le_of_ble_eq_true rfl) (h)
theorem m_isB {k : Nat} (hM : x_Mdl z f M) (hm : m_is M g) (hn9 : g_n g ≤ 9) (hk : k < 2 ^ 31) (h1 : k < g_n g → post (some (.int 1)) f) (h0 : ¬ k < g_n g → post (some (.int 0)) f) : Y E 2 mX6_isBowl [.ref 59, .int (nI k)] z f 0 0 post := by
  have hk2 : q_in (g_n g) (nI k) ↔ k < g_n g := by
    constructor
    · intro q
      have h2 := q.2
      rw [nI_clamp hk] at h2
      exact h2
    · intro q
      exact q_in_nI q hk
  refine w_isBowl hM (fun q => h1 (hk2.mp ?_)) (fun q => h0 (fun j => q ?_))
  · rw [hm.2.2.2.1] at q
    exact (q_in_bowl hn9).mp q
  · rw [hm.2.2.2.1]
    exact (q_in_bowl hn9).mpr (hk2.mpr j)
theorem m_exch {v w : Nat} (hM : x_Mdl z f M) (hv : v < 9) (hw : w < 9) (h : ∀ f' : x_H, x_Mdl z f' (M.1, x_ua M.2.1 1 (upd (upd (M.2.1 1) v (M.2.1 1 w)) w (M.2.1 1 v)), M.2.2) → x_fr (fun q => q < 59) f f' → post none f') : Y E 1 mX6_exchanges [.ref 59, .int (nI v), .int (nI w)] z f 0 0 post := by
  refine Y.intro gX6_exchanges (lv := [(0, .ref 59), (1, .int (nI v)), (2, .int (nI w))]) rfl (Nat.le_of_ble_eq_true rfl) ?_
  have ev : (nI v).toNatClampNeg = v := nI_clamp (by omega)
  have ew : (nI w).toNatClampNeg = w := nI_clamp (by omega)
  refine x_aload_n (pc' := 1) rfl rfl rfl ?_
  refine x_get (pc' := 4) rfl rfl rfl (hM.1) rfl ?_
  refine x_iload_n (pc' := 5) rfl rfl rfl ?_
  refine x_iaload (pc' := 6) rfl rfl (hM.2.1 1 (by decide)) (vp_in_nI (n := v) (N := 9) hv (by decide)) ?_
  refine x_istore_n (pc' := 7) (lv' := [(3, _), (0, _), (1, _), (2, _)]) rfl rfl (Nat.le_of_ble_eq_true rfl) rfl ?_
  refine x_aload_n (pc' := 8) rfl rfl rfl ?_
  refine x_get (pc' := 11) rfl rfl rfl (hM.1) rfl ?_
  refine x_iload_n (pc' := 12) rfl rfl rfl ?_
  refine x_aload_n (pc' := 13) rfl rfl rfl ?_
  refine x_get (pc' := 16) rfl rfl rfl (hM.1) rfl ?_
  refine x_iload_n (pc' := 17) rfl rfl rfl ?_
  refine x_iaload (pc' := 18) rfl rfl (hM.2.1 1 (by decide)) (vp_in_nI (n := w) (N := 9) hw (by decide)) ?_
  refine x_iastore (pc' := 19) rfl rfl (hM.2.1 1 (by decide)) (vp_in_nI (n := v) (N := 9) hv (by decide)) (fun f1 e1 => ?_)
  have hM1 := hM.arr 1 (by decide) e1
  have hF1 := r_fr0 e1 (by decide)
  refine x_aload_n (pc' := 20) rfl rfl rfl ?_
  refine x_get (pc' := 23) rfl rfl rfl (hM1.1) rfl ?_
  refine x_iload_n (pc' := 24) rfl rfl rfl ?_
  refine x_iload_n (pc' := 25) rfl rfl rfl ?_
  refine x_iastore (pc' := 26) rfl rfl (hM1.2.1 1 (by decide)) (vp_in_nI (n := w) (N := 9) hw (by decide)) (fun f2 e2 => ?_)
  have hM2 := hM1.arr 1 (by decide) e2
  have hF2 := hF1.trans (r_fr0 e2 (by decide))
  rw [x_ua_ua, ev, ew] at hM2
  exact x_return rfl rfl (Nat.le_of_ble_eq_true rfl) (Nat.le_of_ble_eq_true rfl) (h _ hM2 hF2)
theorem m_dosL {s e : Nat} (hL : q_M M0 L ℓ) (he : e < L) (h59 : q_t L ℓ e = 59) (hdg : ∀ j, s + 1 ≤ j → j < e → q_dg (q_t L ℓ j)) (f0 : x_H) (R : Option (q_G × Nat)) (k1 : ∀ G', R = some G' → ∀ (f' : x_H) (M' : x_N), m_tb z f' M0 M' G' → x_fr (fun q => q < 59) f0 f' → post (some (.int 1)) f') (k0 : R = none → ∀ (f' : x_H) (M' : x_N) (G' : q_G × Nat), m_tb z f' M0 M' G' → x_fr (fun q => q < 59) f0 f' → post (some (.int 0)) f') : ∀ (k i : Nat) (G : q_G × Nat) (f : x_H) (M : x_N), i + k = e → s + 1 ≤ i → q_ms2 (q_t L ℓ) k i G = R → m_tb z f M0 M G → x_fr (fun q => q < 59) f0 f → X E (x_rm 5 0 0) mX6_doesSowings (x_QM E z 0 0 post) 4 [(2, .int (nI i)), (0, .ref 59), (1, .int (nI s))] [] z f 0 0 := by
  have l2 := hL.2.1
  intro k
  induction k with
  | zero =>
    intro i G f M hi hsi hR hC hF
    have hi2 : i = e := by omega
    subst hi2
    have hR2 : some G = R := hR
    have hM := hC.1
    have hL' : q_M M L ℓ := hL.ks hC.2.2.2.2.2.1
    refine x_aload_n (pc' := 5) rfl rfl rfl ?_
    refine x_get (pc' := 8) rfl rfl rfl (hM.1) rfl ?_
    refine x_iload_n (pc' := 9) rfl rfl rfl ?_
    refine x_iaload (pc' := 10) rfl rfl (hM.2.1 4 (by decide)) (vp_in_nI (n := i) (N := 96) (by omega) (by decide)) ?_
    refine x_eqi ((q_M_at hL' he).trans (congrArg nI h59)) ?_
    refine x_bipush (pc' := 12) rfl rfl bipush_59 ?_
    refine x_icmp_eq (tgt := 64) (pc' := 15) rfl rfl rfl (fun _ => ?_) (fun c12 => absurd ((by decide : nI 59 = 59)) c12)
    refine x_iconst (pc' := 65) rfl rfl iconst_1 ?_
    exact x_ireturn rfl rfl rfl (Nat.le_of_ble_eq_true rfl) (Nat.le_of_ble_eq_true rfl) (k1 G hR2.symm _ _ hC hF)
  | succ k ih =>
    intro i G f M hi hsi hR hC hF
    have hd := hdg i hsi (by omega)
    have hda := hd.1
    have hdb := hd.2
    obtain ⟨hM, hm, h8, hok, hmv, hks, h18⟩ := id hC
    have hL' : q_M M L ℓ := hL.ks hks
    replace hR : (if g_can G.1 (q_t L ℓ i - 48) ∧ ¬ G.2 = 999 then q_ms2 (q_t L ℓ) k (i + 1) (g_mv G.1 (q_t L ℓ i - 48), G.2 + 1) else none) = R := hR
    refine x_aload_n (pc' := 5) rfl rfl rfl ?_
    refine x_get (pc' := 8) rfl rfl rfl (hM.1) rfl ?_
    refine x_iload_n (pc' := 9) rfl rfl rfl ?_
    refine x_iaload (pc' := 10) rfl rfl (hM.2.1 4 (by decide)) (vp_in_nI (n := i) (N := 96) (by omega) (by decide)) ?_
    refine x_eqi (q_M_at hL' (by omega)) ?_
    refine x_bipush (pc' := 12) rfl rfl bipush_59 ?_
    refine x_icmp_eq (tgt := 64) (pc' := 15) rfl rfl rfl (fun c12 => absurd c12 ((fun q => absurd ((nI_eq (a := q_t L ℓ i) (b := 59) (by omega) (by decide)).mp q) (by omega)))) (fun _ => ?_)
    refine x_aload_n (pc' := 16) rfl rfl rfl ?_
    refine x_aload_n (pc' := 17) rfl rfl rfl ?_
    refine x_iload_n (pc' := 18) rfl rfl rfl ?_
    refine x_cV1i (d := 1) (pc' := 21) rfl rfl sX6_132 gX6_digit (hM.1) ⟨Nat.le_of_ble_eq_true rfl, Nat.le_of_ble_eq_true rfl⟩ (Nat.le_of_ble_eq_true rfl) ⟨Nat.le_of_ble_eq_true rfl, Nat.le_of_ble_eq_true rfl⟩ ?_
    refine m_digit hM hL' (by omega) hda ⟨_, rfl, ?_⟩
    refine x_cV1i (d := 3) (pc' := 24) rfl rfl sX6_135 gX6_canMove (hM.1) ⟨Nat.le_of_ble_eq_true rfl, Nat.le_of_ble_eq_true rfl⟩ (Nat.le_of_ble_eq_true rfl) ⟨Nat.le_of_ble_eq_true rfl, Nat.le_of_ble_eq_true rfl⟩ ?_
    refine m_can1 hM hm hok (by decide) (by omega) (fun d2 => ⟨_, rfl, ?_⟩) (fun d2 => ⟨_, rfl, ?_⟩)
    · refine x_if_eq (tgt := 37) (pc' := 27) rfl rfl rfl (fun c24 => absurd c24 ((by decide))) (fun _ => ?_)
      refine x_aload_n (pc' := 28) rfl rfl rfl ?_
      refine x_get (pc' := 31) rfl rfl rfl (hM.1) rfl ?_
      refine x_eqi h8 ?_
      refine x_sipush (pc' := 34) rfl rfl sipush_999 ?_
      by_cases d3 : G.2 = 999
      · rw [if_neg (fun q => q.2 d3)] at hR
        refine x_icmp_ne (tgt := 39) (pc' := 37) rfl rfl rfl (fun q => absurd (by rw [d3]; decide) q) (fun _ => ?_)
        refine x_iconst (pc' := 38) rfl rfl iconst_0 ?_
        exact x_ireturn rfl rfl rfl (Nat.le_of_ble_eq_true rfl) (Nat.le_of_ble_eq_true rfl) (k0 hR.symm _ _ _ hC hF)
      · rw [if_pos ⟨d2, d3⟩] at hR
        refine x_icmp_ne (tgt := 39) (pc' := 37) rfl rfl rfl (fun _ => ?_) (fun q => absurd ((nI_eq (b := 999) (by omega) (by decide)).mp q) d3)
        refine x_aload_n (pc' := 40) rfl rfl rfl ?_
        refine x_aload_n (pc' := 41) rfl rfl rfl ?_
        refine x_iload_n (pc' := 42) rfl rfl rfl ?_
        refine x_cV1i (d := 1) (pc' := 45) rfl rfl sX6_132 gX6_digit (hM.1) ⟨Nat.le_of_ble_eq_true rfl, Nat.le_of_ble_eq_true rfl⟩ (Nat.le_of_ble_eq_true rfl) ⟨Nat.le_of_ble_eq_true rfl, Nat.le_of_ble_eq_true rfl⟩ ?_
        refine m_digit hM hL' (by omega) hda ⟨_, rfl, ?_⟩
        refine x_cV1v (d := 4) (pc' := 48) rfl rfl sX6_141 gX6_moves (hM.1) ⟨Nat.le_of_ble_eq_true rfl, Nat.le_of_ble_eq_true rfl⟩ (Nat.le_of_ble_eq_true rfl) ⟨Nat.le_of_ble_eq_true rfl, Nat.le_of_ble_eq_true rfl⟩ ?_
        refine m_mv hM hm hok (by decide) d2 ((hks.2 18 (by omega)).trans h18) (fun f1 M1 hM1 g1 kp1 e14 e15 e16 e17 hF1 => ⟨rfl, ?_⟩)
        have h81 : M1.1 8 = nI G.2 := (kp1.2.2 8 (by decide) (by decide) (by decide) (by decide) (by decide)).trans h8
        refine x_aload_n (pc' := 49) rfl rfl rfl ?_
        refine x_dup (pc' := 50) rfl rfl rfl ?_
        refine x_get (pc' := 53) rfl rfl rfl (hM1.1) rfl ?_
        refine x_eqi h81 ?_
        refine x_iconst (pc' := 54) rfl rfl iconst_1 ?_
        refine x_iadd (pc' := 55) rfl rfl ?_
        refine x_eqi (nI_1 _) ?_
        refine x_put (pc' := 58) rfl rfl rfl (hM1.1) (Nat.le_of_ble_eq_true rfl) rfl rfl rfl rfl (fun f1 e1 => ?_)
        have hM2 := hM1.num 8 e1 (x_mFs8 _ _)
        have hF2 := (hF.trans hF1).trans (r_fr0 e1 (by decide))
        refine x_iinc (pc' := 61) (lv' := [(2, _), (0, _), (1, _)]) rfl rfl (Nat.le_of_ble_eq_true rfl) rfl (nI_1 i) rfl ?_
        refine x_goto (tgt := 4) rfl rfl ?_
        exact ih (i + 1) _ _ (upd M1.1 8 (nI (G.2 + 1)), M1.2.1, M1.2.2) (by omega) (by omega) hR ⟨hM2, ⟨g1.1, g1.2.1, g1.2.2.1, g1.2.2.2.1, g1.2.2.2.2.1, g1.2.2.2.2.2.1, g1.2.2.2.2.2.2⟩, rfl, g_mv_ok hok (by decide) (by decide) d2.2.1, by show G.2 + 1 ≤ 999; omega, (hks.trans kp1.ks).trans ⟨fun _ _ _ _ => rfl, fun j hj => pk_un (by omega)⟩, h18⟩ hF2
    · rw [if_neg (fun q => d2 q.1)] at hR
      refine x_if_eq (tgt := 37) (pc' := 27) rfl rfl rfl (fun _ => ?_) (fun c24 => absurd (rfl) c24)
      refine x_iconst (pc' := 38) rfl rfl iconst_0 ?_
      exact x_ireturn rfl rfl rfl (Nat.le_of_ble_eq_true rfl) (Nat.le_of_ble_eq_true rfl) (k0 hR.symm _ _ _ hC hF)
theorem m_dos {s e : Nat} (hC : m_tb z f M0 M G) (hL : q_M M0 L ℓ) (he : e < L) (hse : s + 1 ≤ e) (h59 : q_t L ℓ e = 59) (hdg : ∀ j, s + 1 ≤ j → j < e → q_dg (q_t L ℓ j)) (k1 : ∀ G', q_ms2 (q_t L ℓ) (e - (s + 1)) (s + 1) G = some G' → ∀ (f' : x_H) (M' : x_N), m_tb z f' M0 M' G' → x_fr (fun q => q < 59) f f' → post (some (.int 1)) f') (k0 : q_ms2 (q_t L ℓ) (e - (s + 1)) (s + 1) G = none → ∀ (f' : x_H) (M' : x_N) (G' : q_G × Nat), m_tb z f' M0 M' G' → x_fr (fun q => q < 59) f f' → post (some (.int 0)) f') : Y E 5 mX6_doesSowings [.ref 59, .int (nI s)] z f 0 0 post := by
  refine Y.intro gX6_doesSowings (lv := [(0, .ref 59), (1, .int (nI s))]) rfl (Nat.le_of_ble_eq_true rfl) ?_
  refine x_iload_n (pc' := 1) rfl rfl rfl ?_
  refine x_iconst (pc' := 2) rfl rfl iconst_1 ?_
  refine x_iadd (pc' := 3) rfl rfl ?_
  refine x_eqi (nI_1 s) ?_
  refine x_istore_n (pc' := 4) (lv' := [(2, _), (0, _), (1, _)]) rfl rfl (Nat.le_of_ble_eq_true rfl) rfl ?_
  exact m_dosL hL he h59 hdg f _ k1 k0 (e - (s + 1)) (s + 1) G f M (by omega) (Nat.le_refl _) rfl hC x_fr.rf
theorem q_kd_48 {c : Nat} (h : ¬ q_kd c = 9) : 48 ≤ c := by
  unfold q_kd at h
  repeat' split at h
  all_goals omega
theorem m_does {s : Nat} (hC : m_tb z f M0 M G) (hL : q_M M0 L ℓ) (hs : s < L) (hsk : q_sk (q_t L ℓ) s = none) (h1 : ∀ G', q_do (q_t L ℓ) s G = some G' → ∀ (f' : x_H) (M' : x_N), m_tb z f' M0 M' G' → x_fr (fun q => q < 59) f f' → post (some (.int 1)) f') (h0 : q_do (q_t L ℓ) s G = none → ∀ (f' : x_H) (M' : x_N) (G' : q_G × Nat), m_tb z f' M0 M' G' → x_fr (fun q => q < 59) f f' → post (some (.int 0)) f') : Y E 6 mX6_does [.ref 59, .int (nI s)] z f 0 0 post := by
  refine Y.intro gX6_does (lv := [(0, .ref 59), (1, .int (nI s))]) rfl (Nat.le_of_ble_eq_true rfl) ?_
  obtain ⟨s1, s2, s3, s4⟩ := q_sk_no hsk
  obtain ⟨n1, n2, n3, n4⟩ := q_dn_is hsk
  have hdg := q_sk_dg hsk
  have l2 := hL.2.1
  obtain ⟨hM, hm, h8, hok, hmv, hks, h18⟩ := id hC
  have hn9 := hok.1
  have hL' : q_M M L ℓ := hL.ks hks
  have hel := q_ed_lt hL.2.2.2 hsk
  have hkk : ∀ G', q_do (q_t L ℓ) s G = some G' → g_ok 99 G'.1 ∧ G'.2 ≤ 999 := fun G' e => q_do_ok hsk hok hmv e
  obtain ⟨t1, t2, t3, t4, t5, t6, t7⟩ := id hm
  rcases q_md_in s1 with h98 | h99 | h102 | h108 | h116 | h115
  · have hdn := n1 h98
    have hp0 : q_p0 (q_t L ℓ) s = s + 2 := if_pos h98
    have hed : q_ed (q_t L ℓ) s = s + 4 := by unfold q_ed; rw [hp0, hdn]
    have hd2 := hdg (s + 2) (by omega) (by omega)
    have hd3 := hdg (s + 3) (by omega) (by omega)
    have hd2a := hd2.1
    have hd2b := hd2.2
    have hd3a := hd3.1
    have hd3b := hd3.2
    have hkd := s2 h98
    have hk48 := q_kd_48 hkd
    have hk5 := (q_kd_in hkd).2.2.2
    have hk255 := (q_kd_in hkd).2.2.1
    have hdo : q_do (q_t L ℓ) s G = if 20 < 10 * (q_t L ℓ (s + 2) - 48) + (q_t L ℓ (s + 3) - 48) ∨ g_n G.1 = 9 then none else some (g_add G.1 (q_kd (q_t L ℓ (s + 1))) (10 * (q_t L ℓ (s + 2) - 48) + (q_t L ℓ (s + 3) - 48)), G.2) := by
      unfold q_do
      rw [if_pos h98]
    rw [hdo] at h1 h0 hkk
    clear hdo
    refine x_aload_n (pc' := 1) rfl rfl rfl ?_
    refine x_get (pc' := 4) rfl rfl rfl (hM.1) rfl ?_
    refine x_iload_n (pc' := 5) rfl rfl rfl ?_
    refine x_iaload (pc' := 6) rfl rfl (hM.2.1 4 (by decide)) (vp_in_nI (n := s) (N := 96) (by omega) (by decide)) ?_
    refine x_eqi ((q_M_at hL' hs).trans (congrArg nI h98)) ?_
    refine x_istore_n (pc' := 7) (lv' := [(2, _), (0, _), (1, _)]) rfl rfl (Nat.le_of_ble_eq_true rfl) rfl ?_
    refine x_aload_n (pc' := 8) rfl rfl rfl ?_
    refine x_iload_n (pc' := 9) rfl rfl rfl ?_
    refine x_iconst (pc' := 10) rfl rfl iconst_1 ?_
    refine x_iadd (pc' := 11) rfl rfl ?_
    refine x_eqi (nI_1 s) ?_
    refine x_cV1i (d := 1) (pc' := 14) rfl rfl sX6_132 gX6_digit (hM.1) ⟨Nat.le_of_ble_eq_true rfl, Nat.le_of_ble_eq_true rfl⟩ (Nat.le_of_ble_eq_true rfl) ⟨Nat.le_of_ble_eq_true rfl, Nat.le_of_ble_eq_true rfl⟩ ?_
    refine m_digit hM hL' (by omega) hk48 ⟨_, rfl, ?_⟩
    refine x_istore_n (pc' := 15) (lv' := [(3, _), (2, _), (0, _), (1, _)]) rfl rfl (Nat.le_of_ble_eq_true rfl) rfl ?_
    refine x_iload_n (pc' := 16) rfl rfl rfl ?_
    refine x_bipush (pc' := 18) rfl rfl bipush_98 ?_
    refine x_icmp_ne (tgt := 102) (pc' := 21) rfl rfl rfl (fun c18 => absurd ((by decide : nI 98 = 98)) c18) (fun _ => ?_)
    refine x_bipush (pc' := 23) rfl rfl bipush_10 ?_
    refine x_aload_n (pc' := 24) rfl rfl rfl ?_
    refine x_iload_n (pc' := 25) rfl rfl rfl ?_
    refine x_iconst (pc' := 26) rfl rfl iconst_2 ?_
    refine x_iadd (pc' := 27) rfl rfl ?_
    refine x_eqi (show nI s + 2 = nI (s + 2) from nI_add s 2) ?_
    refine x_cV1i (d := 1) (pc' := 30) rfl rfl sX6_132 gX6_digit (hM.1) ⟨Nat.le_of_ble_eq_true rfl, Nat.le_of_ble_eq_true rfl⟩ (Nat.le_of_ble_eq_true rfl) ⟨Nat.le_of_ble_eq_true rfl, Nat.le_of_ble_eq_true rfl⟩ ?_
    refine m_digit hM hL' (by omega) hd2a ⟨_, rfl, ?_⟩
    refine x_imul (pc' := 31) rfl rfl ?_
    refine x_eqi (show 10 * nI (q_t L ℓ (s + 2) - 48) = nI (10 * (q_t L ℓ (s + 2) - 48)) from pk_mul 10 _) ?_
    refine x_aload_n (pc' := 32) rfl rfl rfl ?_
    refine x_iload_n (pc' := 33) rfl rfl rfl ?_
    refine x_iconst (pc' := 34) rfl rfl iconst_3 ?_
    refine x_iadd (pc' := 35) rfl rfl ?_
    refine x_eqi (show nI s + 3 = nI (s + 3) from nI_add s 3) ?_
    refine x_cV1i (d := 1) (pc' := 38) rfl rfl sX6_132 gX6_digit (hM.1) ⟨Nat.le_of_ble_eq_true rfl, Nat.le_of_ble_eq_true rfl⟩ (Nat.le_of_ble_eq_true rfl) ⟨Nat.le_of_ble_eq_true rfl, Nat.le_of_ble_eq_true rfl⟩ ?_
    refine m_digit hM hL' (by omega) hd3a ⟨_, rfl, ?_⟩
    refine x_iadd (pc' := 39) rfl rfl ?_
    refine x_eqi (nI_add _ _) ?_
    generalize hv : 10 * (q_t L ℓ (s + 2) - 48) + (q_t L ℓ (s + 3) - 48) = v at *
    refine x_istore (pc' := 41) (lv' := [(4, _), (3, _), (2, _), (0, _), (1, _)]) rfl rfl (Nat.le_of_ble_eq_true rfl) rfl ?_
    refine x_iload (pc' := 43) rfl rfl rfl ?_
    refine x_bipush (pc' := 45) rfl rfl bipush_20 ?_
    by_cases d1 : 20 < v
    · rw [if_pos (Or.inl d1)] at h0
      refine x_icmp_gt (tgt := 57) (pc' := 48) rfl rfl rfl (fun _ => ?_) (fun q => absurd (nI_lt (a := 20) d1 (by omega)) q)
      refine x_iconst (pc' := 58) rfl rfl iconst_0 ?_
      exact x_ireturn rfl rfl rfl (Nat.le_of_ble_eq_true rfl) (Nat.le_of_ble_eq_true rfl) (h0 rfl _ _ _ hC x_fr.rf)
    · refine x_icmp_gt (tgt := 57) (pc' := 48) rfl rfl rfl (fun q => absurd q (nI_nlt (a := 20) (by omega) (by decide))) (fun _ => ?_)
      refine x_aload_n (pc' := 49) rfl rfl rfl ?_
      refine x_get (pc' := 52) rfl rfl rfl (hM.1) rfl ?_
      refine x_eqi t4 ?_
      refine x_bipush (pc' := 54) rfl rfl bipush_9 ?_
      by_cases d2 : g_n G.1 = 9
      · rw [if_pos (Or.inr d2)] at h0
        refine x_icmp_ne (tgt := 59) (pc' := 57) rfl rfl rfl (fun q => absurd (by rw [d2]; decide) q) (fun _ => ?_)
        refine x_iconst (pc' := 58) rfl rfl iconst_0 ?_
        exact x_ireturn rfl rfl rfl (Nat.le_of_ble_eq_true rfl) (Nat.le_of_ble_eq_true rfl) (h0 rfl _ _ _ hC x_fr.rf)
      · refine x_icmp_ne (tgt := 59) (pc' := 57) rfl rfl rfl (fun _ => ?_) (fun q => absurd ((nI_eq (b := 9) (by omega) (by decide)).mp q) d2)
        have e10 : (if 20 < v ∨ g_n G.1 = 9 then none else some (g_add G.1 (q_kd (q_t L ℓ (s + 1))) v, G.2)) = some (g_add G.1 (q_kd (q_t L ℓ (s + 1))) v, G.2) := if_neg (fun q => q.elim d1 d2)
        refine x_aload_n (pc' := 60) rfl rfl rfl ?_
        refine x_get (pc' := 63) rfl rfl rfl (hM.1) rfl ?_
        refine x_aload_n (pc' := 64) rfl rfl rfl ?_
        refine x_get (pc' := 67) rfl rfl rfl (hM.1) rfl ?_
        refine x_eqi t4 ?_
        refine x_aload_n (pc' := 68) rfl rfl rfl ?_
        refine x_get (pc' := 71) rfl rfl rfl (hM.1) rfl ?_
        refine x_iload_n (pc' := 72) rfl rfl rfl ?_
        refine x_iconst (pc' := 73) rfl rfl iconst_1 ?_
        refine x_iadd (pc' := 74) rfl rfl ?_
        refine x_eqi (nI_1 s) ?_
        refine x_iaload (pc' := 75) rfl rfl (hM.2.1 4 (by decide)) (vp_in_nI (n := s + 1) (N := 96) (by omega) (by decide)) ?_
        refine x_eqi ((q_M_at hL' (by omega)).trans (q_cI_ne (by omega)).symm) ?_
        refine x_cS1i (d := 1) (pc' := 78) rfl rfl sX6_122 gX6_kindOf ⟨Nat.le_of_ble_eq_true rfl, Nat.le_of_ble_eq_true rfl⟩ (Nat.le_of_ble_eq_true rfl) ⟨Nat.le_of_ble_eq_true rfl, Nat.le_of_ble_eq_true rfl⟩ ?_
        refine m_kindO (by omega) ⟨_, rfl, ?_⟩
        rw [if_neg hkd]
        refine x_iastore (pc' := 79) rfl rfl (hM.2.1 0 (by decide)) (vp_in_nI (n := g_n G.1) (N := 9) (by omega) (by decide)) (fun f1 e1 => ?_)
        have hM1 := hM.arr 0 (by decide) e1
        have hF1 := r_fr0 e1 (by decide)
        refine x_aload_n (pc' := 80) rfl rfl rfl ?_
        refine x_get (pc' := 83) rfl rfl rfl (hM1.1) rfl ?_
        refine x_aload_n (pc' := 84) rfl rfl rfl ?_
        refine x_get (pc' := 87) rfl rfl rfl (hM1.1) rfl ?_
        refine x_eqi t4 ?_
        refine x_iload (pc' := 89) rfl rfl rfl ?_
        refine x_iastore (pc' := 90) rfl rfl (hM1.2.1 1 (by decide)) (vp_in_nI (n := g_n G.1) (N := 9) (by omega) (by decide)) (fun f2 e2 => ?_)
        have hM2 := hM1.arr 1 (by decide) e2
        have hF2 := hF1.trans (r_fr0 e2 (by decide))
        refine x_aload_n (pc' := 91) rfl rfl rfl ?_
        refine x_dup (pc' := 92) rfl rfl rfl ?_
        refine x_get (pc' := 95) rfl rfl rfl (hM2.1) rfl ?_
        refine x_eqi t4 ?_
        refine x_iconst (pc' := 96) rfl rfl iconst_1 ?_
        refine x_iadd (pc' := 97) rfl rfl ?_
        refine x_eqi (nI_1 _) ?_
        refine x_put (pc' := 100) rfl rfl rfl (hM2.1) (Nat.le_of_ble_eq_true rfl) rfl rfl rfl rfl (fun f3 e3 => ?_)
        have hM3 := hM2.num 3 e3 (x_mFs3 _ _)
        have hF3 := hF2.trans (r_fr0 e3 (by decide))
        refine x_iconst (pc' := 101) rfl rfl iconst_1 ?_
        refine x_ireturn rfl rfl rfl (Nat.le_of_ble_eq_true rfl) (Nat.le_of_ble_eq_true rfl) (h1 _ e10 _ _ ⟨hM3, ⟨?_, ?_, t3, rfl, t5, t6, t7⟩, h8, (hkk _ e10).1, (hkk _ e10).2, hks.trans ⟨fun j a b c => ?_, fun i hi => pk_un (by omega)⟩, h18⟩ hF3)
        · show upd (M.2.1 0) (nI (g_n G.1)).toNatClampNeg (nI (q_kd (q_t L ℓ (s + 1)))) = _
          rw [nI_clamp (by omega), t1, q_up_I]
          rfl
        · show upd (M.2.1 1) (nI (g_n G.1)).toNatClampNeg (nI v) = _
          rw [nI_clamp (by omega), t2, q_up_I]
          rfl
        · show x_ua (x_ua M.2.1 0 _) 1 _ j = M.2.1 j
          unfold x_ua
          rw [if_neg b, if_neg a]
  · have hdn := n2 h99
    have hp0 : q_p0 (q_t L ℓ) s = s + 1 := if_neg (by omega)
    have hed : q_ed (q_t L ℓ) s = s + 3 := by unfold q_ed; rw [hp0, hdn]
    have hd1 := hdg (s + 1) (by omega) (by omega)
    have hd2 := hdg (s + 2) (by omega) (by omega)
    have hd1a := hd1.1
    have hd2a := hd2.1
    have hv9 : q_t L ℓ (s + 1) - 48 ≤ 9 := by have := hd1.2; omega
    have hw9 : q_t L ℓ (s + 2) - 48 ≤ 9 := by have := hd2.2; omega
    have hdo : q_do (q_t L ℓ) s G = if q_t L ℓ (s + 1) - 48 < g_n G.1 ∧ q_t L ℓ (s + 2) - 48 < g_n G.1 ∧ ¬ q_t L ℓ (s + 1) - 48 = q_t L ℓ (s + 2) - 48 then some (g_sw G.1 (q_t L ℓ (s + 1) - 48) (q_t L ℓ (s + 2) - 48), G.2) else none := by
      unfold q_do
      rw [if_neg (by omega), if_neg (by omega), if_pos h99]
    rw [hdo] at h1 h0 hkk
    clear hdo
    refine x_aload_n (pc' := 1) rfl rfl rfl ?_
    refine x_get (pc' := 4) rfl rfl rfl (hM.1) rfl ?_
    refine x_iload_n (pc' := 5) rfl rfl rfl ?_
    refine x_iaload (pc' := 6) rfl rfl (hM.2.1 4 (by decide)) (vp_in_nI (n := s) (N := 96) (by omega) (by decide)) ?_
    refine x_eqi ((q_M_at hL' hs).trans (congrArg nI h99)) ?_
    refine x_istore_n (pc' := 7) (lv' := [(2, _), (0, _), (1, _)]) rfl rfl (Nat.le_of_ble_eq_true rfl) rfl ?_
    refine x_aload_n (pc' := 8) rfl rfl rfl ?_
    refine x_iload_n (pc' := 9) rfl rfl rfl ?_
    refine x_iconst (pc' := 10) rfl rfl iconst_1 ?_
    refine x_iadd (pc' := 11) rfl rfl ?_
    refine x_eqi (nI_1 s) ?_
    refine x_cV1i (d := 1) (pc' := 14) rfl rfl sX6_132 gX6_digit (hM.1) ⟨Nat.le_of_ble_eq_true rfl, Nat.le_of_ble_eq_true rfl⟩ (Nat.le_of_ble_eq_true rfl) ⟨Nat.le_of_ble_eq_true rfl, Nat.le_of_ble_eq_true rfl⟩ ?_
    refine m_digit hM hL' (by omega) hd1a ⟨_, rfl, ?_⟩
    refine x_istore_n (pc' := 15) (lv' := [(3, _), (2, _), (0, _), (1, _)]) rfl rfl (Nat.le_of_ble_eq_true rfl) rfl ?_
    refine x_iload_n (pc' := 16) rfl rfl rfl ?_
    refine x_bipush (pc' := 18) rfl rfl bipush_98 ?_
    refine x_icmp_ne (tgt := 102) (pc' := 21) rfl rfl rfl (fun _ => ?_) (fun c18 => absurd c18 ((by decide : ¬ nI 99 = 98)))
    refine x_iload_n (pc' := 103) rfl rfl rfl ?_
    refine x_bipush (pc' := 105) rfl rfl bipush_115 ?_
    refine x_icmp_ne (tgt := 114) (pc' := 108) rfl rfl rfl (fun _ => ?_) (fun c105 => absurd c105 ((by decide : ¬ nI 99 = 115)))
    refine x_iload_n (pc' := 115) rfl rfl rfl ?_
    refine x_bipush (pc' := 117) rfl rfl bipush_99 ?_
    refine x_icmp_ne (tgt := 163) (pc' := 120) rfl rfl rfl (fun c117 => absurd ((by decide : nI 99 = 99)) c117) (fun _ => ?_)
    refine x_aload_n (pc' := 121) rfl rfl rfl ?_
    refine x_iload_n (pc' := 122) rfl rfl rfl ?_
    refine x_iconst (pc' := 123) rfl rfl iconst_2 ?_
    refine x_iadd (pc' := 124) rfl rfl ?_
    refine x_eqi (show nI s + 2 = nI (s + 2) from nI_add s 2) ?_
    refine x_cV1i (d := 1) (pc' := 127) rfl rfl sX6_132 gX6_digit (hM.1) ⟨Nat.le_of_ble_eq_true rfl, Nat.le_of_ble_eq_true rfl⟩ (Nat.le_of_ble_eq_true rfl) ⟨Nat.le_of_ble_eq_true rfl, Nat.le_of_ble_eq_true rfl⟩ ?_
    refine m_digit hM hL' (by omega) hd2a ⟨_, rfl, ?_⟩
    generalize hv : q_t L ℓ (s + 1) - 48 = v at *
    generalize hw : q_t L ℓ (s + 2) - 48 = w at *
    refine x_istore (pc' := 129) (lv' := [(4, _), (3, _), (2, _), (0, _), (1, _)]) rfl rfl (Nat.le_of_ble_eq_true rfl) rfl ?_
    refine x_aload_n (pc' := 130) rfl rfl rfl ?_
    refine x_iload_n (pc' := 131) rfl rfl rfl ?_
    refine x_cV1i (d := 2) (pc' := 134) rfl rfl sX6_103 gX6_isBowl (hM.1) ⟨Nat.le_of_ble_eq_true rfl, Nat.le_of_ble_eq_true rfl⟩ (Nat.le_of_ble_eq_true rfl) ⟨Nat.le_of_ble_eq_true rfl, Nat.le_of_ble_eq_true rfl⟩ ?_
    refine m_isB hM hm hn9 (by omega) (fun d1 => ⟨_, rfl, ?_⟩) (fun d1 => ⟨_, rfl, ?_⟩)
    · refine x_if_eq (tgt := 152) (pc' := 137) rfl rfl rfl (fun c134 => absurd c134 ((by decide))) (fun _ => ?_)
      refine x_aload_n (pc' := 138) rfl rfl rfl ?_
      refine x_iload (pc' := 140) rfl rfl rfl ?_
      refine x_cV1i (d := 2) (pc' := 143) rfl rfl sX6_103 gX6_isBowl (hM.1) ⟨Nat.le_of_ble_eq_true rfl, Nat.le_of_ble_eq_true rfl⟩ (Nat.le_of_ble_eq_true rfl) ⟨Nat.le_of_ble_eq_true rfl, Nat.le_of_ble_eq_true rfl⟩ ?_
      refine m_isB hM hm hn9 (by omega) (fun d2 => ⟨_, rfl, ?_⟩) (fun d2 => ⟨_, rfl, ?_⟩)
      · refine x_if_eq (tgt := 152) (pc' := 146) rfl rfl rfl (fun c143 => absurd c143 ((by decide))) (fun _ => ?_)
        refine x_iload_n (pc' := 147) rfl rfl rfl ?_
        refine x_iload (pc' := 149) rfl rfl rfl ?_
        by_cases d3 : v = w
        · rw [if_neg (fun q => q.2.2 d3)] at h0
          refine x_icmp_ne (tgt := 154) (pc' := 152) rfl rfl rfl (fun q => absurd (by rw [d3]) q) (fun _ => ?_)
          refine x_iconst (pc' := 153) rfl rfl iconst_0 ?_
          exact x_ireturn rfl rfl rfl (Nat.le_of_ble_eq_true rfl) (Nat.le_of_ble_eq_true rfl) (h0 rfl _ _ _ hC x_fr.rf)
        · refine x_icmp_ne (tgt := 154) (pc' := 152) rfl rfl rfl (fun _ => ?_) (fun q => absurd ((nI_eq (by omega) (by omega)).mp q) d3)
          have e10 : (if v < g_n G.1 ∧ w < g_n G.1 ∧ ¬ v = w then some (g_sw G.1 v w, G.2) else none) = some (g_sw G.1 v w, G.2) := if_pos ⟨d1, d2, d3⟩
          refine x_aload_n (pc' := 155) rfl rfl rfl ?_
          refine x_iload_n (pc' := 156) rfl rfl rfl ?_
          refine x_iload (pc' := 158) rfl rfl rfl ?_
          refine x_cV2v (d := 1) (pc' := 161) rfl rfl sX6_147 gX6_exchanges (hM.1) ⟨Nat.le_of_ble_eq_true rfl, Nat.le_of_ble_eq_true rfl⟩ (Nat.le_of_ble_eq_true rfl) ⟨Nat.le_of_ble_eq_true rfl, Nat.le_of_ble_eq_true rfl⟩ ?_
          refine m_exch (v := v) (w := w) hM (by omega) (by omega) (fun f1 hM1 hF1 => ⟨rfl, ?_⟩)
          refine x_iconst (pc' := 162) rfl rfl iconst_1 ?_
          refine x_ireturn rfl rfl rfl (Nat.le_of_ble_eq_true rfl) (Nat.le_of_ble_eq_true rfl) (h1 _ e10 _ _ ⟨hM1, ⟨t1, ?_, t3, t4, t5, t6, t7⟩, h8, (hkk _ e10).1, (hkk _ e10).2, hks.trans ⟨fun j a b c => if_neg b, fun i hi => rfl⟩, h18⟩ hF1)
          show upd (upd (M.2.1 1) v (M.2.1 1 w)) w (M.2.1 1 v) = _
          rw [t2, q_up_I, q_up_I]
          rfl
      · rw [if_neg (fun q => d2 q.2.1)] at h0
        refine x_if_eq (tgt := 152) (pc' := 146) rfl rfl rfl (fun _ => ?_) (fun c143 => absurd (rfl) c143)
        refine x_iconst (pc' := 153) rfl rfl iconst_0 ?_
        exact x_ireturn rfl rfl rfl (Nat.le_of_ble_eq_true rfl) (Nat.le_of_ble_eq_true rfl) (h0 rfl _ _ _ hC x_fr.rf)
    · rw [if_neg (fun q => d1 q.1)] at h0
      refine x_if_eq (tgt := 152) (pc' := 137) rfl rfl rfl (fun _ => ?_) (fun c134 => absurd (rfl) c134)
      refine x_iconst (pc' := 153) rfl rfl iconst_0 ?_
      exact x_ireturn rfl rfl rfl (Nat.le_of_ble_eq_true rfl) (Nat.le_of_ble_eq_true rfl) (h0 rfl _ _ _ hC x_fr.rf)
  · have hdn := n3 (by omega)
    have hp0 : q_p0 (q_t L ℓ) s = s + 1 := if_neg (by omega)
    have hed : q_ed (q_t L ℓ) s = s + 2 := by unfold q_ed; rw [hp0, hdn]
    have hd1 := hdg (s + 1) (by omega) (by omega)
    have hd1a := hd1.1
    have hv9 : q_t L ℓ (s + 1) - 48 ≤ 9 := by have := hd1.2; omega
    have hdo : q_do (q_t L ℓ) s G = if q_t L ℓ (s + 1) - 48 = 0 then none else some ((G.1.1, G.1.2.1, G.1.2.2.1, g_n G.1, q_t L ℓ (s + 1) - 48, g_l G.1, g_t G.1), G.2) := by
      unfold q_do
      rw [if_neg (by omega), if_neg (by omega), if_neg (by omega), if_pos h102]
    rw [hdo] at h1 h0 hkk
    clear hdo
    refine x_aload_n (pc' := 1) rfl rfl rfl ?_
    refine x_get (pc' := 4) rfl rfl rfl (hM.1) rfl ?_
    refine x_iload_n (pc' := 5) rfl rfl rfl ?_
    refine x_iaload (pc' := 6) rfl rfl (hM.2.1 4 (by decide)) (vp_in_nI (n := s) (N := 96) (by omega) (by decide)) ?_
    refine x_eqi ((q_M_at hL' hs).trans (congrArg nI h102)) ?_
    refine x_istore_n (pc' := 7) (lv' := [(2, _), (0, _), (1, _)]) rfl rfl (Nat.le_of_ble_eq_true rfl) rfl ?_
    refine x_aload_n (pc' := 8) rfl rfl rfl ?_
    refine x_iload_n (pc' := 9) rfl rfl rfl ?_
    refine x_iconst (pc' := 10) rfl rfl iconst_1 ?_
    refine x_iadd (pc' := 11) rfl rfl ?_
    refine x_eqi (nI_1 s) ?_
    refine x_cV1i (d := 1) (pc' := 14) rfl rfl sX6_132 gX6_digit (hM.1) ⟨Nat.le_of_ble_eq_true rfl, Nat.le_of_ble_eq_true rfl⟩ (Nat.le_of_ble_eq_true rfl) ⟨Nat.le_of_ble_eq_true rfl, Nat.le_of_ble_eq_true rfl⟩ ?_
    refine m_digit hM hL' (by omega) hd1a ⟨_, rfl, ?_⟩
    generalize hv : q_t L ℓ (s + 1) - 48 = v at *
    refine x_istore_n (pc' := 15) (lv' := [(3, _), (2, _), (0, _), (1, _)]) rfl rfl (Nat.le_of_ble_eq_true rfl) rfl ?_
    refine x_iload_n (pc' := 16) rfl rfl rfl ?_
    refine x_bipush (pc' := 18) rfl rfl bipush_98 ?_
    refine x_icmp_ne (tgt := 102) (pc' := 21) rfl rfl rfl (fun _ => ?_) (fun c18 => absurd c18 ((by decide : ¬ nI 102 = 98)))
    refine x_iload_n (pc' := 103) rfl rfl rfl ?_
    refine x_bipush (pc' := 105) rfl rfl bipush_115 ?_
    refine x_icmp_ne (tgt := 114) (pc' := 108) rfl rfl rfl (fun _ => ?_) (fun c105 => absurd c105 ((by decide : ¬ nI 102 = 115)))
    refine x_iload_n (pc' := 115) rfl rfl rfl ?_
    refine x_bipush (pc' := 117) rfl rfl bipush_99 ?_
    refine x_icmp_ne (tgt := 163) (pc' := 120) rfl rfl rfl (fun _ => ?_) (fun c117 => absurd c117 ((by decide : ¬ nI 102 = 99)))
    refine x_iload_n (pc' := 164) rfl rfl rfl ?_
    refine x_bipush (pc' := 166) rfl rfl bipush_102 ?_
    refine x_icmp_ne (tgt := 176) (pc' := 169) rfl rfl rfl (fun c166 => absurd ((by decide : nI 102 = 102)) c166) (fun _ => ?_)
    refine x_iload_n (pc' := 170) rfl rfl rfl ?_
    by_cases d1 : v = 0
    · rw [if_pos d1] at h0
      refine x_if_ne (tgt := 183) (pc' := 173) rfl rfl rfl (fun q => absurd (by rw [d1]; rfl) q) (fun _ => ?_)
      refine x_goto (tgt := 181) rfl rfl ?_
      refine x_iconst (pc' := 182) rfl rfl iconst_0 ?_
      exact x_ireturn rfl rfl rfl (Nat.le_of_ble_eq_true rfl) (Nat.le_of_ble_eq_true rfl) (h0 rfl _ _ _ hC x_fr.rf)
    · refine x_if_ne (tgt := 183) (pc' := 173) rfl rfl rfl (fun _ => ?_) (fun q => absurd q (nI_ne0 (by omega) (by omega)))
      have e10 : (if v = 0 then none else some ((G.1.1, G.1.2.1, G.1.2.2.1, g_n G.1, v, g_l G.1, g_t G.1), G.2)) = some ((G.1.1, G.1.2.1, G.1.2.2.1, g_n G.1, v, g_l G.1, g_t G.1), G.2) := if_neg d1
      refine x_iload_n (pc' := 184) rfl rfl rfl ?_
      refine x_bipush (pc' := 186) rfl rfl bipush_102 ?_
      refine x_icmp_ne (tgt := 197) (pc' := 189) rfl rfl rfl (fun c186 => absurd ((by decide : nI 102 = 102)) c186) (fun _ => ?_)
      refine x_aload_n (pc' := 190) rfl rfl rfl ?_
      refine x_iload_n (pc' := 191) rfl rfl rfl ?_
      refine x_put (pc' := 194) rfl rfl rfl (hM.1) (Nat.le_of_ble_eq_true rfl) rfl rfl rfl rfl (fun f1 e1 => ?_)
      have hM1 := hM.num 4 e1 (x_mFs4 _ _)
      have hF1 := r_fr0 e1 (by decide)
      refine x_goto (tgt := 216) rfl rfl ?_
      refine x_iconst (pc' := 217) rfl rfl iconst_1 ?_
      exact x_ireturn rfl rfl rfl (Nat.le_of_ble_eq_true rfl) (Nat.le_of_ble_eq_true rfl) (h1 _ e10 _ _ ⟨hM1, ⟨t1, t2, t3, t4, rfl, t6, t7⟩, h8, (hkk _ e10).1, (hkk _ e10).2, hks.trans ⟨fun j a b c => rfl, fun i hi => pk_un (by omega)⟩, h18⟩ hF1)
  · have hdn := n3 (by omega)
    have hp0 : q_p0 (q_t L ℓ) s = s + 1 := if_neg (by omega)
    have hed : q_ed (q_t L ℓ) s = s + 2 := by unfold q_ed; rw [hp0, hdn]
    have hd1 := hdg (s + 1) (by omega) (by omega)
    have hd1a := hd1.1
    have hv9 : q_t L ℓ (s + 1) - 48 ≤ 9 := by have := hd1.2; omega
    have hdo : q_do (q_t L ℓ) s G = if 1 < q_t L ℓ (s + 1) - 48 then none else some ((G.1.1, G.1.2.1, G.1.2.2.1, g_n G.1, g_f G.1, q_t L ℓ (s + 1) - 48, g_t G.1), G.2) := by
      unfold q_do
      rw [if_neg (by omega), if_neg (by omega), if_neg (by omega), if_neg (by omega), if_pos h108]
    rw [hdo] at h1 h0 hkk
    clear hdo
    refine x_aload_n (pc' := 1) rfl rfl rfl ?_
    refine x_get (pc' := 4) rfl rfl rfl (hM.1) rfl ?_
    refine x_iload_n (pc' := 5) rfl rfl rfl ?_
    refine x_iaload (pc' := 6) rfl rfl (hM.2.1 4 (by decide)) (vp_in_nI (n := s) (N := 96) (by omega) (by decide)) ?_
    refine x_eqi ((q_M_at hL' hs).trans (congrArg nI h108)) ?_
    refine x_istore_n (pc' := 7) (lv' := [(2, _), (0, _), (1, _)]) rfl rfl (Nat.le_of_ble_eq_true rfl) rfl ?_
    refine x_aload_n (pc' := 8) rfl rfl rfl ?_
    refine x_iload_n (pc' := 9) rfl rfl rfl ?_
    refine x_iconst (pc' := 10) rfl rfl iconst_1 ?_
    refine x_iadd (pc' := 11) rfl rfl ?_
    refine x_eqi (nI_1 s) ?_
    refine x_cV1i (d := 1) (pc' := 14) rfl rfl sX6_132 gX6_digit (hM.1) ⟨Nat.le_of_ble_eq_true rfl, Nat.le_of_ble_eq_true rfl⟩ (Nat.le_of_ble_eq_true rfl) ⟨Nat.le_of_ble_eq_true rfl, Nat.le_of_ble_eq_true rfl⟩ ?_
    refine m_digit hM hL' (by omega) hd1a ⟨_, rfl, ?_⟩
    generalize hv : q_t L ℓ (s + 1) - 48 = v at *
    refine x_istore_n (pc' := 15) (lv' := [(3, _), (2, _), (0, _), (1, _)]) rfl rfl (Nat.le_of_ble_eq_true rfl) rfl ?_
    refine x_iload_n (pc' := 16) rfl rfl rfl ?_
    refine x_bipush (pc' := 18) rfl rfl bipush_98 ?_
    refine x_icmp_ne (tgt := 102) (pc' := 21) rfl rfl rfl (fun _ => ?_) (fun c18 => absurd c18 ((by decide : ¬ nI 108 = 98)))
    refine x_iload_n (pc' := 103) rfl rfl rfl ?_
    refine x_bipush (pc' := 105) rfl rfl bipush_115 ?_
    refine x_icmp_ne (tgt := 114) (pc' := 108) rfl rfl rfl (fun _ => ?_) (fun c105 => absurd c105 ((by decide : ¬ nI 108 = 115)))
    refine x_iload_n (pc' := 115) rfl rfl rfl ?_
    refine x_bipush (pc' := 117) rfl rfl bipush_99 ?_
    refine x_icmp_ne (tgt := 163) (pc' := 120) rfl rfl rfl (fun _ => ?_) (fun c117 => absurd c117 ((by decide : ¬ nI 108 = 99)))
    refine x_iload_n (pc' := 164) rfl rfl rfl ?_
    refine x_bipush (pc' := 166) rfl rfl bipush_102 ?_
    refine x_icmp_ne (tgt := 176) (pc' := 169) rfl rfl rfl (fun _ => ?_) (fun c166 => absurd c166 ((by decide : ¬ nI 108 = 102)))
    refine x_iload_n (pc' := 177) rfl rfl rfl ?_
    refine x_iconst (pc' := 178) rfl rfl iconst_1 ?_
    by_cases d1 : 1 < v
    · rw [if_pos d1] at h0
      refine x_icmp_le (tgt := 183) (pc' := 181) rfl rfl rfl (fun q => absurd q (nI_ge (a := 1) d1 (by omega))) (fun _ => ?_)
      refine x_iconst (pc' := 182) rfl rfl iconst_0 ?_
      exact x_ireturn rfl rfl rfl (Nat.le_of_ble_eq_true rfl) (Nat.le_of_ble_eq_true rfl) (h0 rfl _ _ _ hC x_fr.rf)
    · refine x_icmp_le (tgt := 183) (pc' := 181) rfl rfl rfl (fun _ => ?_) (fun q => absurd (nI_le (b := 1) (by omega) (by decide)) q)
      have e10 : (if 1 < v then none else some ((G.1.1, G.1.2.1, G.1.2.2.1, g_n G.1, g_f G.1, v, g_t G.1), G.2)) = some ((G.1.1, G.1.2.1, G.1.2.2.1, g_n G.1, g_f G.1, v, g_t G.1), G.2) := if_neg d1
      refine x_iload_n (pc' := 184) rfl rfl rfl ?_
      refine x_bipush (pc' := 186) rfl rfl bipush_102 ?_
      refine x_icmp_ne (tgt := 197) (pc' := 189) rfl rfl rfl (fun _ => ?_) (fun c186 => absurd c186 ((by decide : ¬ nI 108 = 102)))
      refine x_iload_n (pc' := 198) rfl rfl rfl ?_
      refine x_bipush (pc' := 200) rfl rfl bipush_108 ?_
      refine x_icmp_ne (tgt := 211) (pc' := 203) rfl rfl rfl (fun c200 => absurd ((by decide : nI 108 = 108)) c200) (fun _ => ?_)
      refine x_aload_n (pc' := 204) rfl rfl rfl ?_
      refine x_iload_n (pc' := 205) rfl rfl rfl ?_
      refine x_put (pc' := 208) rfl rfl rfl (hM.1) (Nat.le_of_ble_eq_true rfl) rfl rfl rfl rfl (fun f1 e1 => ?_)
      have hM1 := hM.num 5 e1 (x_mFs5 _ _)
      have hF1 := r_fr0 e1 (by decide)
      refine x_goto (tgt := 216) rfl rfl ?_
      refine x_iconst (pc' := 217) rfl rfl iconst_1 ?_
      exact x_ireturn rfl rfl rfl (Nat.le_of_ble_eq_true rfl) (Nat.le_of_ble_eq_true rfl) (h1 _ e10 _ _ ⟨hM1, ⟨t1, t2, t3, t4, t5, rfl, t7⟩, h8, (hkk _ e10).1, (hkk _ e10).2, hks.trans ⟨fun j a b c => rfl, fun i hi => pk_un (by omega)⟩, h18⟩ hF1)
  · have hdn := n3 (by omega)
    have hp0 : q_p0 (q_t L ℓ) s = s + 1 := if_neg (by omega)
    have hed : q_ed (q_t L ℓ) s = s + 2 := by unfold q_ed; rw [hp0, hdn]
    have hd1 := hdg (s + 1) (by omega) (by omega)
    have hd1a := hd1.1
    have hv9 : q_t L ℓ (s + 1) - 48 ≤ 9 := by have := hd1.2; omega
    have hdo : q_do (q_t L ℓ) s G = if 1 < q_t L ℓ (s + 1) - 48 then none else some ((G.1.1, G.1.2.1, G.1.2.2.1, g_n G.1, g_f G.1, g_l G.1, q_t L ℓ (s + 1) - 48), G.2) := by
      unfold q_do
      rw [if_neg (by omega), if_neg (by omega), if_neg (by omega), if_neg (by omega), if_neg (by omega)]
    rw [hdo] at h1 h0 hkk
    clear hdo
    refine x_aload_n (pc' := 1) rfl rfl rfl ?_
    refine x_get (pc' := 4) rfl rfl rfl (hM.1) rfl ?_
    refine x_iload_n (pc' := 5) rfl rfl rfl ?_
    refine x_iaload (pc' := 6) rfl rfl (hM.2.1 4 (by decide)) (vp_in_nI (n := s) (N := 96) (by omega) (by decide)) ?_
    refine x_eqi ((q_M_at hL' hs).trans (congrArg nI h116)) ?_
    refine x_istore_n (pc' := 7) (lv' := [(2, _), (0, _), (1, _)]) rfl rfl (Nat.le_of_ble_eq_true rfl) rfl ?_
    refine x_aload_n (pc' := 8) rfl rfl rfl ?_
    refine x_iload_n (pc' := 9) rfl rfl rfl ?_
    refine x_iconst (pc' := 10) rfl rfl iconst_1 ?_
    refine x_iadd (pc' := 11) rfl rfl ?_
    refine x_eqi (nI_1 s) ?_
    refine x_cV1i (d := 1) (pc' := 14) rfl rfl sX6_132 gX6_digit (hM.1) ⟨Nat.le_of_ble_eq_true rfl, Nat.le_of_ble_eq_true rfl⟩ (Nat.le_of_ble_eq_true rfl) ⟨Nat.le_of_ble_eq_true rfl, Nat.le_of_ble_eq_true rfl⟩ ?_
    refine m_digit hM hL' (by omega) hd1a ⟨_, rfl, ?_⟩
    generalize hv : q_t L ℓ (s + 1) - 48 = v at *
    refine x_istore_n (pc' := 15) (lv' := [(3, _), (2, _), (0, _), (1, _)]) rfl rfl (Nat.le_of_ble_eq_true rfl) rfl ?_
    refine x_iload_n (pc' := 16) rfl rfl rfl ?_
    refine x_bipush (pc' := 18) rfl rfl bipush_98 ?_
    refine x_icmp_ne (tgt := 102) (pc' := 21) rfl rfl rfl (fun _ => ?_) (fun c18 => absurd c18 ((by decide : ¬ nI 116 = 98)))
    refine x_iload_n (pc' := 103) rfl rfl rfl ?_
    refine x_bipush (pc' := 105) rfl rfl bipush_115 ?_
    refine x_icmp_ne (tgt := 114) (pc' := 108) rfl rfl rfl (fun _ => ?_) (fun c105 => absurd c105 ((by decide : ¬ nI 116 = 115)))
    refine x_iload_n (pc' := 115) rfl rfl rfl ?_
    refine x_bipush (pc' := 117) rfl rfl bipush_99 ?_
    refine x_icmp_ne (tgt := 163) (pc' := 120) rfl rfl rfl (fun _ => ?_) (fun c117 => absurd c117 ((by decide : ¬ nI 116 = 99)))
    refine x_iload_n (pc' := 164) rfl rfl rfl ?_
    refine x_bipush (pc' := 166) rfl rfl bipush_102 ?_
    refine x_icmp_ne (tgt := 176) (pc' := 169) rfl rfl rfl (fun _ => ?_) (fun c166 => absurd c166 ((by decide : ¬ nI 116 = 102)))
    refine x_iload_n (pc' := 177) rfl rfl rfl ?_
    refine x_iconst (pc' := 178) rfl rfl iconst_1 ?_
    by_cases d1 : 1 < v
    · rw [if_pos d1] at h0
      refine x_icmp_le (tgt := 183) (pc' := 181) rfl rfl rfl (fun q => absurd q (nI_ge (a := 1) d1 (by omega))) (fun _ => ?_)
      refine x_iconst (pc' := 182) rfl rfl iconst_0 ?_
      exact x_ireturn rfl rfl rfl (Nat.le_of_ble_eq_true rfl) (Nat.le_of_ble_eq_true rfl) (h0 rfl _ _ _ hC x_fr.rf)
    · refine x_icmp_le (tgt := 183) (pc' := 181) rfl rfl rfl (fun _ => ?_) (fun q => absurd (nI_le (b := 1) (by omega) (by decide)) q)
      have e10 : (if 1 < v then none else some ((G.1.1, G.1.2.1, G.1.2.2.1, g_n G.1, g_f G.1, g_l G.1, v), G.2)) = some ((G.1.1, G.1.2.1, G.1.2.2.1, g_n G.1, g_f G.1, g_l G.1, v), G.2) := if_neg d1
      refine x_iload_n (pc' := 184) rfl rfl rfl ?_
      refine x_bipush (pc' := 186) rfl rfl bipush_102 ?_
      refine x_icmp_ne (tgt := 197) (pc' := 189) rfl rfl rfl (fun _ => ?_) (fun c186 => absurd c186 ((by decide : ¬ nI 116 = 102)))
      refine x_iload_n (pc' := 198) rfl rfl rfl ?_
      refine x_bipush (pc' := 200) rfl rfl bipush_108 ?_
      refine x_icmp_ne (tgt := 211) (pc' := 203) rfl rfl rfl (fun _ => ?_) (fun c200 => absurd c200 ((by decide : ¬ nI 116 = 108)))
      refine x_aload_n (pc' := 212) rfl rfl rfl ?_
      refine x_iload_n (pc' := 213) rfl rfl rfl ?_
      refine x_put (pc' := 216) rfl rfl rfl (hM.1) (Nat.le_of_ble_eq_true rfl) rfl rfl rfl rfl (fun f1 e1 => ?_)
      have hM1 := hM.num 7 e1 (x_mFs7 _ _)
      have hF1 := r_fr0 e1 (by decide)
      refine x_iconst (pc' := 217) rfl rfl iconst_1 ?_
      exact x_ireturn rfl rfl rfl (Nat.le_of_ble_eq_true rfl) (Nat.le_of_ble_eq_true rfl) (h1 _ e10 _ _ ⟨hM1, ⟨t1, t2, t3, t4, t5, t6, rfl⟩, h8, (hkk _ e10).1, (hkk _ e10).2, hks.trans ⟨fun j a b c => rfl, fun i hi => pk_un (by omega)⟩, h18⟩ hF1)
  · have hdn := n4 h115
    have hp0 : q_p0 (q_t L ℓ) s = s + 1 := if_neg (by omega)
    have hed : q_ed (q_t L ℓ) s = s + 1 + q_dn (q_t L ℓ) s := by unfold q_ed; rw [hp0]
    have hd1 := hdg (s + 1) (by omega) (by omega)
    have hd1a := hd1.1
    have hdo : q_do (q_t L ℓ) s G = q_ms2 (q_t L ℓ) (q_ed (q_t L ℓ) s - (s + 1)) (s + 1) G := by
      unfold q_do
      rw [if_neg (by omega), if_pos h115, hed, show s + 1 + q_dn (q_t L ℓ) s - (s + 1) = q_dn (q_t L ℓ) s by omega]
    rw [hdo] at h1 h0
    refine x_aload_n (pc' := 1) rfl rfl rfl ?_
    refine x_get (pc' := 4) rfl rfl rfl (hM.1) rfl ?_
    refine x_iload_n (pc' := 5) rfl rfl rfl ?_
    refine x_iaload (pc' := 6) rfl rfl (hM.2.1 4 (by decide)) (vp_in_nI (n := s) (N := 96) (by omega) (by decide)) ?_
    refine x_eqi ((q_M_at hL' hs).trans (congrArg nI h115)) ?_
    refine x_istore_n (pc' := 7) (lv' := [(2, _), (0, _), (1, _)]) rfl rfl (Nat.le_of_ble_eq_true rfl) rfl ?_
    refine x_aload_n (pc' := 8) rfl rfl rfl ?_
    refine x_iload_n (pc' := 9) rfl rfl rfl ?_
    refine x_iconst (pc' := 10) rfl rfl iconst_1 ?_
    refine x_iadd (pc' := 11) rfl rfl ?_
    refine x_eqi (nI_1 s) ?_
    refine x_cV1i (d := 1) (pc' := 14) rfl rfl sX6_132 gX6_digit (hM.1) ⟨Nat.le_of_ble_eq_true rfl, Nat.le_of_ble_eq_true rfl⟩ (Nat.le_of_ble_eq_true rfl) ⟨Nat.le_of_ble_eq_true rfl, Nat.le_of_ble_eq_true rfl⟩ ?_
    refine m_digit hM hL' (by omega) hd1a ⟨_, rfl, ?_⟩
    refine x_istore_n (pc' := 15) (lv' := [(3, _), (2, _), (0, _), (1, _)]) rfl rfl (Nat.le_of_ble_eq_true rfl) rfl ?_
    refine x_iload_n (pc' := 16) rfl rfl rfl ?_
    refine x_bipush (pc' := 18) rfl rfl bipush_98 ?_
    refine x_icmp_ne (tgt := 102) (pc' := 21) rfl rfl rfl (fun _ => ?_) (fun c18 => absurd c18 ((by decide : ¬ nI 115 = 98)))
    refine x_iload_n (pc' := 103) rfl rfl rfl ?_
    refine x_bipush (pc' := 105) rfl rfl bipush_115 ?_
    refine x_icmp_ne (tgt := 114) (pc' := 108) rfl rfl rfl (fun c105 => absurd ((by decide : nI 115 = 115)) c105) (fun _ => ?_)
    refine x_aload_n (pc' := 109) rfl rfl rfl ?_
    refine x_iload_n (pc' := 110) rfl rfl rfl ?_
    refine x_cV1i (d := 5) (pc' := 113) rfl rfl sX6_144 gX6_doesSowings (hM.1) ⟨Nat.le_of_ble_eq_true rfl, Nat.le_of_ble_eq_true rfl⟩ (Nat.le_of_ble_eq_true rfl) ⟨Nat.le_of_ble_eq_true rfl, Nat.le_of_ble_eq_true rfl⟩ ?_
    refine m_dos (s := s) (e := q_ed (q_t L ℓ) s) hC hL hel (by omega) s4 (fun j hj => hdg j (by omega)) (fun G' e9 f9 M9 hC9 hF9 => ⟨_, rfl, ?_⟩) (fun e9 f9 M9 G9 hC9 hF9 => ⟨_, rfl, ?_⟩)
    · exact x_ireturn rfl rfl rfl (Nat.le_of_ble_eq_true rfl) (Nat.le_of_ble_eq_true rfl) (h1 _ e9 _ _ hC9 hF9)
    · exact x_ireturn rfl rfl rfl (Nat.le_of_ble_eq_true rfl) (Nat.le_of_ble_eq_true rfl) (h0 e9 _ _ _ hC9 hF9)
end GS
end
section
-- == 65.gameT
/-! The reference's game. -/
section GT
variable {E : x_E} {z : Nat} {f : x_H} {M M0 : x_N} {A : q_A} {post : Option Value → x_H → Prop} {L : Nat} {ℓ : Nat → Nat} {g : q_G} {G : q_G × Nat} {m : Nat}
theorem r_gmF {p : Nat} {c s : Int32} (hM : x_Mdl z f M) (h20 : M.1 20 = nI p) (hp : p < 2 ^ 31) (h : ∀ f' : x_H, x_Mdl z f' (upd M.1 11 0, M.2.1, M.2.2) → x_fr (fun q => q < 59) f f' → post (some (.int (-1000 - nI p))) f') : X E (x_rm 9 0 0) mX6_game (x_QM E z 0 0 post) 9 [(2, .int c), (1, .int s), (0, .ref 59)] [] z f 0 0 := by
  refine x_aload_n (pc' := 10) rfl rfl rfl ?_
  refine x_get (pc' := 13) rfl rfl rfl (hM.1) rfl ?_
  refine x_eqi h20 ?_
  refine x_if_ge (tgt := 40) (pc' := 16) rfl rfl rfl (fun _ => ?_) (fun c13 => absurd ((nI_pos' hp)) c13)
  refine x_aload_n (pc' := 41) rfl rfl rfl ?_
  refine x_get (pc' := 44) rfl rfl rfl (hM.1) rfl ?_
  refine x_eqi h20 ?_
  refine x_if_lt (tgt := 61) (pc' := 47) rfl rfl rfl (fun c44 => absurd c44 ((nI_pos hp))) (fun _ => ?_)
  refine x_aload_n (pc' := 48) rfl rfl rfl ?_
  refine x_iconst (pc' := 49) rfl rfl iconst_0 ?_
  refine x_put (pc' := 52) rfl rfl rfl (hM.1) (Nat.le_of_ble_eq_true rfl) rfl rfl rfl rfl (fun f1 e1 => ?_)
  have hM1 := hM.num 11 e1 (x_mFs11 _ _)
  have hF1 := r_fr0 e1 (by decide)
  refine x_sipush (pc' := 55) rfl rfl sipush_m1000 ?_
  refine x_aload_n (pc' := 56) rfl rfl rfl ?_
  refine x_get (pc' := 59) rfl rfl rfl (hM1.1) rfl ?_
  refine x_eqi (show upd M.1 11 0 20 = nI p from (pk_un (by decide)).trans h20) ?_
  refine x_isub (pc' := 60) rfl rfl ?_
  exact x_ireturn rfl rfl rfl (Nat.le_of_ble_eq_true rfl) (Nat.le_of_ble_eq_true rfl) (h _ hM1 hF1)
theorem r_gm1 {N : Nat} (hM : x_Mdl z f M) (hL : q_M M L ℓ) (h20 : M.1 20 = -1) (R : Option Nat) (hR5 : ∀ p, R = some p → p < 2 ^ 31) (kf : ∀ p, R = some p → ∀ f' : x_H, x_Mdl z f' (upd (upd M.1 20 (nI p)) 11 0, M.2.1, M.2.2) → x_fr (fun q => q < 59) f f' → post (some (.int (-1000 - nI p))) f') (kn : R = none → X E (x_rm 9 0 0) mX6_game (x_QM E z 0 0 post) 61 [(2, .int (nI N)), (1, .int (nI L)), (0, .ref 59)] [] z f 0 0) : ∀ (k c s : Nat), 1 ≤ c → c ≤ s → s ≤ L → L ≤ s + k → q_fa (q_t L ℓ) L k s = R → (R = none → c + q_ct (q_t L ℓ) L k s = N) → X E (x_rm 9 0 0) mX6_game (x_QM E z 0 0 post) 9 [(2, .int (nI c)), (1, .int (nI s)), (0, .ref 59)] [] z f 0 0 := by
  have l2 := hL.2.1
  have fin : ∀ (c s : Nat), 1 ≤ c → c ≤ s → s = L → R = none → c = N → X E (x_rm 9 0 0) mX6_game (x_QM E z 0 0 post) 9 [(2, .int (nI c)), (1, .int (nI s)), (0, .ref 59)] [] z f 0 0 := by
    intro c s h1 h2 h3 h4 h5
    subst h3
    subst h5
    refine x_aload_n (pc' := 10) rfl rfl rfl ?_
    refine x_get (pc' := 13) rfl rfl rfl (hM.1) rfl ?_
    refine x_eqi h20 ?_
    refine x_if_ge (tgt := 40) (pc' := 16) rfl rfl rfl (fun c13 => absurd c13 ((by decide))) (fun _ => ?_)
    refine x_iload_n (pc' := 17) rfl rfl rfl ?_
    refine x_aload_n (pc' := 18) rfl rfl rfl ?_
    refine x_get (pc' := 21) rfl rfl rfl (hM.1) rfl ?_
    refine x_eqi hL.1 ?_
    refine x_icmp_lt (tgt := 28) (pc' := 24) rfl rfl rfl (fun c21 => absurd c21 (Int32.lt_irrefl)) (fun _ => ?_)
    refine x_iload_n (pc' := 25) rfl rfl rfl ?_
    refine x_if_ne (tgt := 40) (pc' := 28) rfl rfl rfl (fun _ => ?_) (fun c25 => absurd c25 ((nI_ne0 (by omega) (by omega))))
    refine x_aload_n (pc' := 41) rfl rfl rfl ?_
    refine x_get (pc' := 44) rfl rfl rfl (hM.1) rfl ?_
    refine x_eqi h20 ?_
    refine x_if_lt (tgt := 61) (pc' := 47) rfl rfl rfl (fun _ => ?_) (fun c44 => absurd ((by decide)) c44)
    exact kn h4
  intro k
  induction k with
  | zero =>
    intro c s h1 h2 h3 h4 hR hN
    have hR2 : R = none := hR.symm
    have hN2 : c + 0 = N := hN hR2
    exact fin c s h1 h2 (by omega) hR2 (by omega)
  | succ k ih =>
    intro c s h1 h2 h3 h4 hR hN
    by_cases hs : s < L
    · unfold q_fa at hR
      rw [if_pos hs] at hR
      unfold q_ct at hN
      rw [if_pos hs] at hN
      refine x_aload_n (pc' := 10) rfl rfl rfl ?_
      refine x_get (pc' := 13) rfl rfl rfl (hM.1) rfl ?_
      refine x_eqi h20 ?_
      refine x_if_ge (tgt := 40) (pc' := 16) rfl rfl rfl (fun c13 => absurd c13 ((by decide))) (fun _ => ?_)
      refine x_iload_n (pc' := 17) rfl rfl rfl ?_
      refine x_aload_n (pc' := 18) rfl rfl rfl ?_
      refine x_get (pc' := 21) rfl rfl rfl (hM.1) rfl ?_
      refine x_eqi hL.1 ?_
      refine x_icmp_lt (tgt := 28) (pc' := 24) rfl rfl rfl (fun _ => ?_) (fun c21 => absurd ((nI_lt hs (by omega))) c21)
      refine x_aload_n (pc' := 29) rfl rfl rfl ?_
      refine x_iload_n (pc' := 30) rfl rfl rfl ?_
      refine x_cV1i (d := 4) (pc' := 33) rfl rfl sX6_151 gX6_passes (hM.1) ⟨Nat.le_of_ble_eq_true rfl, Nat.le_of_ble_eq_true rfl⟩ (Nat.le_of_ble_eq_true rfl) ⟨Nat.le_of_ble_eq_true rfl, Nat.le_of_ble_eq_true rfl⟩ ?_
      refine m_passes hM hL (by omega) (fun p hsk f1 r hM1 hF1 => ⟨_, rfl, ?_⟩) (fun hsk => ⟨_, rfl, ?_⟩)
      · rw [hsk] at hR
        have hR2 : R = some p := hR.symm
        refine x_istore_n (pc' := 34) (lv' := [(1, _), (2, _), (0, _)]) rfl rfl (Nat.le_of_ble_eq_true rfl) rfl ?_
        refine x_iinc (pc' := 37) (lv' := [(2, _), (1, _), (0, _)]) rfl rfl (Nat.le_of_ble_eq_true rfl) rfl (nI_1 c) rfl ?_
        refine x_goto (tgt := 9) rfl rfl ?_
        exact r_gmF hM1 rfl (hR5 p hR2) (fun f2 hM2 hF2 => kf p hR2 f2 hM2 (hF1.trans hF2))
      · rw [hsk] at hR
        have hel := q_ed_lt hL.2.2.2 hsk
        have heg := q_ed_gt (t := q_t L ℓ) (s := s)
        refine x_istore_n (pc' := 34) (lv' := [(1, _), (2, _), (0, _)]) rfl rfl (Nat.le_of_ble_eq_true rfl) rfl ?_
        refine x_iinc (pc' := 37) (lv' := [(2, _), (1, _), (0, _)]) rfl rfl (Nat.le_of_ble_eq_true rfl) rfl (nI_1 c) rfl ?_
        refine x_goto (tgt := 9) rfl rfl ?_
        exact ih (c + 1) _ (by omega) (by omega) (by omega) (by omega) hR (fun q => by have := hN q; omega)
    · rw [q_fa_end hs] at hR
      have hR2 : R = none := hR.symm
      have hN2 := hN hR2
      rw [q_ct_end hs] at hN2
      exact fin c s h1 h2 (by omega) hR2 (by omega)
theorem r_gmK {a b : Int32} (f0 : x_H) (M0 : x_N) (K : ∀ f' : x_H, x_Mdl z f' (M0.1, x_ua M0.2.1 7 (x_cpk 9 (M0.2.1 0) (M0.2.1 7)), M0.2.2) → x_fr (fun q => q < 59) f0 f' → X E (x_rm 9 0 0) mX6_game (x_QM E z 0 0 post) 93 [(3, .int (nI 9)), (2, .int a), (1, .int b), (0, .ref 59)] [] z f' 0 0) : ∀ (k i : Nat) (f : x_H), i + k = 9 → x_Mdl z f (M0.1, x_ua M0.2.1 7 (x_cpk i (M0.2.1 0) (M0.2.1 7)), M0.2.2) → x_fr (fun q => q < 59) f0 f → X E (x_rm 9 0 0) mX6_game (x_QM E z 0 0 post) 69 [(3, .int (nI i)), (2, .int a), (1, .int b), (0, .ref 59)] [] z f 0 0 := by
  intro k
  induction k with
  | zero =>
    intro i f hi hM hF
    have hi2 : i = 9 := by omega
    subst hi2
    refine x_iload_n (pc' := 70) rfl rfl rfl ?_
    refine x_bipush (pc' := 72) rfl rfl bipush_9 ?_
    refine x_icmp_ge (tgt := 93) (pc' := 75) rfl rfl rfl (fun _ => ?_) (fun c72 => absurd ((by decide : (9 : Int32) ≤ nI 9)) c72)
    exact K _ hM hF
  | succ k ih =>
    intro i f hi hM hF
    have hcl : (nI i).toNatClampNeg = i := nI_clamp (by omega)
    refine x_iload_n (pc' := 70) rfl rfl rfl ?_
    refine x_bipush (pc' := 72) rfl rfl bipush_9 ?_
    refine x_icmp_ge (tgt := 93) (pc' := 75) rfl rfl rfl (fun c72 => absurd c72 ((nI_ge (a := i) (b := 9) (by omega) (by decide)))) (fun _ => ?_)
    refine x_aload_n (pc' := 76) rfl rfl rfl ?_
    refine x_get (pc' := 79) rfl rfl rfl (hM.1) rfl ?_
    refine x_iload_n (pc' := 80) rfl rfl rfl ?_
    refine x_aload_n (pc' := 81) rfl rfl rfl ?_
    refine x_get (pc' := 84) rfl rfl rfl (hM.1) rfl ?_
    refine x_iload_n (pc' := 85) rfl rfl rfl ?_
    refine x_iaload (pc' := 86) rfl rfl (hM.2.1 0 (by decide)) (vp_in_nI (n := i) (N := 9) (by omega) (by decide)) ?_
    refine x_eqi (show M0.2.1 0 (nI i).toNatClampNeg = M0.2.1 0 i from by rw [hcl]) ?_
    refine x_iastore (pc' := 87) rfl rfl (hM.2.1 7 (by decide)) (vp_in_nI (n := i) (N := 9) (by omega) (by decide)) (fun f1 e1 => ?_)
    have hM1 := hM.arr 7 (by decide) e1
    have hF1 := hF.up e1 (by decide)
    refine x_iinc (pc' := 90) (lv' := [(3, _), (2, _), (1, _), (0, _)]) rfl rfl (Nat.le_of_ble_eq_true rfl) rfl (nI_1 i) rfl ?_
    refine x_goto (tgt := 69) rfl rfl ?_
    refine ih (i + 1) _ (by omega) ?_ hF1
    have e9 : x_ua (x_ua M0.2.1 7 (x_cpk i (M0.2.1 0) (M0.2.1 7))) 7 (upd (x_cpk i (M0.2.1 0) (M0.2.1 7)) (nI i).toNatClampNeg (M0.2.1 0 i)) = x_ua M0.2.1 7 (x_cpk (i + 1) (M0.2.1 0) (M0.2.1 7)) := by rw [x_ua_ua, hcl, x_cpk_s]
    rw [← e9]
    exact hM1
theorem r_gmR {a1 a2 a3 a4 a5 a6 a7 : Int32} (f0 : x_H) (M0 : x_N) (K : ∀ f' : x_H, x_Mdl z f' (M0.1, x_ua M0.2.1 0 (x_cpk 9 (M0.2.1 7) (M0.2.1 0)), M0.2.2) → x_fr (fun q => q < 59) f0 f' → X E (x_rm 9 0 0) mX6_game (x_QM E z 0 0 post) 206 [(8, .int (nI 9)), (1, .int a1), (7, .int a7), (6, .int a6), (5, .int a5), (4, .int a4), (3, .int a3), (2, .int a2), (0, .ref 59)] [] z f' 0 0) : ∀ (k i : Nat) (f : x_H), i + k = 9 → x_Mdl z f (M0.1, x_ua M0.2.1 0 (x_cpk i (M0.2.1 7) (M0.2.1 0)), M0.2.2) → x_fr (fun q => q < 59) f0 f → X E (x_rm 9 0 0) mX6_game (x_QM E z 0 0 post) 179 [(8, .int (nI i)), (1, .int a1), (7, .int a7), (6, .int a6), (5, .int a5), (4, .int a4), (3, .int a3), (2, .int a2), (0, .ref 59)] [] z f 0 0 := by
  intro k
  induction k with
  | zero =>
    intro i f hi hM hF
    have hi2 : i = 9 := by omega
    subst hi2
    refine x_iload (pc' := 181) rfl rfl rfl ?_
    refine x_bipush (pc' := 183) rfl rfl bipush_9 ?_
    refine x_icmp_ge (tgt := 206) (pc' := 186) rfl rfl rfl (fun _ => ?_) (fun c183 => absurd ((by decide : (9 : Int32) ≤ nI 9)) c183)
    exact K _ hM hF
  | succ k ih =>
    intro i f hi hM hF
    have hcl : (nI i).toNatClampNeg = i := nI_clamp (by omega)
    refine x_iload (pc' := 181) rfl rfl rfl ?_
    refine x_bipush (pc' := 183) rfl rfl bipush_9 ?_
    refine x_icmp_ge (tgt := 206) (pc' := 186) rfl rfl rfl (fun c183 => absurd c183 ((nI_ge (a := i) (b := 9) (by omega) (by decide)))) (fun _ => ?_)
    refine x_aload_n (pc' := 187) rfl rfl rfl ?_
    refine x_get (pc' := 190) rfl rfl rfl (hM.1) rfl ?_
    refine x_iload (pc' := 192) rfl rfl rfl ?_
    refine x_aload_n (pc' := 193) rfl rfl rfl ?_
    refine x_get (pc' := 196) rfl rfl rfl (hM.1) rfl ?_
    refine x_iload (pc' := 198) rfl rfl rfl ?_
    refine x_iaload (pc' := 199) rfl rfl (hM.2.1 7 (by decide)) (vp_in_nI (n := i) (N := 9) (by omega) (by decide)) ?_
    refine x_eqi (show M0.2.1 7 (nI i).toNatClampNeg = M0.2.1 7 i from by rw [hcl]) ?_
    refine x_iastore (pc' := 200) rfl rfl (hM.2.1 0 (by decide)) (vp_in_nI (n := i) (N := 9) (by omega) (by decide)) (fun f1 e1 => ?_)
    have hM1 := hM.arr 0 (by decide) e1
    have hF1 := hF.up e1 (by decide)
    refine x_iinc (pc' := 203) (lv' := [(8, _), (1, _), (7, _), (6, _), (5, _), (4, _), (3, _), (2, _), (0, _)]) rfl rfl (Nat.le_of_ble_eq_true rfl) rfl (nI_1 i) rfl ?_
    refine x_goto (tgt := 179) rfl rfl ?_
    refine ih (i + 1) _ (by omega) ?_ hF1
    have e9 : x_ua (x_ua M0.2.1 0 (x_cpk i (M0.2.1 7) (M0.2.1 0))) 0 (upd (x_cpk i (M0.2.1 7) (M0.2.1 0)) (nI i).toNatClampNeg (M0.2.1 7 i)) = x_ua M0.2.1 0 (x_cpk (i + 1) (M0.2.1 7) (M0.2.1 0)) := by rw [x_ua_ua, hcl, x_cpk_s]
    rw [← e9]
    exact hM1
theorem r_gm3 {a2 a3 a4 a5 a6 : Int32} (hL : q_M M0 L ℓ) (f0 : x_H) (R : Nat ⊕ (q_G × Nat))
    (k1 : ∀ G', R = .inr G' → ∀ (f' : x_H) (M' : x_N) (w : Int32), m_tb z f' M0 M' G' → x_fr (fun q => q < 59) f0 f' → X E (x_rm 9 0 0) mX6_game (x_QM E z 0 0 post) 158 [(1, .int w), (7, .int 0), (6, .int a6), (5, .int a5), (4, .int a4), (3, .int a3), (2, .int a2), (0, .ref 59)] [] z f' 0 0)
    (k0 : ∀ p, R = .inl p → ∀ (f' : x_H) (M' : x_N) (G' : q_G × Nat) (w : Int32), m_tb z f' M0 M' G' → x_fr (fun q => q < 59) f0 f' → X E (x_rm 9 0 0) mX6_game (x_QM E z 0 0 post) 158 [(1, .int w), (7, .int (-2000 - nI p)), (6, .int a6), (5, .int a5), (4, .int a4), (3, .int a3), (2, .int a2), (0, .ref 59)] [] z f' 0 0) :
    ∀ (k s : Nat) (G : q_G × Nat) (f : x_H) (M : x_N), s ≤ L → L ≤ s + k → q_fa (q_t L ℓ) L k s = none → q_rn (q_t L ℓ) L k s G = R → m_tb z f M0 M G → x_fr (fun q => q < 59) f0 f → X E (x_rm 9 0 0) mX6_game (x_QM E z 0 0 post) 121 [(1, .int (nI s)), (7, .int 0), (6, .int a6), (5, .int a5), (4, .int a4), (3, .int a3), (2, .int a2), (0, .ref 59)] [] z f 0 0 := by
  have l2 := hL.2.1
  intro k
  induction k with
  | zero =>
    intro s G f M h3 h4 h5 hR hC hF
    have hR2 : R = .inr G := hR.symm
    have hM := hC.1
    have hL' : q_M M L ℓ := hL.ks hC.2.2.2.2.2.1
    refine x_iload (pc' := 123) rfl rfl rfl ?_
    refine x_if_ne (tgt := 158) (pc' := 126) rfl rfl rfl (fun c123 => absurd (rfl) c123) (fun _ => ?_)
    refine x_iload_n (pc' := 127) rfl rfl rfl ?_
    refine x_aload_n (pc' := 128) rfl rfl rfl ?_
    refine x_get (pc' := 131) rfl rfl rfl (hM.1) rfl ?_
    refine x_eqi hL'.1 ?_
    refine x_icmp_ge (tgt := 158) (pc' := 134) rfl rfl rfl (fun _ => ?_) (fun c131 => absurd ((nI_le (by omega) (by omega))) c131)
    exact k1 G hR2 _ _ _ hC hF
  | succ k ih =>
    intro s G f M h3 h4 h5 hR hC hF
    have hM := hC.1
    have hL' : q_M M L ℓ := hL.ks hC.2.2.2.2.2.1
    by_cases hs : s < L
    · obtain ⟨hsk, h6⟩ := q_fa_go hs h5
      unfold q_rn at hR
      rw [if_pos hs] at hR
      have hel := q_ed_lt hL.2.2.2 hsk
      have heg := q_ed_gt (t := q_t L ℓ) (s := s)
      have hng := q_neg2 s (by omega)
      refine x_iload (pc' := 123) rfl rfl rfl ?_
      refine x_if_ne (tgt := 158) (pc' := 126) rfl rfl rfl (fun c123 => absurd (rfl) c123) (fun _ => ?_)
      refine x_iload_n (pc' := 127) rfl rfl rfl ?_
      refine x_aload_n (pc' := 128) rfl rfl rfl ?_
      refine x_get (pc' := 131) rfl rfl rfl (hM.1) rfl ?_
      refine x_eqi hL'.1 ?_
      refine x_icmp_ge (tgt := 158) (pc' := 134) rfl rfl rfl (fun c131 => absurd c131 ((nI_ge hs (by omega)))) (fun _ => ?_)
      refine x_aload_n (pc' := 135) rfl rfl rfl ?_
      refine x_iload_n (pc' := 136) rfl rfl rfl ?_
      refine x_cV1i (d := 6) (pc' := 139) rfl rfl sX6_157 gX6_does (hM.1) ⟨Nat.le_of_ble_eq_true rfl, Nat.le_of_ble_eq_true rfl⟩ (Nat.le_of_ble_eq_true rfl) ⟨Nat.le_of_ble_eq_true rfl, Nat.le_of_ble_eq_true rfl⟩ ?_
      refine m_does hC hL hs hsk (fun G' e9 f9 M9 hC9 hF9 => ⟨_, rfl, ?_⟩) (fun e9 f9 M9 G9 hC9 hF9 => ⟨_, rfl, ?_⟩)
      · rw [e9] at hR
        have hM9 := hC9.1
        have hL9 : q_M M9 L ℓ := hL.ks hC9.2.2.2.2.2.1
        refine x_if_ne (tgt := 149) (pc' := 142) rfl rfl rfl (fun _ => ?_) (fun c139 => absurd c139 ((by decide)))
        refine x_aload_n (pc' := 150) rfl rfl rfl ?_
        refine x_iload_n (pc' := 151) rfl rfl rfl ?_
        refine x_cV1i (d := 4) (pc' := 154) rfl rfl sX6_151 gX6_passes (hM9.1) ⟨Nat.le_of_ble_eq_true rfl, Nat.le_of_ble_eq_true rfl⟩ (Nat.le_of_ble_eq_true rfl) ⟨Nat.le_of_ble_eq_true rfl, Nat.le_of_ble_eq_true rfl⟩ ?_
        refine m_passes hM9 hL9 (by omega) (fun p e => by rw [hsk] at e; cases e) (fun _ => ⟨_, rfl, ?_⟩)
        refine x_istore_n (pc' := 155) (lv' := [(1, _), (7, _), (6, _), (5, _), (4, _), (3, _), (2, _), (0, _)]) rfl rfl (Nat.le_of_ble_eq_true rfl) rfl ?_
        refine x_goto (tgt := 121) rfl rfl ?_
        exact ih _ G' f9 M9 (by omega) (by omega) h6 hR hC9 (hF.trans hF9)
      · rw [e9] at hR
        have hM9 := hC9.1
        have hL9 : q_M M9 L ℓ := hL.ks hC9.2.2.2.2.2.1
        have hR2 : R = .inl s := hR.symm
        refine x_if_ne (tgt := 149) (pc' := 142) rfl rfl rfl (fun c139 => absurd (rfl) c139) (fun _ => ?_)
        refine x_sipush (pc' := 145) rfl rfl sipush_m2000 ?_
        refine x_iload_n (pc' := 146) rfl rfl rfl ?_
        refine x_isub (pc' := 147) rfl rfl ?_
        refine x_istore (pc' := 149) (lv' := [(7, _), (1, _), (6, _), (5, _), (4, _), (3, _), (2, _), (0, _)]) rfl rfl (Nat.le_of_ble_eq_true rfl) rfl ?_
        refine x_aload_n (pc' := 150) rfl rfl rfl ?_
        refine x_iload_n (pc' := 151) rfl rfl rfl ?_
        refine x_cV1i (d := 4) (pc' := 154) rfl rfl sX6_151 gX6_passes (hM9.1) ⟨Nat.le_of_ble_eq_true rfl, Nat.le_of_ble_eq_true rfl⟩ (Nat.le_of_ble_eq_true rfl) ⟨Nat.le_of_ble_eq_true rfl, Nat.le_of_ble_eq_true rfl⟩ ?_
        refine m_passes hM9 hL9 (by omega) (fun p e => by rw [hsk] at e; cases e) (fun _ => ⟨_, rfl, ?_⟩)
        refine x_istore_n (pc' := 155) (lv' := [(1, _), (7, _), (6, _), (5, _), (4, _), (3, _), (2, _), (0, _)]) rfl rfl (Nat.le_of_ble_eq_true rfl) rfl ?_
        refine x_goto (tgt := 121) rfl rfl ?_
        refine x_iload (pc' := 123) rfl rfl rfl ?_
        refine x_if_ne (tgt := 158) (pc' := 126) rfl rfl rfl (fun _ => ?_) (fun c123 => absurd c123 ((fun q => by rw [q] at hng; exact absurd hng (by decide))))
        exact k0 s hR2 _ _ _ _ hC9 (hF.trans hF9)
    · rw [q_rn_end hs] at hR
      have hR2 : R = .inr G := hR.symm
      refine x_iload (pc' := 123) rfl rfl rfl ?_
      refine x_if_ne (tgt := 158) (pc' := 126) rfl rfl rfl (fun c123 => absurd (rfl) c123) (fun _ => ?_)
      refine x_iload_n (pc' := 127) rfl rfl rfl ?_
      refine x_aload_n (pc' := 128) rfl rfl rfl ?_
      refine x_get (pc' := 131) rfl rfl rfl (hM.1) rfl ?_
      refine x_eqi hL'.1 ?_
      refine x_icmp_ge (tgt := 158) (pc' := 134) rfl rfl rfl (fun _ => ?_) (fun c131 => absurd ((nI_le (by omega) (by omega))) c131)
      exact k1 G hR2 _ _ _ hC hF
theorem r_game (hM : x_Mdl z f M) (hA : r_is M A) (ho : a_ok A) (h : r_ends z f post (s_game A)) : Y E 9 mX6_game [.ref 59] z f 0 0 post := by
  refine Y.intro gX6_game (lv := [(0, .ref 59)]) rfl (Nat.le_of_ble_eq_true rfl) ?_
  obtain ⟨b1, b2, b3, b4, b5, b6, b7, b8, b9⟩ := id hA
  obtain ⟨t1, t2, t3, t4, t5, t6, t7⟩ := id b1
  have hlc := ho.2.2.2.1
  have h255 := ho.2.2.2.2.1
  refine x_aload_n (pc' := 1) rfl rfl rfl ?_
  refine x_iconst (pc' := 2) rfl rfl iconst_m1 ?_
  refine x_put (pc' := 5) rfl rfl rfl (hM.1) (Nat.le_of_ble_eq_true rfl) rfl rfl rfl rfl (fun f1 e1 => ?_)
  have hM1 := hM.num 20 e1 (x_mFs20 _ _)
  have hF1 := r_fr0 e1 (by decide)
  refine x_iconst (pc' := 6) rfl rfl iconst_0 ?_
  refine x_istore_n (pc' := 7) (lv' := [(1, _), (0, _)]) rfl rfl (Nat.le_of_ble_eq_true rfl) rfl ?_
  refine x_iconst (pc' := 8) rfl rfl iconst_0 ?_
  refine x_istore_n (pc' := 9) (lv' := [(2, _), (1, _), (0, _)]) rfl rfl (Nat.le_of_ble_eq_true rfl) rfl ?_
  have hL1 : q_M (upd M.1 20 (-1), M.2.1, M.2.2) (a_lc A) (a_lf A) := ⟨b5, hlc, b6, h255⟩
  have h201 : upd M.1 20 (-1) 20 = -1 := pk_us
  have kf : ∀ p, q_ff (a_lc A) (a_lf A) = some p → ∀ f' : x_H, x_Mdl z f' (upd (upd (upd M.1 20 (-1)) 20 (nI p)) 11 0, M.2.1, M.2.2) → x_fr (fun q => q < 59) f1 f' → post (some (.int (-1000 - nI p))) f' := by
    intro p hff f2 hM2 hF2
    unfold s_game at h
    rw [hff] at h
    exact h _ _ hM2 ⟨⟨t1, t2, t3, t4, t5, t6, t7⟩, b2, b3, b4.eq (fun i hi => (pk_un (by omega)).trans ((pk_un (by omega)).trans (pk_un (by omega)))) rfl rfl, rfl, b6, b7, b8, b9⟩ (hF1.trans hF2)
  have kn : q_ff (a_lc A) (a_lf A) = none → X E (x_rm 9 0 0) mX6_game (x_QM E z 0 0 post) 61 [(2, .int (nI (q_ct (q_t (a_lc A) (a_lf A)) (a_lc A) (a_lc A) 0))), (1, .int (nI (a_lc A))), (0, .ref 59)] [] z f1 0 0 := by
    intro hff
    unfold s_game at h
    rw [hff] at h
    have hL0 : ¬ a_lc A = 0 := fun q => by unfold q_ff at hff; rw [if_pos q] at hff; cases hff
    have hfa : q_fa (q_t (a_lc A) (a_lf A)) (a_lc A) (a_lc A) 0 = none := by
      unfold q_ff at hff
      rw [if_neg hL0] at hff
      exact hff
    refine x_aload_n (pc' := 62) rfl rfl rfl ?_
    refine x_bipush (pc' := 64) rfl rfl bipush_7 ?_
    refine x_cV1v (d := 1) (pc' := 67) rfl rfl sX6_154 gX6_keeps (hM1.1) ⟨Nat.le_of_ble_eq_true rfl, Nat.le_of_ble_eq_true rfl⟩ (Nat.le_of_ble_eq_true rfl) ⟨Nat.le_of_ble_eq_true rfl, Nat.le_of_ble_eq_true rfl⟩ ?_
    refine m_keeps (l := 7) (g := a_g A) (by decide) hM1 ⟨t1, t2, t3, t4, t5, t6, t7⟩ (fun f2 M2 hM2 g2 k2 fr2 hF2 => ⟨rfl, ?_⟩)
    refine x_iconst (pc' := 68) rfl rfl iconst_0 ?_
    refine x_istore_n (pc' := 69) (lv' := [(3, _), (2, _), (1, _), (0, _)]) rfl rfl (Nat.le_of_ble_eq_true rfl) rfl ?_
    refine r_gmK f2 M2 (fun f3 hM3 hF3 => ?_) 9 0 f2 (by omega) (by rw [x_cpk_0, x_ua_id]; exact hM2) x_fr.rf
    have e3 : M2.1 3 = nI (g_n (a_g A)) := by rw [k2.1]; exact t4
    have e4 : M2.1 4 = nI (g_f (a_g A)) := by rw [k2.1]; exact t5
    have e5 : M2.1 5 = nI (g_l (a_g A)) := by rw [k2.1]; exact t6
    have e8 : M2.1 8 = nI (a_mv A) := by rw [k2.1]; exact b2
    have e18 : M2.1 18 = 0 := by rw [k2.1]; exact b3
    have e11 : M2.1 11 = nI (a_lc A) := by rw [k2.1]; exact b5
    have e13 : M2.1 13 = nI (a_rc A) := by rw [k2.1]; exact b7
    have e28 : ∀ i, 28 ≤ i → M2.1 i = M.1 i := fun i hi => by rw [k2.1]; exact pk_un (by omega)
    have hF23 : x_fr (fun q => q < 59) f f3 := (hF1.trans hF2).trans hF3
    have g3 : m_is (M2.1, x_ua M2.2.1 7 (x_cpk 9 (M2.2.1 0) (M2.2.1 7)), M2.2.2) (a_g A) := g2
    have fr3 : m_fr (M2.1, x_ua M2.2.1 7 (x_cpk 9 (M2.2.1 0) (M2.2.1 7)), M2.2.2) 7 (a_g A) := fr2
    have hks : ∀ M4 : x_N, m_ks (M2.1, x_ua M2.2.1 7 (x_cpk 9 (M2.2.1 0) (M2.2.1 7)), M2.2.2) M4 → (∀ j, j ≠ 0 → j ≠ 1 → j ≠ 2 → j ≠ 6 → j ≠ 7 → M4.2.1 j = M.2.1 j) := fun M4 h4 j j0 j1 j2 j6 j7 => (h4.1 j j0 j1 j2).trans ((if_neg j7).trans (k2.2.1 j j6))
    have hC3 : m_tb z f3 (M2.1, x_ua M2.2.1 7 (x_cpk 9 (M2.2.1 0) (M2.2.1 7)), M2.2.2) (M2.1, x_ua M2.2.1 7 (x_cpk 9 (M2.2.1 0) (M2.2.1 7)), M2.2.2) A.1 := ⟨hM3, g3, e8, ho.1, ho.2.1, m_ks.rf, e18⟩
    have hL3 : q_M (M2.1, x_ua M2.2.1 7 (x_cpk 9 (M2.2.1 0) (M2.2.1 7)), M2.2.2) (a_lc A) (a_lf A) := ⟨e11, hlc, (k2.2.1 4 (by decide)).trans b6, h255⟩
    refine x_aload_n (pc' := 94) rfl rfl rfl ?_
    refine x_get (pc' := 97) rfl rfl rfl (hM3.1) rfl ?_
    refine x_eqi e3 ?_
    refine x_istore_n (pc' := 98) (lv' := [(3, _), (2, _), (1, _), (0, _)]) rfl rfl (Nat.le_of_ble_eq_true rfl) rfl ?_
    refine x_aload_n (pc' := 99) rfl rfl rfl ?_
    refine x_get (pc' := 102) rfl rfl rfl (hM3.1) rfl ?_
    refine x_eqi e4 ?_
    refine x_istore (pc' := 104) (lv' := [(4, _), (3, _), (2, _), (1, _), (0, _)]) rfl rfl (Nat.le_of_ble_eq_true rfl) rfl ?_
    refine x_aload_n (pc' := 105) rfl rfl rfl ?_
    refine x_get (pc' := 108) rfl rfl rfl (hM3.1) rfl ?_
    refine x_eqi e5 ?_
    refine x_istore (pc' := 110) (lv' := [(5, _), (4, _), (3, _), (2, _), (1, _), (0, _)]) rfl rfl (Nat.le_of_ble_eq_true rfl) rfl ?_
    refine x_aload_n (pc' := 111) rfl rfl rfl ?_
    refine x_get (pc' := 114) rfl rfl rfl (hM3.1) rfl ?_
    refine x_eqi e8 ?_
    refine x_istore (pc' := 116) (lv' := [(6, _), (5, _), (4, _), (3, _), (2, _), (1, _), (0, _)]) rfl rfl (Nat.le_of_ble_eq_true rfl) rfl ?_
    refine x_iconst (pc' := 117) rfl rfl iconst_0 ?_
    refine x_istore (pc' := 119) (lv' := [(7, _), (6, _), (5, _), (4, _), (3, _), (2, _), (1, _), (0, _)]) rfl rfl (Nat.le_of_ble_eq_true rfl) rfl ?_
    refine x_iconst (pc' := 120) rfl rfl iconst_0 ?_
    refine x_istore_n (pc' := 121) (lv' := [(1, _), (7, _), (6, _), (5, _), (4, _), (3, _), (2, _), (0, _)]) rfl rfl (Nat.le_of_ble_eq_true rfl) rfl ?_
    refine r_gm3 hL3 f3 (q_rn (q_t (a_lc A) (a_lf A)) (a_lc A) (a_lc A) 0 A.1) (fun G' hrn f4 M4 w hC4 hF4 => ?_) (fun p hrn f4 M4 G' w hC4 hF4 => ?_) (a_lc A) 0 A.1 f3 _ (Nat.zero_le _) (by omega) hfa rfl hC3 x_fr.rf
    · rw [hrn] at h
      obtain ⟨hM4, g4, e84, ok4, mv4, ks4, -⟩ := hC4
      obtain ⟨v1, v2, v3, v4, v5, v6, v7⟩ := g4
      have ks4' := hks M4 ks4
      refine x_aload_n (pc' := 159) rfl rfl rfl ?_
      refine x_iconst (pc' := 160) rfl rfl iconst_0 ?_
      refine x_put (pc' := 163) rfl rfl rfl (hM4.1) (Nat.le_of_ble_eq_true rfl) rfl rfl rfl rfl (fun f2 e2 => ?_)
      have hM5 := hM4.num 11 e2 (x_mFs11 _ _)
      have hF5 := (hF23.trans hF4).trans (r_fr0 e2 (by decide))
      refine x_iload (pc' := 165) rfl rfl rfl ?_
      refine x_if_ne (tgt := 170) (pc' := 168) rfl rfl rfl (fun c165 => absurd (rfl) c165) (fun _ => ?_)
      refine x_iload_n (pc' := 169) rfl rfl rfl ?_
      exact x_ireturn rfl rfl rfl (Nat.le_of_ble_eq_true rfl) (Nat.le_of_ble_eq_true rfl) (h _ _ hM5 ⟨⟨v1, v2, v3, v4, v5, v6, v7⟩, e84, (ks4.2 18 (by omega)).trans e18, b4.eq (fun i hi => (pk_un (by omega)).trans ((ks4.2 i (by omega)).trans (e28 i hi))) (ks4' 9 (by decide) (by decide) (by decide) (by decide) (by decide)) (ks4' 10 (by decide) (by decide) (by decide) (by decide) (by decide)), rfl, (ks4' 4 (by decide) (by decide) (by decide) (by decide) (by decide)).trans b6, (ks4.2 13 (by omega)).trans e13, (ks4' 5 (by decide) (by decide) (by decide) (by decide) (by decide)).trans b8, (ks4' 3 (by decide) (by decide) (by decide) (by decide) (by decide)).trans b9⟩ hF5)
    · rw [hrn] at h
      obtain ⟨hM4, g4, e84, ok4, mv4, ks4, -⟩ := hC4
      obtain ⟨v1, v2, v3, v4, v5, v6, v7⟩ := id g4
      have ks4' := hks M4 ks4
      have hp := q_rn_le (t := q_t (a_lc A) (a_lf A)) _ _ _ _ hrn
      have hng := q_neg2 p (by omega)
      refine x_aload_n (pc' := 159) rfl rfl rfl ?_
      refine x_iconst (pc' := 160) rfl rfl iconst_0 ?_
      refine x_put (pc' := 163) rfl rfl rfl (hM4.1) (Nat.le_of_ble_eq_true rfl) rfl rfl rfl rfl (fun f3 e3 => ?_)
      have hM5 := hM4.num 11 e3 (x_mFs11 _ _)
      have hF5 := (hF23.trans hF4).trans (r_fr0 e3 (by decide))
      refine x_iload (pc' := 165) rfl rfl rfl ?_
      refine x_if_ne (tgt := 170) (pc' := 168) rfl rfl rfl (fun _ => ?_) (fun c165 => absurd c165 ((fun q => by rw [q] at hng; exact absurd hng (by decide))))
      refine x_aload_n (pc' := 171) rfl rfl rfl ?_
      refine x_bipush (pc' := 173) rfl rfl bipush_7 ?_
      refine x_cV1v (d := 1) (pc' := 176) rfl rfl sX6_160 gX6_lays (hM5.1) ⟨Nat.le_of_ble_eq_true rfl, Nat.le_of_ble_eq_true rfl⟩ (Nat.le_of_ble_eq_true rfl) ⟨Nat.le_of_ble_eq_true rfl, Nat.le_of_ble_eq_true rfl⟩ ?_
      refine m_lays (l := 7) (g := a_g A) (g' := G'.1) (by decide) hM5 ⟨v1, v2, v3, v4, v5, v6, v7⟩ (fr3.eq (ks4.1 6 (by decide) (by decide) (by decide))) ho.1 ok4 (fun f6 M6 hM6 g6 y1 y2 y3 hF6 => ⟨rfl, ?_⟩)
      have hn6 : ∀ i, i = 13 ∨ 18 ≤ i → M6.1 i = M2.1 i := fun i hi => (y1 i (by omega)).trans ((pk_un (by omega)).trans (ks4.2 i (by omega)))
      have hr6 : ∀ j, j ≠ 0 → j ≠ 1 → j ≠ 2 → j ≠ 6 → j ≠ 7 → M6.2.1 j = M.2.1 j := fun j j0 j1 j2 j6 j7 => (y2 j j1 j2).trans (ks4' j j0 j1 j2 j6 j7)
      have h116 : M6.1 11 = 0 := (y1 11 (by decide)).trans rfl
      refine x_iconst (pc' := 177) rfl rfl iconst_0 ?_
      refine x_istore (pc' := 179) (lv' := [(8, _), (1, _), (7, _), (6, _), (5, _), (4, _), (3, _), (2, _), (0, _)]) rfl rfl (Nat.le_of_ble_eq_true rfl) rfl ?_
      refine r_gmR f6 M6 (fun f7 hM7 hF7 => ?_) 9 0 f6 (by omega) (by rw [x_cpk_0, x_ua_id]; exact hM6) x_fr.rf
      have hF67 := (hF5.trans hF6).trans hF7
      refine x_aload_n (pc' := 207) rfl rfl rfl ?_
      refine x_iload_n (pc' := 208) rfl rfl rfl ?_
      refine x_put (pc' := 211) rfl rfl rfl (hM7.1) (Nat.le_of_ble_eq_true rfl) rfl rfl rfl rfl (fun f4 e4 => ?_)
      have hM8 := hM7.num 3 e4 (x_mFs3 _ _)
      have hF8 := hF67.trans (r_fr0 e4 (by decide))
      refine x_aload_n (pc' := 212) rfl rfl rfl ?_
      refine x_iload (pc' := 214) rfl rfl rfl ?_
      refine x_put (pc' := 217) rfl rfl rfl (hM8.1) (Nat.le_of_ble_eq_true rfl) rfl rfl rfl rfl (fun f5 e5 => ?_)
      have hM9 := hM8.num 4 e5 (x_mFs4 _ _)
      have hF9 := hF8.trans (r_fr0 e5 (by decide))
      refine x_aload_n (pc' := 218) rfl rfl rfl ?_
      refine x_iload (pc' := 220) rfl rfl rfl ?_
      refine x_put (pc' := 223) rfl rfl rfl (hM9.1) (Nat.le_of_ble_eq_true rfl) rfl rfl rfl rfl (fun f6 e6 => ?_)
      have hM10 := hM9.num 5 e6 (x_mFs5 _ _)
      have hF10 := hF9.trans (r_fr0 e6 (by decide))
      refine x_aload_n (pc' := 224) rfl rfl rfl ?_
      refine x_iload (pc' := 226) rfl rfl rfl ?_
      refine x_put (pc' := 229) rfl rfl rfl (hM10.1) (Nat.le_of_ble_eq_true rfl) rfl rfl rfl rfl (fun f7 e7 => ?_)
      have hM11 := hM10.num 8 e7 (x_mFs8 _ _)
      have hF11 := hF10.trans (r_fr0 e7 (by decide))
      refine x_iload (pc' := 231) rfl rfl rfl ?_
      obtain ⟨u1, u2, u3, u4, u5, u6, u7⟩ := g6
      have hk0 : x_cpk 9 (M6.2.1 7) (M6.2.1 0) = fun i => nI (g_κ (a_g A) i) := by
        funext j
        unfold x_cpk
        by_cases hj : j < 9
        · rw [if_pos hj, y2 7 (by decide) (by decide)]
          show M4.2.1 7 j = _
          rw [ks4.1 7 (by decide) (by decide) (by decide)]
          show (if j < 9 then M2.2.1 0 j else _) = _
          rw [if_pos hj, g2.1]
        · rw [if_neg hj, u1]
          show nI (g_κ G'.1 j) = nI (g_κ (a_g A) j)
          rw [(ok4.2.2.2.2.2.2.2.1 j (by omega)).1, (ho.1.2.2.2.2.2.2.2.1 j (by omega)).1]
      have hpn : ∀ i, i = 11 ∨ i = 13 ∨ 18 ≤ i → (upd (upd (upd (upd M6.1 3 (nI (g_n (a_g A)))) 4 (nI (g_f (a_g A)))) 5 (nI (g_l (a_g A)))) 8 (nI (a_mv A))) i = M6.1 i := fun i hi => (pk_un (by omega)).trans ((pk_un (by omega)).trans ((pk_un (by omega)).trans (pk_un (by omega))))
      exact x_ireturn rfl rfl rfl (Nat.le_of_ble_eq_true rfl) (Nat.le_of_ble_eq_true rfl) (h _ _ hM11 ⟨⟨hk0, u2, u3, rfl, rfl, rfl, u7⟩, rfl, (hpn 18 (by omega)).trans ((hn6 18 (by omega)).trans e18), b4.eq (fun i hi => (hpn i (by omega)).trans ((hn6 i (by omega)).trans (e28 i hi))) (hr6 9 (by decide) (by decide) (by decide) (by decide) (by decide)) (hr6 10 (by decide) (by decide) (by decide) (by decide) (by decide)), (hpn 11 (by omega)).trans h116, (hr6 4 (by decide) (by decide) (by decide) (by decide) (by decide)).trans b6, (hpn 13 (by omega)).trans ((hn6 13 (by omega)).trans e13), (hr6 5 (by decide) (by decide) (by decide) (by decide) (by decide)).trans b8, (hr6 3 (by decide) (by decide) (by decide) (by decide) (by decide)).trans b9⟩ hF11)
  refine x_aload_n (pc' := 10) rfl rfl rfl ?_
  refine x_get (pc' := 13) rfl rfl rfl (hM1.1) rfl ?_
  refine x_eqi h201 ?_
  refine x_if_ge (tgt := 40) (pc' := 16) rfl rfl rfl (fun c13 => absurd c13 ((by decide))) (fun _ => ?_)
  refine x_iload_n (pc' := 17) rfl rfl rfl ?_
  refine x_aload_n (pc' := 18) rfl rfl rfl ?_
  refine x_get (pc' := 21) rfl rfl rfl (hM1.1) rfl ?_
  refine x_eqi hL1.1 ?_
  refine x_icmp_lt (tgt := 28) (pc' := 24) rfl rfl rfl (fun c21 => ?_) (fun c21 => ?_)
  · refine x_aload_n (pc' := 29) rfl rfl rfl ?_
    refine x_iload_n (pc' := 30) rfl rfl rfl ?_
    refine x_cV1i (d := 4) (pc' := 33) rfl rfl sX6_151 gX6_passes (hM1.1) ⟨Nat.le_of_ble_eq_true rfl, Nat.le_of_ble_eq_true rfl⟩ (Nat.le_of_ble_eq_true rfl) ⟨Nat.le_of_ble_eq_true rfl, Nat.le_of_ble_eq_true rfl⟩ ?_
    refine m_passes (s := 0) hM1 hL1 (by decide) (fun p hsk f2 r hM2 hF2 => ⟨_, rfl, ?_⟩) (fun hsk => ⟨_, rfl, ?_⟩)
    · have hff := q_ff_some h255 hsk
      have hp := q_ff_le h255 hff
      refine x_istore_n (pc' := 34) (lv' := [(1, _), (2, _), (0, _)]) rfl rfl (Nat.le_of_ble_eq_true rfl) rfl ?_
      refine x_iinc (pc' := 37) (lv' := [(2, _), (1, _), (0, _)]) rfl rfl (Nat.le_of_ble_eq_true rfl) rfl (nI_1 0) rfl ?_
      refine x_goto (tgt := 9) rfl rfl ?_
      exact r_gmF hM2 rfl (by omega) (fun f3 hM3 hF3 => kf p hff f3 hM3 (hF2.trans hF3))
    · have hel := q_ed_lt h255 hsk
      have heg := q_ed_gt (t := q_t (a_lc A) (a_lf A)) (s := 0)
      obtain ⟨u1, u2⟩ := q_ff_none h255 hsk
      refine x_istore_n (pc' := 34) (lv' := [(1, _), (2, _), (0, _)]) rfl rfl (Nat.le_of_ble_eq_true rfl) rfl ?_
      refine x_iinc (pc' := 37) (lv' := [(2, _), (1, _), (0, _)]) rfl rfl (Nat.le_of_ble_eq_true rfl) rfl (nI_1 0) rfl ?_
      refine x_goto (tgt := 9) rfl rfl ?_
      refine r_gm1 hM1 hL1 h201 (q_ff (a_lc A) (a_lf A)) (fun p hff => by have := q_ff_le h255 hff; omega) kf kn (a_lc A - 1) (0 + 1) _ (by omega) (by omega) (by omega) (by omega) u2.symm (fun _ => ?_)
      obtain ⟨k, hk⟩ : ∃ k, a_lc A = k + 1 := ⟨a_lc A - 1, by omega⟩
      have e9 : q_ct (q_t (a_lc A) (a_lf A)) (a_lc A) (k + 1) 0 = q_ct (q_t (a_lc A) (a_lf A)) (a_lc A) k (q_ed (q_t (a_lc A) (a_lf A)) 0 + 1) + 1 := if_pos u1
      rw [show a_lc A - 1 = k by omega]
      rw [show q_ct (q_t (a_lc A) (a_lf A)) (a_lc A) (a_lc A) 0 = q_ct (q_t (a_lc A) (a_lf A)) (a_lc A) (k + 1) 0 from congrArg (fun n => q_ct (q_t (a_lc A) (a_lf A)) (a_lc A) n 0) hk, e9]
      omega
  · refine x_iload_n (pc' := 25) rfl rfl rfl ?_
    refine x_if_ne (tgt := 40) (pc' := 28) rfl rfl rfl (fun c25 => absurd (rfl) c25) (fun _ => ?_)
    refine x_aload_n (pc' := 29) rfl rfl rfl ?_
    refine x_iload_n (pc' := 30) rfl rfl rfl ?_
    refine x_cV1i (d := 4) (pc' := 33) rfl rfl sX6_151 gX6_passes (hM1.1) ⟨Nat.le_of_ble_eq_true rfl, Nat.le_of_ble_eq_true rfl⟩ (Nat.le_of_ble_eq_true rfl) ⟨Nat.le_of_ble_eq_true rfl, Nat.le_of_ble_eq_true rfl⟩ ?_
    refine m_passes (s := 0) hM1 hL1 (by decide) (fun p hsk f2 r hM2 hF2 => ⟨_, rfl, ?_⟩) (fun hsk => ⟨_, rfl, ?_⟩)
    · have hff := q_ff_some h255 hsk
      have hp := q_ff_le h255 hff
      refine x_istore_n (pc' := 34) (lv' := [(1, _), (2, _), (0, _)]) rfl rfl (Nat.le_of_ble_eq_true rfl) rfl ?_
      refine x_iinc (pc' := 37) (lv' := [(2, _), (1, _), (0, _)]) rfl rfl (Nat.le_of_ble_eq_true rfl) rfl (nI_1 0) rfl ?_
      refine x_goto (tgt := 9) rfl rfl ?_
      exact r_gmF hM2 rfl (by omega) (fun f3 hM3 hF3 => kf p hff f3 hM3 (hF2.trans hF3))
    · have hel := q_ed_lt h255 hsk
      have heg := q_ed_gt (t := q_t (a_lc A) (a_lf A)) (s := 0)
      obtain ⟨u1, u2⟩ := q_ff_none h255 hsk
      refine x_istore_n (pc' := 34) (lv' := [(1, _), (2, _), (0, _)]) rfl rfl (Nat.le_of_ble_eq_true rfl) rfl ?_
      refine x_iinc (pc' := 37) (lv' := [(2, _), (1, _), (0, _)]) rfl rfl (Nat.le_of_ble_eq_true rfl) rfl (nI_1 0) rfl ?_
      refine x_goto (tgt := 9) rfl rfl ?_
      refine r_gm1 hM1 hL1 h201 (q_ff (a_lc A) (a_lf A)) (fun p hff => by have := q_ff_le h255 hff; omega) kf kn (a_lc A - 1) (0 + 1) _ (by omega) (by omega) (by omega) (by omega) u2.symm (fun _ => ?_)
      obtain ⟨k, hk⟩ : ∃ k, a_lc A = k + 1 := ⟨a_lc A - 1, by omega⟩
      have e9 : q_ct (q_t (a_lc A) (a_lf A)) (a_lc A) (k + 1) 0 = q_ct (q_t (a_lc A) (a_lf A)) (a_lc A) k (q_ed (q_t (a_lc A) (a_lf A)) 0 + 1) + 1 := if_pos u1
      rw [show a_lc A - 1 = k by omega]
      rw [show q_ct (q_t (a_lc A) (a_lf A)) (a_lc A) (a_lc A) 0 = q_ct (q_t (a_lc A) (a_lf A)) (a_lc A) (k + 1) 0 from congrArg (fun n => q_ct (q_t (a_lc A) (a_lf A)) (a_lc A) n 0) hk, e9]
      omega
end GT
end
