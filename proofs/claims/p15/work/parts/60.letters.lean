/-! The letters: what a game told in them is. -/
def q_t (L : Nat) (ℓ : Nat → Nat) (i : Nat) : Nat := if i < L then ℓ i else 256
def q_cI (c : Nat) : Int32 := if c = 256 then -1 else nI c
abbrev q_dg (c : Nat) : Prop := 48 ≤ c ∧ c ≤ 57
def q_md (c : Nat) : Nat := if c = 98 ∨ c = 99 then 2 else if c = 102 ∨ c = 108 ∨ c = 116 then 1 else if c = 115 then 9 else 0
def q_ld (c : Nat) : Nat := if c = 115 then 1 else q_md c
def q_kd (c : Nat) : Nat := if c = 111 then 0 else if c = 104 then 1 else if c = 100 then 2 else if c = 119 then 3 else if c = 110 then 4 else if c = 113 then 5 else 9
def q_df (t : Nat → Nat) : Nat → Nat → Nat
  | 0, _ => 0
  | m + 1, p => if q_dg (t p) then q_df t m (p + 1) + 1 else 0
def q_p0 (t : Nat → Nat) (s : Nat) : Nat := if t s = 98 then s + 2 else s + 1
def q_dn (t : Nat → Nat) (s : Nat) : Nat := q_df t (q_md (t s)) (q_p0 t s)
def q_ed (t : Nat → Nat) (s : Nat) : Nat := q_p0 t s + q_dn t s
/-- where a statement breaks off -/
def q_sk (t : Nat → Nat) (s : Nat) : Option Nat := if q_md (t s) = 0 then some s else if t s = 98 ∧ q_kd (t (s + 1)) = 9 then some (s + 1) else if q_dn t s < q_ld (t s) ∨ ¬ t (q_ed t s) = 59 then some (q_ed t s) else none
def g_add (g : q_G) (k v : Nat) : q_G := (q_up (g_κ g) (g_n g) k, q_up (g_β g) (g_n g) v, g_π g, g_n g + 1, g_f g, g_l g, g_t g)
def g_sw (g : q_G) (v w : Nat) : q_G := (g_κ g, q_up (q_up (g_β g) v (g_β g w)) w (g_β g v), g_π g, g_n g, g_f g, g_l g, g_t g)
/-- moves told one behind the other -/
def q_ms2 (t : Nat → Nat) : Nat → Nat → q_G × Nat → Option (q_G × Nat)
  | 0, _, G => some G
  | k + 1, p, G => if g_can G.1 (t p - 48) ∧ ¬ G.2 = 999 then q_ms2 t k (p + 1) (g_mv G.1 (t p - 48), G.2 + 1) else none
/-- what a statement does -/
def q_do (t : Nat → Nat) (s : Nat) (G : q_G × Nat) : Option (q_G × Nat) :=
  if t s = 98 then (if 20 < 10 * (t (s + 2) - 48) + (t (s + 3) - 48) ∨ g_n G.1 = 9 then none else some (g_add G.1 (q_kd (t (s + 1))) (10 * (t (s + 2) - 48) + (t (s + 3) - 48)), G.2))
  else if t s = 115 then q_ms2 t (q_dn t s) (s + 1) G
  else if t s = 99 then (if t (s + 1) - 48 < g_n G.1 ∧ t (s + 2) - 48 < g_n G.1 ∧ ¬ t (s + 1) - 48 = t (s + 2) - 48 then some (g_sw G.1 (t (s + 1) - 48) (t (s + 2) - 48), G.2) else none)
  else if t s = 102 then (if t (s + 1) - 48 = 0 then none else some ((G.1.1, G.1.2.1, G.1.2.2.1, g_n G.1, t (s + 1) - 48, g_l G.1, g_t G.1), G.2))
  else if t s = 108 then (if 1 < t (s + 1) - 48 then none else some ((G.1.1, G.1.2.1, G.1.2.2.1, g_n G.1, g_f G.1, t (s + 1) - 48, g_t G.1), G.2))
  else (if 1 < t (s + 1) - 48 then none else some ((G.1.1, G.1.2.1, G.1.2.2.1, g_n G.1, g_f G.1, g_l G.1, t (s + 1) - 48), G.2))
def q_rn (t : Nat → Nat) (L : Nat) : Nat → Nat → q_G × Nat → Nat ⊕ (q_G × Nat)
  | 0, _, G => .inr G
  | k + 1, s, G => if s < L then (match q_do t s G with | none => .inl s | some G' => q_rn t L k (q_ed t s + 1) G') else .inr G
def q_fa (t : Nat → Nat) (L : Nat) : Nat → Nat → Option Nat
  | 0, _ => none
  | k + 1, s => if s < L then (match q_sk t s with | some p => some p | none => q_fa t L k (q_ed t s + 1)) else none
def q_ct (t : Nat → Nat) (L : Nat) : Nat → Nat → Nat
  | 0, _ => 0
  | k + 1, s => if s < L then q_ct t L k (q_ed t s + 1) + 1 else 0
theorem q_md_9 (c : Nat) : q_md c ≤ 9 := by
  unfold q_md
  repeat' split
  all_goals omega
theorem q_df_le (t : Nat → Nat) : ∀ (m p : Nat), q_df t m p ≤ m
  | 0, _ => Nat.le_refl _
  | m + 1, p => by
    unfold q_df
    split
    · exact Nat.succ_le_succ (q_df_le t m (p + 1))
    · exact Nat.zero_le _
theorem q_df_dg (t : Nat → Nat) : ∀ (m p j : Nat), j < q_df t m p → q_dg (t (p + j))
  | 0, _, _, h => absurd h (Nat.not_lt_zero _)
  | m + 1, p, j, h => by
    unfold q_df at h
    split at h
    · rename_i hd
      cases j with
      | zero => exact hd
      | succ j =>
        have h2 := q_df_dg t m (p + 1) j (by omega)
        rw [show p + (j + 1) = p + 1 + j by omega]
        exact h2
    · exact absurd h (Nat.not_lt_zero _)
theorem q_t_256 {L : Nat} {ℓ : Nat → Nat} (h : ∀ i, ℓ i ≤ 255) {i : Nat} : q_t L ℓ i = 256 ↔ L ≤ i := by
  unfold q_t
  split
  · have := h i
    omega
  · omega
theorem q_t_le {L : Nat} {ℓ : Nat → Nat} (h : ∀ i, ℓ i ≤ 255) (i : Nat) : q_t L ℓ i ≤ 256 := by
  unfold q_t
  split
  · have := h i
    omega
  · omega
theorem q_cI_ne {c : Nat} (h : ¬ c = 256) : q_cI c = nI c := if_neg h
theorem q_cI_eq {c k : Nat} (hc : c ≤ 256) (hk : k ≤ 255) : q_cI c = nI k ↔ c = k := by
  unfold q_cI
  split
  · rename_i h
    constructor
    · intro q
      have h2 := nI_pos (n := k) (by omega)
      rw [← q] at h2
      exact absurd (by decide) h2
    · intro q
      omega
  · exact nI_eq (by omega) (by omega)
theorem q_cI_lt {c k : Nat} (hc : c ≤ 256) (hk : k ≤ 255) : q_cI c < nI k ↔ (c = 256 ∨ c < k) := by
  unfold q_cI
  split
  · rename_i h
    constructor
    · intro _
      exact Or.inl h
    · intro _
      exact Int32.lt_of_lt_of_le (by decide : (-1 : Int32) < 0) (nI_pos' (by omega))
  · rename_i h
    rw [nI_ltI (by omega) (by omega)]
    omega
theorem q_cI_gt {c k : Nat} (hc : c ≤ 256) (hk : k ≤ 255) : nI k < q_cI c ↔ (¬ c = 256 ∧ k < c) := by
  unfold q_cI
  split
  · rename_i h
    constructor
    · intro q
      have h2 : (-1 : Int32) < nI k := Int32.lt_of_lt_of_le (by decide : (-1 : Int32) < 0) (nI_pos' (by omega))
      exact absurd q (Int32.lt_asymm h2)
    · intro q
      exact absurd h q.1
  · rename_i h
    rw [nI_ltI (by omega) (by omega)]
    omega
/-- what a whole statement is -/
theorem q_sk_no {t : Nat → Nat} {s : Nat} (h : q_sk t s = none) : ¬ q_md (t s) = 0 ∧ (t s = 98 → ¬ q_kd (t (s + 1)) = 9) ∧ q_ld (t s) ≤ q_dn t s ∧ t (q_ed t s) = 59 := by
  unfold q_sk at h
  split at h
  · cases h
  · rename_i h1
    split at h
    · cases h
    · rename_i h2
      split at h
      · cases h
      · rename_i h3
        refine ⟨h1, fun q k => h2 ⟨q, k⟩, Nat.not_lt.mp (fun q => h3 (Or.inl q)), ?_⟩
        rcases Nat.decEq (t (q_ed t s)) 59 with q | q
        · exact absurd (Or.inr q) h3
        · exact q
theorem q_md_in {c : Nat} (h : ¬ q_md c = 0) : c = 98 ∨ c = 99 ∨ c = 102 ∨ c = 108 ∨ c = 116 ∨ c = 115 := by
  unfold q_md at h
  repeat' split at h
  all_goals omega
theorem q_kd_in {c : Nat} (h : ¬ q_kd c = 9) : ¬ c = 59 ∧ ¬ q_dg c ∧ c ≤ 255 ∧ q_kd c ≤ 5 := by
  unfold q_kd at *
  unfold q_dg
  repeat' split at h
  all_goals simp_all
  all_goals omega
theorem q_ed_gt {t : Nat → Nat} {s : Nat} : s < q_ed t s := by
  unfold q_ed q_p0
  split <;> omega
theorem q_sk_59 {t : Nat → Nat} {s : Nat} (h : q_sk t s = none) : ∀ j, s ≤ j → j < q_ed t s → ¬ t j = 59 := by
  obtain ⟨h1, h2, h3, h4⟩ := q_sk_no h
  intro j hj hj2 h59
  have h6 := q_md_in h1
  by_cases d : j = s
  · subst d
    omega
  · have hdg := q_df_dg t (q_md (t s)) (q_p0 t s)
    unfold q_ed q_dn at hj2
    by_cases d2 : t s = 98
    · have hp : q_p0 t s = s + 2 := if_pos d2
      rw [hp] at hdg hj2
      by_cases d3 : j = s + 1
      · subst d3
        exact (q_kd_in (h2 d2)).1 h59
      · have h9 := hdg (j - (s + 2)) (by omega)
        rw [show s + 2 + (j - (s + 2)) = j by omega] at h9
        have h9a := h9.1
        have h9b := h9.2
        omega
    · have hp : q_p0 t s = s + 1 := if_neg d2
      rw [hp] at hdg hj2
      have h9 := hdg (j - (s + 1)) (by omega)
      rw [show s + 1 + (j - (s + 1)) = j by omega] at h9
      have h9a := h9.1
      have h9b := h9.2
      omega
/-- its digits -/
theorem q_sk_dg {t : Nat → Nat} {s : Nat} (h : q_sk t s = none) : ∀ j, q_p0 t s ≤ j → j < q_ed t s → q_dg (t j) := by
  intro j hj hj2
  have h9 := q_df_dg t (q_md (t s)) (q_p0 t s) (j - q_p0 t s) (by unfold q_ed q_dn at hj2; omega)
  rw [show q_p0 t s + (j - q_p0 t s) = j by omega] at h9
  exact h9
theorem q_dn_is {t : Nat → Nat} {s : Nat} (h : q_sk t s = none) : (t s = 98 → q_dn t s = 2) ∧ (t s = 99 → q_dn t s = 2) ∧ (t s = 102 ∨ t s = 108 ∨ t s = 116 → q_dn t s = 1) ∧ (t s = 115 → 1 ≤ q_dn t s ∧ q_dn t s ≤ 9) := by
  obtain ⟨h1, h2, h3, h4⟩ := q_sk_no h
  have h5 : q_dn t s ≤ q_md (t s) := q_df_le t (q_md (t s)) (q_p0 t s)
  refine ⟨fun e => ?_, fun e => ?_, fun e => ?_, fun e => ?_⟩
  · rw [e] at h3 h5
    exact Nat.le_antisymm h5 h3
  · rw [e] at h3 h5
    exact Nat.le_antisymm h5 h3
  · have e2 : q_md (t s) = 1 ∧ q_ld (t s) = 1 := by
      rcases e with e | e | e <;> rw [e] <;> exact ⟨rfl, rfl⟩
    rw [e2.1] at h5
    rw [e2.2] at h3
    exact Nat.le_antisymm h5 h3
  · rw [e] at h3 h5
    exact ⟨h3, h5⟩
/-- the letters that an object holds -/
def q_L (S : x_S) (L : Nat) (ℓ : Nat → Nat) : Prop := S.1 2 = nI L ∧ L ≤ 96 ∧ S.2.2.1 0 = (fun i => nI (ℓ i)) ∧ ∀ i, ℓ i ≤ 255
section LT
variable {E : x_E} {z : Nat} {f : x_H} {S : x_S} {M : x_N} {A : q_A} {post : Option Value → x_H → Prop} {L : Nat} {ℓ : Nat → Nat}
theorem l_at {p : Nat} (hS : x_Sys z f S) (hL : q_L S L ℓ) (hp : p < 2 ^ 31) (h : post (some (.int (q_cI (q_t L ℓ p)))) f) : Y E 1 mX2_letterAt [.ref 17, .int (nI p)] z f 0 0 post := by
  obtain ⟨l1, l2, l3, l4⟩ := hL
  have hl := l4 p
  refine w_letterAt hS (fun q => ?_) (fun q => ?_)
  · have hpL : p < L := by
      have h2 := q.2.1
      rw [l1] at h2
      exact (nI_ltI hp (by omega)).mp h2
    rw [nI_clamp hp, l3]
    have e : q_cI (q_t L ℓ p) = nI (ℓ p) := by
      unfold q_t
      rw [if_pos hpL, q_cI_ne (by omega)]
    rw [e] at h
    exact h
  · have hpL : ¬ p < L := by
      intro k
      apply q
      rw [l1]
      exact ⟨nI_pos hp, nI_lt k (by omega), nI_lt (b := 96) (by omega) (by decide)⟩
    have e : q_cI (q_t L ℓ p) = -1 := by
      unfold q_t
      rw [if_neg hpL]
      rfl
    rw [e] at h
    exact h
theorem l_most {c : Nat} (hc : c ≤ 256) (h : post (some (.int (nI (q_md c)))) f) : Y E 1 mX2_mostDigits [.int (q_cI c)] z f 0 0 post := by
  refine Y.intro gX2_mostDigits (lv := [(0, .int (q_cI c))]) rfl (Nat.le_of_ble_eq_true rfl) ?_
  by_cases d : 98 ≤ c ∧ c ≤ 116
  · have d2 : c = 98 ∨ c = 99 ∨ c = 100 ∨ c = 101 ∨ c = 102 ∨ c = 103 ∨ c = 104 ∨ c = 105 ∨ c = 106 ∨ c = 107 ∨ c = 108 ∨ c = 109 ∨ c = 110 ∨ c = 111 ∨ c = 112 ∨ c = 113 ∨ c = 114 ∨ c = 115 ∨ c = 116 := by omega
    rcases d2 with rfl | rfl | rfl | rfl | rfl | rfl | rfl | rfl | rfl | rfl | rfl | rfl | rfl | rfl | rfl | rfl | rfl | rfl | rfl
    ·
      refine x_iload_n (pc' := 1) rfl rfl rfl ?_
      refine x_tableIn (tgt := 92) rfl (by decide) (by decide) rfl rfl ?_
      refine x_iconst (pc' := 93) rfl rfl iconst_2 ?_
      exact x_ireturn rfl rfl rfl (Nat.le_of_ble_eq_true rfl) (Nat.le_of_ble_eq_true rfl) (h)
    ·
      refine x_iload_n (pc' := 1) rfl rfl rfl ?_
      refine x_tableIn (tgt := 92) rfl (by decide) (by decide) rfl rfl ?_
      refine x_iconst (pc' := 93) rfl rfl iconst_2 ?_
      exact x_ireturn rfl rfl rfl (Nat.le_of_ble_eq_true rfl) (Nat.le_of_ble_eq_true rfl) (h)
    ·
      refine x_iload_n (pc' := 1) rfl rfl rfl ?_
      refine x_tableIn (tgt := 99) rfl (by decide) (by decide) rfl rfl ?_
      refine x_iconst (pc' := 100) rfl rfl iconst_0 ?_
      exact x_ireturn rfl rfl rfl (Nat.le_of_ble_eq_true rfl) (Nat.le_of_ble_eq_true rfl) (h)
    ·
      refine x_iload_n (pc' := 1) rfl rfl rfl ?_
      refine x_tableIn (tgt := 99) rfl (by decide) (by decide) rfl rfl ?_
      refine x_iconst (pc' := 100) rfl rfl iconst_0 ?_
      exact x_ireturn rfl rfl rfl (Nat.le_of_ble_eq_true rfl) (Nat.le_of_ble_eq_true rfl) (h)
    ·
      refine x_iload_n (pc' := 1) rfl rfl rfl ?_
      refine x_tableIn (tgt := 94) rfl (by decide) (by decide) rfl rfl ?_
      refine x_iconst (pc' := 95) rfl rfl iconst_1 ?_
      exact x_ireturn rfl rfl rfl (Nat.le_of_ble_eq_true rfl) (Nat.le_of_ble_eq_true rfl) (h)
    ·
      refine x_iload_n (pc' := 1) rfl rfl rfl ?_
      refine x_tableIn (tgt := 99) rfl (by decide) (by decide) rfl rfl ?_
      refine x_iconst (pc' := 100) rfl rfl iconst_0 ?_
      exact x_ireturn rfl rfl rfl (Nat.le_of_ble_eq_true rfl) (Nat.le_of_ble_eq_true rfl) (h)
    ·
      refine x_iload_n (pc' := 1) rfl rfl rfl ?_
      refine x_tableIn (tgt := 99) rfl (by decide) (by decide) rfl rfl ?_
      refine x_iconst (pc' := 100) rfl rfl iconst_0 ?_
      exact x_ireturn rfl rfl rfl (Nat.le_of_ble_eq_true rfl) (Nat.le_of_ble_eq_true rfl) (h)
    ·
      refine x_iload_n (pc' := 1) rfl rfl rfl ?_
      refine x_tableIn (tgt := 99) rfl (by decide) (by decide) rfl rfl ?_
      refine x_iconst (pc' := 100) rfl rfl iconst_0 ?_
      exact x_ireturn rfl rfl rfl (Nat.le_of_ble_eq_true rfl) (Nat.le_of_ble_eq_true rfl) (h)
    ·
      refine x_iload_n (pc' := 1) rfl rfl rfl ?_
      refine x_tableIn (tgt := 99) rfl (by decide) (by decide) rfl rfl ?_
      refine x_iconst (pc' := 100) rfl rfl iconst_0 ?_
      exact x_ireturn rfl rfl rfl (Nat.le_of_ble_eq_true rfl) (Nat.le_of_ble_eq_true rfl) (h)
    ·
      refine x_iload_n (pc' := 1) rfl rfl rfl ?_
      refine x_tableIn (tgt := 99) rfl (by decide) (by decide) rfl rfl ?_
      refine x_iconst (pc' := 100) rfl rfl iconst_0 ?_
      exact x_ireturn rfl rfl rfl (Nat.le_of_ble_eq_true rfl) (Nat.le_of_ble_eq_true rfl) (h)
    ·
      refine x_iload_n (pc' := 1) rfl rfl rfl ?_
      refine x_tableIn (tgt := 94) rfl (by decide) (by decide) rfl rfl ?_
      refine x_iconst (pc' := 95) rfl rfl iconst_1 ?_
      exact x_ireturn rfl rfl rfl (Nat.le_of_ble_eq_true rfl) (Nat.le_of_ble_eq_true rfl) (h)
    ·
      refine x_iload_n (pc' := 1) rfl rfl rfl ?_
      refine x_tableIn (tgt := 99) rfl (by decide) (by decide) rfl rfl ?_
      refine x_iconst (pc' := 100) rfl rfl iconst_0 ?_
      exact x_ireturn rfl rfl rfl (Nat.le_of_ble_eq_true rfl) (Nat.le_of_ble_eq_true rfl) (h)
    ·
      refine x_iload_n (pc' := 1) rfl rfl rfl ?_
      refine x_tableIn (tgt := 99) rfl (by decide) (by decide) rfl rfl ?_
      refine x_iconst (pc' := 100) rfl rfl iconst_0 ?_
      exact x_ireturn rfl rfl rfl (Nat.le_of_ble_eq_true rfl) (Nat.le_of_ble_eq_true rfl) (h)
    ·
      refine x_iload_n (pc' := 1) rfl rfl rfl ?_
      refine x_tableIn (tgt := 99) rfl (by decide) (by decide) rfl rfl ?_
      refine x_iconst (pc' := 100) rfl rfl iconst_0 ?_
      exact x_ireturn rfl rfl rfl (Nat.le_of_ble_eq_true rfl) (Nat.le_of_ble_eq_true rfl) (h)
    ·
      refine x_iload_n (pc' := 1) rfl rfl rfl ?_
      refine x_tableIn (tgt := 99) rfl (by decide) (by decide) rfl rfl ?_
      refine x_iconst (pc' := 100) rfl rfl iconst_0 ?_
      exact x_ireturn rfl rfl rfl (Nat.le_of_ble_eq_true rfl) (Nat.le_of_ble_eq_true rfl) (h)
    ·
      refine x_iload_n (pc' := 1) rfl rfl rfl ?_
      refine x_tableIn (tgt := 99) rfl (by decide) (by decide) rfl rfl ?_
      refine x_iconst (pc' := 100) rfl rfl iconst_0 ?_
      exact x_ireturn rfl rfl rfl (Nat.le_of_ble_eq_true rfl) (Nat.le_of_ble_eq_true rfl) (h)
    ·
      refine x_iload_n (pc' := 1) rfl rfl rfl ?_
      refine x_tableIn (tgt := 99) rfl (by decide) (by decide) rfl rfl ?_
      refine x_iconst (pc' := 100) rfl rfl iconst_0 ?_
      exact x_ireturn rfl rfl rfl (Nat.le_of_ble_eq_true rfl) (Nat.le_of_ble_eq_true rfl) (h)
    ·
      refine x_iload_n (pc' := 1) rfl rfl rfl ?_
      refine x_tableIn (tgt := 96) rfl (by decide) (by decide) rfl rfl ?_
      refine x_bipush (pc' := 98) rfl rfl bipush_9 ?_
      exact x_ireturn rfl rfl rfl (Nat.le_of_ble_eq_true rfl) (Nat.le_of_ble_eq_true rfl) (h)
    ·
      refine x_iload_n (pc' := 1) rfl rfl rfl ?_
      refine x_tableIn (tgt := 94) rfl (by decide) (by decide) rfl rfl ?_
      refine x_iconst (pc' := 95) rfl rfl iconst_1 ?_
      exact x_ireturn rfl rfl rfl (Nat.le_of_ble_eq_true rfl) (Nat.le_of_ble_eq_true rfl) (h)
  · have e : q_md c = 0 := by
      unfold q_md
      rw [if_neg (by omega), if_neg (by omega), if_neg (by omega)]
    rw [e] at h
    have hout : (q_cI c).toInt < 98 ∨ (116 : Int) < (q_cI c).toInt := by
      have e1 := (q_cI_lt (c := c) (k := 98) hc (by decide))
      have e2 := (q_cI_gt (c := c) (k := 116) hc (by decide))
      rw [Int32.lt_iff_toInt_lt] at e1 e2
      have e3 : (nI 98).toInt = 98 := by decide
      have e4 : (nI 116).toInt = 116 := by decide
      rw [e3] at e1
      rw [e4] at e2
      omega
    refine x_iload_n (pc' := 1) rfl rfl rfl ?_
    refine x_tableOut (tgt := 99) rfl (hout) rfl ?_
    refine x_iconst (pc' := 100) rfl rfl iconst_0 ?_
    exact x_ireturn rfl rfl rfl (Nat.le_of_ble_eq_true rfl) (Nat.le_of_ble_eq_true rfl) (h)
theorem l_kind {c : Nat} (hc : c ≤ 256) (h : post (some (.int (if q_kd c = 9 then -9 else nI (q_kd c)))) f) : Y E 1 mX2_kindFor [.int (q_cI c)] z f 0 0 post := by
  refine Y.intro gX2_kindFor (lv := [(0, .int (q_cI c))]) rfl (Nat.le_of_ble_eq_true rfl) ?_
  by_cases d : 100 ≤ c ∧ c ≤ 119
  · have d2 : c = 100 ∨ c = 101 ∨ c = 102 ∨ c = 103 ∨ c = 104 ∨ c = 105 ∨ c = 106 ∨ c = 107 ∨ c = 108 ∨ c = 109 ∨ c = 110 ∨ c = 111 ∨ c = 112 ∨ c = 113 ∨ c = 114 ∨ c = 115 ∨ c = 116 ∨ c = 117 ∨ c = 118 ∨ c = 119 := by omega
    rcases d2 with rfl | rfl | rfl | rfl | rfl | rfl | rfl | rfl | rfl | rfl | rfl | rfl | rfl | rfl | rfl | rfl | rfl | rfl | rfl | rfl
    ·
      refine x_iload_n (pc' := 1) rfl rfl rfl ?_
      refine x_tableIn (tgt := 100) rfl (by decide) (by decide) rfl rfl ?_
      refine x_iconst (pc' := 101) rfl rfl iconst_2 ?_
      exact x_ireturn rfl rfl rfl (Nat.le_of_ble_eq_true rfl) (Nat.le_of_ble_eq_true rfl) (h)
    ·
      refine x_iload_n (pc' := 1) rfl rfl rfl ?_
      refine x_tableIn (tgt := 108) rfl (by decide) (by decide) rfl rfl ?_
      refine x_bipush (pc' := 110) rfl rfl bipush_m9 ?_
      exact x_ireturn rfl rfl rfl (Nat.le_of_ble_eq_true rfl) (Nat.le_of_ble_eq_true rfl) (h)
    ·
      refine x_iload_n (pc' := 1) rfl rfl rfl ?_
      refine x_tableIn (tgt := 108) rfl (by decide) (by decide) rfl rfl ?_
      refine x_bipush (pc' := 110) rfl rfl bipush_m9 ?_
      exact x_ireturn rfl rfl rfl (Nat.le_of_ble_eq_true rfl) (Nat.le_of_ble_eq_true rfl) (h)
    ·
      refine x_iload_n (pc' := 1) rfl rfl rfl ?_
      refine x_tableIn (tgt := 108) rfl (by decide) (by decide) rfl rfl ?_
      refine x_bipush (pc' := 110) rfl rfl bipush_m9 ?_
      exact x_ireturn rfl rfl rfl (Nat.le_of_ble_eq_true rfl) (Nat.le_of_ble_eq_true rfl) (h)
    ·
      refine x_iload_n (pc' := 1) rfl rfl rfl ?_
      refine x_tableIn (tgt := 98) rfl (by decide) (by decide) rfl rfl ?_
      refine x_iconst (pc' := 99) rfl rfl iconst_1 ?_
      exact x_ireturn rfl rfl rfl (Nat.le_of_ble_eq_true rfl) (Nat.le_of_ble_eq_true rfl) (h)
    ·
      refine x_iload_n (pc' := 1) rfl rfl rfl ?_
      refine x_tableIn (tgt := 108) rfl (by decide) (by decide) rfl rfl ?_
      refine x_bipush (pc' := 110) rfl rfl bipush_m9 ?_
      exact x_ireturn rfl rfl rfl (Nat.le_of_ble_eq_true rfl) (Nat.le_of_ble_eq_true rfl) (h)
    ·
      refine x_iload_n (pc' := 1) rfl rfl rfl ?_
      refine x_tableIn (tgt := 108) rfl (by decide) (by decide) rfl rfl ?_
      refine x_bipush (pc' := 110) rfl rfl bipush_m9 ?_
      exact x_ireturn rfl rfl rfl (Nat.le_of_ble_eq_true rfl) (Nat.le_of_ble_eq_true rfl) (h)
    ·
      refine x_iload_n (pc' := 1) rfl rfl rfl ?_
      refine x_tableIn (tgt := 108) rfl (by decide) (by decide) rfl rfl ?_
      refine x_bipush (pc' := 110) rfl rfl bipush_m9 ?_
      exact x_ireturn rfl rfl rfl (Nat.le_of_ble_eq_true rfl) (Nat.le_of_ble_eq_true rfl) (h)
    ·
      refine x_iload_n (pc' := 1) rfl rfl rfl ?_
      refine x_tableIn (tgt := 108) rfl (by decide) (by decide) rfl rfl ?_
      refine x_bipush (pc' := 110) rfl rfl bipush_m9 ?_
      exact x_ireturn rfl rfl rfl (Nat.le_of_ble_eq_true rfl) (Nat.le_of_ble_eq_true rfl) (h)
    ·
      refine x_iload_n (pc' := 1) rfl rfl rfl ?_
      refine x_tableIn (tgt := 108) rfl (by decide) (by decide) rfl rfl ?_
      refine x_bipush (pc' := 110) rfl rfl bipush_m9 ?_
      exact x_ireturn rfl rfl rfl (Nat.le_of_ble_eq_true rfl) (Nat.le_of_ble_eq_true rfl) (h)
    ·
      refine x_iload_n (pc' := 1) rfl rfl rfl ?_
      refine x_tableIn (tgt := 104) rfl (by decide) (by decide) rfl rfl ?_
      refine x_iconst (pc' := 105) rfl rfl iconst_4 ?_
      exact x_ireturn rfl rfl rfl (Nat.le_of_ble_eq_true rfl) (Nat.le_of_ble_eq_true rfl) (h)
    ·
      refine x_iload_n (pc' := 1) rfl rfl rfl ?_
      refine x_tableIn (tgt := 96) rfl (by decide) (by decide) rfl rfl ?_
      refine x_iconst (pc' := 97) rfl rfl iconst_0 ?_
      exact x_ireturn rfl rfl rfl (Nat.le_of_ble_eq_true rfl) (Nat.le_of_ble_eq_true rfl) (h)
    ·
      refine x_iload_n (pc' := 1) rfl rfl rfl ?_
      refine x_tableIn (tgt := 108) rfl (by decide) (by decide) rfl rfl ?_
      refine x_bipush (pc' := 110) rfl rfl bipush_m9 ?_
      exact x_ireturn rfl rfl rfl (Nat.le_of_ble_eq_true rfl) (Nat.le_of_ble_eq_true rfl) (h)
    ·
      refine x_iload_n (pc' := 1) rfl rfl rfl ?_
      refine x_tableIn (tgt := 106) rfl (by decide) (by decide) rfl rfl ?_
      refine x_iconst (pc' := 107) rfl rfl iconst_5 ?_
      exact x_ireturn rfl rfl rfl (Nat.le_of_ble_eq_true rfl) (Nat.le_of_ble_eq_true rfl) (h)
    ·
      refine x_iload_n (pc' := 1) rfl rfl rfl ?_
      refine x_tableIn (tgt := 108) rfl (by decide) (by decide) rfl rfl ?_
      refine x_bipush (pc' := 110) rfl rfl bipush_m9 ?_
      exact x_ireturn rfl rfl rfl (Nat.le_of_ble_eq_true rfl) (Nat.le_of_ble_eq_true rfl) (h)
    ·
      refine x_iload_n (pc' := 1) rfl rfl rfl ?_
      refine x_tableIn (tgt := 108) rfl (by decide) (by decide) rfl rfl ?_
      refine x_bipush (pc' := 110) rfl rfl bipush_m9 ?_
      exact x_ireturn rfl rfl rfl (Nat.le_of_ble_eq_true rfl) (Nat.le_of_ble_eq_true rfl) (h)
    ·
      refine x_iload_n (pc' := 1) rfl rfl rfl ?_
      refine x_tableIn (tgt := 108) rfl (by decide) (by decide) rfl rfl ?_
      refine x_bipush (pc' := 110) rfl rfl bipush_m9 ?_
      exact x_ireturn rfl rfl rfl (Nat.le_of_ble_eq_true rfl) (Nat.le_of_ble_eq_true rfl) (h)
    ·
      refine x_iload_n (pc' := 1) rfl rfl rfl ?_
      refine x_tableIn (tgt := 108) rfl (by decide) (by decide) rfl rfl ?_
      refine x_bipush (pc' := 110) rfl rfl bipush_m9 ?_
      exact x_ireturn rfl rfl rfl (Nat.le_of_ble_eq_true rfl) (Nat.le_of_ble_eq_true rfl) (h)
    ·
      refine x_iload_n (pc' := 1) rfl rfl rfl ?_
      refine x_tableIn (tgt := 108) rfl (by decide) (by decide) rfl rfl ?_
      refine x_bipush (pc' := 110) rfl rfl bipush_m9 ?_
      exact x_ireturn rfl rfl rfl (Nat.le_of_ble_eq_true rfl) (Nat.le_of_ble_eq_true rfl) (h)
    ·
      refine x_iload_n (pc' := 1) rfl rfl rfl ?_
      refine x_tableIn (tgt := 102) rfl (by decide) (by decide) rfl rfl ?_
      refine x_iconst (pc' := 103) rfl rfl iconst_3 ?_
      exact x_ireturn rfl rfl rfl (Nat.le_of_ble_eq_true rfl) (Nat.le_of_ble_eq_true rfl) (h)
  · have e : q_kd c = 9 := by
      unfold q_kd
      rw [if_neg (by omega), if_neg (by omega), if_neg (by omega), if_neg (by omega), if_neg (by omega), if_neg (by omega)]
    rw [if_pos e] at h
    have hout : (q_cI c).toInt < 100 ∨ (119 : Int) < (q_cI c).toInt := by
      have e1 := (q_cI_lt (c := c) (k := 100) hc (by decide))
      have e2 := (q_cI_gt (c := c) (k := 119) hc (by decide))
      rw [Int32.lt_iff_toInt_lt] at e1 e2
      have e3 : (nI 100).toInt = 100 := by decide
      have e4 : (nI 119).toInt = 119 := by decide
      rw [e3] at e1
      rw [e4] at e2
      omega
    refine x_iload_n (pc' := 1) rfl rfl rfl ?_
    refine x_tableOut (tgt := 108) rfl (hout) rfl ?_
    refine x_bipush (pc' := 110) rfl rfl bipush_m9 ?_
    exact x_ireturn rfl rfl rfl (Nat.le_of_ble_eq_true rfl) (Nat.le_of_ble_eq_true rfl) (h)
theorem l_least {c : Nat} (hc : c ≤ 256) (h : post (some (.int (nI (q_ld c)))) f) : Y E 2 mX2_leastDigits [.int (q_cI c)] z f 0 0 post := by
  refine Y.intro gX2_leastDigits (lv := [(0, .int (q_cI c))]) rfl (Nat.le_of_ble_eq_true rfl) ?_
  by_cases d : c = 115
  · subst d
    refine x_iload_n (pc' := 1) rfl rfl rfl ?_
    refine x_bipush (pc' := 3) rfl rfl bipush_115 ?_
    refine x_icmp_ne (tgt := 10) (pc' := 6) rfl rfl rfl (fun c3 => absurd ((by decide)) c3) (fun _ => ?_)
    refine x_iconst (pc' := 7) rfl rfl iconst_1 ?_
    refine x_goto (tgt := 14) rfl rfl ?_
    exact x_ireturn rfl rfl rfl (Nat.le_of_ble_eq_true rfl) (Nat.le_of_ble_eq_true rfl) (h)
  · rw [show q_ld c = q_md c from if_neg d] at h
    refine x_iload_n (pc' := 1) rfl rfl rfl ?_
    refine x_bipush (pc' := 3) rfl rfl bipush_115 ?_
    refine x_icmp_ne (tgt := 10) (pc' := 6) rfl rfl rfl (fun _ => ?_) (fun c3 => absurd c3 ((fun q => d ((q_cI_eq (k := 115) hc (by decide)).mp q))))
    refine x_iload_n (pc' := 11) rfl rfl rfl ?_
    refine x_cS1i (d := 1) (pc' := 14) rfl rfl sX2_37 gX2_mostDigits ⟨Nat.le_of_ble_eq_true rfl, Nat.le_of_ble_eq_true rfl⟩ (Nat.le_of_ble_eq_true rfl) ⟨Nat.le_of_ble_eq_true rfl, Nat.le_of_ble_eq_true rfl⟩ ?_
    refine l_most hc ⟨_, rfl, ?_⟩
    exact x_ireturn rfl rfl rfl (Nat.le_of_ble_eq_true rfl) (Nat.le_of_ble_eq_true rfl) (h)
theorem l_digit {p : Nat} (hS : x_Sys z f S) (hL : q_L S L ℓ) (hp : p < 2 ^ 31) (h : post (some (.int (if q_dg (q_t L ℓ p) then nI (q_t L ℓ p - 48) else -9))) f) : Y E 2 mX2_digitAt [.ref 17, .int (nI p)] z f 0 0 post := by
  refine Y.intro gX2_digitAt (lv := [(0, .ref 17), (1, .int (nI p))]) rfl (Nat.le_of_ble_eq_true rfl) ?_
  have hc := q_t_le (L := L) hL.2.2.2 p
  refine x_aload_n (pc' := 1) rfl rfl rfl ?_
  refine x_iload_n (pc' := 2) rfl rfl rfl ?_
  refine x_cV1i (d := 1) (pc' := 5) rfl rfl sX2_34 gX2_letterAt (hS.lt) ⟨Nat.le_of_ble_eq_true rfl, Nat.le_of_ble_eq_true rfl⟩ (Nat.le_of_ble_eq_true rfl) ⟨Nat.le_of_ble_eq_true rfl, Nat.le_of_ble_eq_true rfl⟩ ?_
  refine l_at hS hL hp ⟨_, rfl, ?_⟩
  generalize q_t L ℓ p = c at *
  refine x_istore_n (pc' := 6) (lv' := [(2, _), (0, _), (1, _)]) rfl rfl (Nat.le_of_ble_eq_true rfl) rfl ?_
  refine x_iload_n (pc' := 7) rfl rfl rfl ?_
  refine x_bipush (pc' := 9) rfl rfl bipush_48 ?_
  by_cases d1 : 48 ≤ c ∧ ¬ c = 256
  · refine x_icmp_lt (tgt := 25) (pc' := 12) rfl rfl rfl (fun q => absurd ((q_cI_lt (k := 48) hc (by decide)).mp q) (by omega)) (fun _ => ?_)
    refine x_iload_n (pc' := 13) rfl rfl rfl ?_
    refine x_bipush (pc' := 15) rfl rfl bipush_57 ?_
    by_cases d2 : c ≤ 57
    · rw [if_pos ⟨d1.1, d2⟩] at h
      refine x_icmp_gt (tgt := 25) (pc' := 18) rfl rfl rfl (fun q => absurd ((q_cI_gt (k := 57) hc (by decide)).mp q) (by omega)) (fun _ => ?_)
      refine x_iload_n (pc' := 19) rfl rfl rfl ?_
      refine x_bipush (pc' := 21) rfl rfl bipush_48 ?_
      refine x_isub (pc' := 22) rfl rfl ?_
      refine x_eqi (show q_cI c - 48 = nI (c - 48) from by rw [q_cI_ne d1.2]; exact pk_sub (a := c) (b := 48) d1.1) ?_
      refine x_goto (tgt := 27) rfl rfl ?_
      exact x_ireturn rfl rfl rfl (Nat.le_of_ble_eq_true rfl) (Nat.le_of_ble_eq_true rfl) (h)
    · rw [if_neg (fun q => d2 q.2)] at h
      refine x_icmp_gt (tgt := 25) (pc' := 18) rfl rfl rfl (fun _ => ?_) (fun q => absurd ((q_cI_gt (k := 57) hc (by decide)).mpr ⟨d1.2, by omega⟩) q)
      refine x_bipush (pc' := 27) rfl rfl bipush_m9 ?_
      exact x_ireturn rfl rfl rfl (Nat.le_of_ble_eq_true rfl) (Nat.le_of_ble_eq_true rfl) (h)
  · rw [if_neg (fun q => d1 ⟨q.1, by have := q.2; omega⟩)] at h
    refine x_icmp_lt (tgt := 25) (pc' := 12) rfl rfl rfl (fun _ => ?_) (fun q => absurd ((q_cI_lt (k := 48) hc (by decide)).mpr (by omega)) q)
    refine x_bipush (pc' := 27) rfl rfl bipush_m9 ?_
    exact x_ireturn rfl rfl rfl (Nat.le_of_ble_eq_true rfl) (Nat.le_of_ble_eq_true rfl) (h)
theorem l_digsL {p m : Nat} (hS : x_Sys z f S) (hL : q_L S L ℓ) (hp : p < 2 ^ 20) (hm : m ≤ 9) (h : post (some (.int (nI (q_df (q_t L ℓ) m p)))) f) : ∀ (k i : Nat), i + k = m → i + q_df (q_t L ℓ) k (p + i) = q_df (q_t L ℓ) m p → X E (x_rm 3 0 0) mX2_digitsFrom (x_QM E z 0 0 post) 2 [(3, .int (nI i)), (0, .ref 17), (1, .int (nI p)), (2, .int (nI m))] [] z f 0 0 := by
  intro k
  induction k with
  | zero =>
    intro i hi he
    have hi2 : i = m := by omega
    subst hi2
    rw [← he] at h
    refine x_iload_n (pc' := 3) rfl rfl rfl ?_
    refine x_iload_n (pc' := 4) rfl rfl rfl ?_
    refine x_icmp_ge (tgt := 25) (pc' := 7) rfl rfl rfl (fun _ => ?_) (fun c4 => absurd ((Int32.le_refl _)) c4)
    refine x_iload_n (pc' := 26) rfl rfl rfl ?_
    exact x_ireturn rfl rfl rfl (Nat.le_of_ble_eq_true rfl) (Nat.le_of_ble_eq_true rfl) (h)
  | succ k ih =>
    intro i hi he
    replace he : i + (if q_dg (q_t L ℓ (p + i)) then q_df (q_t L ℓ) k (p + i + 1) + 1 else 0) = q_df (q_t L ℓ) m p := he
    refine x_iload_n (pc' := 3) rfl rfl rfl ?_
    refine x_iload_n (pc' := 4) rfl rfl rfl ?_
    refine x_icmp_ge (tgt := 25) (pc' := 7) rfl rfl rfl (fun c4 => absurd c4 ((nI_ge (by omega) (by omega)))) (fun _ => ?_)
    refine x_aload_n (pc' := 8) rfl rfl rfl ?_
    refine x_iload_n (pc' := 9) rfl rfl rfl ?_
    refine x_iload_n (pc' := 10) rfl rfl rfl ?_
    refine x_iadd (pc' := 11) rfl rfl ?_
    refine x_eqi (nI_add _ _) ?_
    refine x_cV1i (d := 2) (pc' := 14) rfl rfl sX2_50 gX2_digitAt (hS.lt) ⟨Nat.le_of_ble_eq_true rfl, Nat.le_of_ble_eq_true rfl⟩ (Nat.le_of_ble_eq_true rfl) ⟨Nat.le_of_ble_eq_true rfl, Nat.le_of_ble_eq_true rfl⟩ ?_
    refine l_digit hS hL (by omega) ⟨_, rfl, ?_⟩
    refine x_bipush (pc' := 16) rfl rfl bipush_m9 ?_
    by_cases d : q_dg (q_t L ℓ (p + i))
    · rw [if_pos d] at he
      rw [if_pos d]
      have d1 := d.1
      have d2 := d.2
      refine x_icmp_eq (tgt := 25) (pc' := 19) rfl rfl rfl (fun q => ?_) (fun _ => ?_)
      · exfalso
        have h2 := nI_pos (n := q_t L ℓ (p + i) - 48) (by omega)
        rw [q] at h2
        exact h2 (by decide)
      · refine x_iinc (pc' := 22) (lv' := [(3, _), (0, _), (1, _), (2, _)]) rfl rfl (Nat.le_of_ble_eq_true rfl) rfl (nI_1 i) rfl ?_
        refine x_goto (tgt := 2) rfl rfl ?_
        refine ih (i + 1) (by omega) ?_
        rw [show p + (i + 1) = p + i + 1 by omega]
        omega
    · rw [if_neg d] at he
      rw [if_neg d]
      rw [← he] at h
      refine x_icmp_eq (tgt := 25) (pc' := 19) rfl rfl rfl (fun _ => ?_) (fun q => absurd rfl q)
      refine x_iload_n (pc' := 26) rfl rfl rfl ?_
      exact x_ireturn rfl rfl rfl (Nat.le_of_ble_eq_true rfl) (Nat.le_of_ble_eq_true rfl) (h)
theorem l_digs {p m : Nat} (hS : x_Sys z f S) (hL : q_L S L ℓ) (hp : p < 2 ^ 20) (hm : m ≤ 9) (h : post (some (.int (nI (q_df (q_t L ℓ) m p)))) f) : Y E 3 mX2_digitsFrom [.ref 17, .int (nI p), .int (nI m)] z f 0 0 post := by
  refine Y.intro gX2_digitsFrom (lv := [(0, .ref 17), (1, .int (nI p)), (2, .int (nI m))]) rfl (Nat.le_of_ble_eq_true rfl) ?_
  refine x_iconst (pc' := 1) rfl rfl iconst_0 ?_
  refine x_istore_n (pc' := 2) (lv' := [(3, _), (0, _), (1, _), (2, _)]) rfl rfl (Nat.le_of_ble_eq_true rfl) rfl ?_
  exact l_digsL hS hL hp hm h m 0 (by omega) (by rw [Nat.zero_add]; rfl)
/-- a place, or none -/
def q_oI (o : Option Nat) : Int32 := match o with
  | none => -9
  | some p => nI p
theorem l_stuckIn {s : Nat} (hS : x_Sys z f S) (hL : q_L S L ℓ) (hs : s < 2 ^ 19) (h : post (some (.int (q_oI (q_sk (q_t L ℓ) s)))) f) : Y E 4 mX2_stuckIn [.ref 17, .int (nI s)] z f 0 0 post := by
  refine Y.intro gX2_stuckIn (lv := [(0, .ref 17), (1, .int (nI s))]) rfl (Nat.le_of_ble_eq_true rfl) ?_
  have hc := q_t_le (L := L) hL.2.2.2
  have hm9 := q_md_9 (q_t L ℓ s)
  have hdl := q_df_le (q_t L ℓ) (q_md (q_t L ℓ s)) (q_p0 (q_t L ℓ) s)
  have hdef : q_sk (q_t L ℓ) s = if q_md (q_t L ℓ s) = 0 then some s else if q_t L ℓ s = 98 ∧ q_kd (q_t L ℓ (s + 1)) = 9 then some (s + 1) else if q_dn (q_t L ℓ) s < q_ld (q_t L ℓ s) ∨ ¬ q_t L ℓ (q_ed (q_t L ℓ) s) = 59 then some (q_ed (q_t L ℓ) s) else none := rfl
  rw [hdef] at h
  have hld : q_ld (q_t L ℓ s) ≤ 9 := by
    unfold q_ld
    split <;> omega
  refine x_aload_n (pc' := 1) rfl rfl rfl ?_
  refine x_iload_n (pc' := 2) rfl rfl rfl ?_
  refine x_cV1i (d := 1) (pc' := 5) rfl rfl sX2_34 gX2_letterAt (hS.lt) ⟨Nat.le_of_ble_eq_true rfl, Nat.le_of_ble_eq_true rfl⟩ (Nat.le_of_ble_eq_true rfl) ⟨Nat.le_of_ble_eq_true rfl, Nat.le_of_ble_eq_true rfl⟩ ?_
  refine l_at hS hL (by omega) ⟨_, rfl, ?_⟩
  refine x_istore_n (pc' := 6) (lv' := [(2, _), (0, _), (1, _)]) rfl rfl (Nat.le_of_ble_eq_true rfl) rfl ?_
  refine x_iload_n (pc' := 7) rfl rfl rfl ?_
  refine x_cS1i (d := 1) (pc' := 10) rfl rfl sX2_37 gX2_mostDigits ⟨Nat.le_of_ble_eq_true rfl, Nat.le_of_ble_eq_true rfl⟩ (Nat.le_of_ble_eq_true rfl) ⟨Nat.le_of_ble_eq_true rfl, Nat.le_of_ble_eq_true rfl⟩ ?_
  refine l_most (hc s) ⟨_, rfl, ?_⟩
  by_cases d0 : q_md (q_t L ℓ s) = 0
  · rw [if_pos d0] at h
    refine x_if_ne (tgt := 15) (pc' := 13) rfl rfl rfl (fun q => absurd (show nI (q_md (q_t L ℓ s)) = 0 by rw [d0]; rfl) q) (fun _ => ?_)
    refine x_iload_n (pc' := 14) rfl rfl rfl ?_
    exact x_ireturn rfl rfl rfl (Nat.le_of_ble_eq_true rfl) (Nat.le_of_ble_eq_true rfl) (h)
  · rw [if_neg d0] at h
    refine x_if_ne (tgt := 15) (pc' := 13) rfl rfl rfl (fun _ => ?_) (fun q => absurd q (nI_ne0 (by omega) (by omega)))
    refine x_iload_n (pc' := 16) rfl rfl rfl ?_
    refine x_iconst (pc' := 17) rfl rfl iconst_1 ?_
    refine x_iadd (pc' := 18) rfl rfl ?_
    refine x_eqi (nI_1 _) ?_
    refine x_istore_n (pc' := 19) (lv' := [(3, _), (2, _), (0, _), (1, _)]) rfl rfl (Nat.le_of_ble_eq_true rfl) rfl ?_
    refine x_iload_n (pc' := 20) rfl rfl rfl ?_
    refine x_bipush (pc' := 22) rfl rfl bipush_98 ?_
    by_cases d1 : q_t L ℓ s = 98
    · have hp0 : q_p0 (q_t L ℓ) s = s + 2 := if_pos d1
      refine x_icmp_ne (tgt := 43) (pc' := 25) rfl rfl rfl (fun q => absurd ((q_cI_eq (k := 98) (hc s) (by decide)).mpr d1) q) (fun _ => ?_)
      refine x_aload_n (pc' := 26) rfl rfl rfl ?_
      refine x_iload_n (pc' := 27) rfl rfl rfl ?_
      refine x_cV1i (d := 1) (pc' := 30) rfl rfl sX2_34 gX2_letterAt (hS.lt) ⟨Nat.le_of_ble_eq_true rfl, Nat.le_of_ble_eq_true rfl⟩ (Nat.le_of_ble_eq_true rfl) ⟨Nat.le_of_ble_eq_true rfl, Nat.le_of_ble_eq_true rfl⟩ ?_
      refine l_at hS hL (by omega) ⟨_, rfl, ?_⟩
      refine x_cS1i (d := 1) (pc' := 33) rfl rfl sX2_40 gX2_kindFor ⟨Nat.le_of_ble_eq_true rfl, Nat.le_of_ble_eq_true rfl⟩ (Nat.le_of_ble_eq_true rfl) ⟨Nat.le_of_ble_eq_true rfl, Nat.le_of_ble_eq_true rfl⟩ ?_
      refine l_kind (hc (s + 1)) ⟨_, rfl, ?_⟩
      refine x_bipush (pc' := 35) rfl rfl bipush_m9 ?_
      by_cases d2 : q_kd (q_t L ℓ (s + 1)) = 9
      · rw [if_pos ⟨d1, d2⟩] at h
        rw [if_pos d2]
        refine x_icmp_ne (tgt := 40) (pc' := 38) rfl rfl rfl (fun q => absurd rfl q) (fun _ => ?_)
        refine x_iload_n (pc' := 39) rfl rfl rfl ?_
        exact x_ireturn rfl rfl rfl (Nat.le_of_ble_eq_true rfl) (Nat.le_of_ble_eq_true rfl) (h)
      · rw [if_neg (fun q => d2 q.2)] at h
        rw [if_neg d2]
        have hk5 := (q_kd_in d2).2.2.2
        refine x_icmp_ne (tgt := 40) (pc' := 38) rfl rfl rfl (fun _ => ?_) (fun q => ?_)
        · refine x_iinc (pc' := 43) (lv' := [(3, _), (2, _), (0, _), (1, _)]) rfl rfl (Nat.le_of_ble_eq_true rfl) rfl (nI_1 _) rfl ?_
          refine x_aload_n (pc' := 44) rfl rfl rfl ?_
          refine x_iload_n (pc' := 45) rfl rfl rfl ?_
          refine x_iload_n (pc' := 46) rfl rfl rfl ?_
          refine x_cS1i (d := 1) (pc' := 49) rfl rfl sX2_37 gX2_mostDigits ⟨Nat.le_of_ble_eq_true rfl, Nat.le_of_ble_eq_true rfl⟩ (Nat.le_of_ble_eq_true rfl) ⟨Nat.le_of_ble_eq_true rfl, Nat.le_of_ble_eq_true rfl⟩ ?_
          refine l_most (hc s) ⟨_, rfl, ?_⟩
          refine x_cV2i (d := 3) (pc' := 52) rfl rfl sX2_43 gX2_digitsFrom (hS.lt) ⟨Nat.le_of_ble_eq_true rfl, Nat.le_of_ble_eq_true rfl⟩ (Nat.le_of_ble_eq_true rfl) ⟨Nat.le_of_ble_eq_true rfl, Nat.le_of_ble_eq_true rfl⟩ ?_
          refine l_digs hS hL (by omega) hm9 ⟨_, rfl, ?_⟩
          have hdn : q_df (q_t L ℓ) (q_md (q_t L ℓ s)) (s + 1 + 1) = q_dn (q_t L ℓ) s := by unfold q_dn; rw [hp0]
          rw [hdn]
          have hed : s + 1 + 1 + q_dn (q_t L ℓ) s = q_ed (q_t L ℓ) s := by unfold q_ed; rw [hp0]
          refine x_istore (pc' := 54) (lv' := [(4, _), (3, _), (2, _), (0, _), (1, _)]) rfl rfl (Nat.le_of_ble_eq_true rfl) rfl ?_
          refine x_iload_n (pc' := 55) rfl rfl rfl ?_
          refine x_iload (pc' := 57) rfl rfl rfl ?_
          refine x_iadd (pc' := 58) rfl rfl ?_
          refine x_eqi (nI_add _ _) ?_
          rw [hed]
          have hdn9 : q_dn (q_t L ℓ) s ≤ q_md (q_t L ℓ s) := hdl
          have hel : q_ed (q_t L ℓ) s < 2 ^ 20 := by omega
          refine x_istore_n (pc' := 59) (lv' := [(3, _), (4, _), (2, _), (0, _), (1, _)]) rfl rfl (Nat.le_of_ble_eq_true rfl) rfl ?_
          refine x_iload (pc' := 61) rfl rfl rfl ?_
          refine x_iload_n (pc' := 62) rfl rfl rfl ?_
          refine x_cS1i (d := 2) (pc' := 65) rfl rfl sX2_47 gX2_leastDigits ⟨Nat.le_of_ble_eq_true rfl, Nat.le_of_ble_eq_true rfl⟩ (Nat.le_of_ble_eq_true rfl) ⟨Nat.le_of_ble_eq_true rfl, Nat.le_of_ble_eq_true rfl⟩ ?_
          refine l_least (hc s) ⟨_, rfl, ?_⟩
          by_cases d3 : q_dn (q_t L ℓ) s < q_ld (q_t L ℓ s)
          · rw [if_pos (Or.inl d3)] at h
            refine x_icmp_lt (tgt := 78) (pc' := 68) rfl rfl rfl (fun _ => ?_) (fun q => absurd (nI_lt d3 (by omega)) q)
            refine x_iload_n (pc' := 79) rfl rfl rfl ?_
            refine x_goto (tgt := 84) rfl rfl ?_
            exact x_ireturn rfl rfl rfl (Nat.le_of_ble_eq_true rfl) (Nat.le_of_ble_eq_true rfl) (h)
          · refine x_icmp_lt (tgt := 78) (pc' := 68) rfl rfl rfl (fun q => absurd q (nI_nlt (by omega) (by omega))) (fun _ => ?_)
            refine x_aload_n (pc' := 69) rfl rfl rfl ?_
            refine x_iload_n (pc' := 70) rfl rfl rfl ?_
            refine x_cV1i (d := 1) (pc' := 73) rfl rfl sX2_34 gX2_letterAt (hS.lt) ⟨Nat.le_of_ble_eq_true rfl, Nat.le_of_ble_eq_true rfl⟩ (Nat.le_of_ble_eq_true rfl) ⟨Nat.le_of_ble_eq_true rfl, Nat.le_of_ble_eq_true rfl⟩ ?_
            refine l_at hS hL (by omega) ⟨_, rfl, ?_⟩
            refine x_bipush (pc' := 75) rfl rfl bipush_59 ?_
            by_cases d4 : q_t L ℓ (q_ed (q_t L ℓ) s) = 59
            · rw [if_neg (fun q => q.elim d3 (fun k => k d4))] at h
              refine x_icmp_eq (tgt := 82) (pc' := 78) rfl rfl rfl (fun _ => ?_) (fun q => absurd ((q_cI_eq (k := 59) (hc _) (by decide)).mpr d4) q)
              refine x_bipush (pc' := 84) rfl rfl bipush_m9 ?_
              exact x_ireturn rfl rfl rfl (Nat.le_of_ble_eq_true rfl) (Nat.le_of_ble_eq_true rfl) (h)
            · rw [if_pos (Or.inr d4)] at h
              refine x_icmp_eq (tgt := 82) (pc' := 78) rfl rfl rfl (fun q => absurd ((q_cI_eq (k := 59) (hc _) (by decide)).mp q) d4) (fun _ => ?_)
              refine x_iload_n (pc' := 79) rfl rfl rfl ?_
              refine x_goto (tgt := 84) rfl rfl ?_
              exact x_ireturn rfl rfl rfl (Nat.le_of_ble_eq_true rfl) (Nat.le_of_ble_eq_true rfl) (h)
        · exfalso
          have h2 := nI_pos (n := q_kd (q_t L ℓ (s + 1))) (by omega)
          rw [q] at h2
          exact h2 (by decide)
    · have hp0 : q_p0 (q_t L ℓ) s = s + 1 := if_neg d1
      rw [if_neg (fun q => d1 q.1)] at h
      refine x_icmp_ne (tgt := 43) (pc' := 25) rfl rfl rfl (fun _ => ?_) (fun q => absurd ((q_cI_eq (k := 98) (hc s) (by decide)).mp q) d1)
      refine x_aload_n (pc' := 44) rfl rfl rfl ?_
      refine x_iload_n (pc' := 45) rfl rfl rfl ?_
      refine x_iload_n (pc' := 46) rfl rfl rfl ?_
      refine x_cS1i (d := 1) (pc' := 49) rfl rfl sX2_37 gX2_mostDigits ⟨Nat.le_of_ble_eq_true rfl, Nat.le_of_ble_eq_true rfl⟩ (Nat.le_of_ble_eq_true rfl) ⟨Nat.le_of_ble_eq_true rfl, Nat.le_of_ble_eq_true rfl⟩ ?_
      refine l_most (hc s) ⟨_, rfl, ?_⟩
      refine x_cV2i (d := 3) (pc' := 52) rfl rfl sX2_43 gX2_digitsFrom (hS.lt) ⟨Nat.le_of_ble_eq_true rfl, Nat.le_of_ble_eq_true rfl⟩ (Nat.le_of_ble_eq_true rfl) ⟨Nat.le_of_ble_eq_true rfl, Nat.le_of_ble_eq_true rfl⟩ ?_
      refine l_digs hS hL (by omega) hm9 ⟨_, rfl, ?_⟩
      have hdn : q_df (q_t L ℓ) (q_md (q_t L ℓ s)) (s + 1) = q_dn (q_t L ℓ) s := by unfold q_dn; rw [hp0]
      rw [hdn]
      have hed : s + 1 + q_dn (q_t L ℓ) s = q_ed (q_t L ℓ) s := by unfold q_ed; rw [hp0]
      refine x_istore (pc' := 54) (lv' := [(4, _), (3, _), (2, _), (0, _), (1, _)]) rfl rfl (Nat.le_of_ble_eq_true rfl) rfl ?_
      refine x_iload_n (pc' := 55) rfl rfl rfl ?_
      refine x_iload (pc' := 57) rfl rfl rfl ?_
      refine x_iadd (pc' := 58) rfl rfl ?_
      refine x_eqi (nI_add _ _) ?_
      rw [hed]
      have hdn9 : q_dn (q_t L ℓ) s ≤ q_md (q_t L ℓ s) := hdl
      have hel : q_ed (q_t L ℓ) s < 2 ^ 20 := by omega
      refine x_istore_n (pc' := 59) (lv' := [(3, _), (4, _), (2, _), (0, _), (1, _)]) rfl rfl (Nat.le_of_ble_eq_true rfl) rfl ?_
      refine x_iload (pc' := 61) rfl rfl rfl ?_
      refine x_iload_n (pc' := 62) rfl rfl rfl ?_
      refine x_cS1i (d := 2) (pc' := 65) rfl rfl sX2_47 gX2_leastDigits ⟨Nat.le_of_ble_eq_true rfl, Nat.le_of_ble_eq_true rfl⟩ (Nat.le_of_ble_eq_true rfl) ⟨Nat.le_of_ble_eq_true rfl, Nat.le_of_ble_eq_true rfl⟩ ?_
      refine l_least (hc s) ⟨_, rfl, ?_⟩
      by_cases d3 : q_dn (q_t L ℓ) s < q_ld (q_t L ℓ s)
      · rw [if_pos (Or.inl d3)] at h
        refine x_icmp_lt (tgt := 78) (pc' := 68) rfl rfl rfl (fun _ => ?_) (fun q => absurd (nI_lt d3 (by omega)) q)
        refine x_iload_n (pc' := 79) rfl rfl rfl ?_
        refine x_goto (tgt := 84) rfl rfl ?_
        exact x_ireturn rfl rfl rfl (Nat.le_of_ble_eq_true rfl) (Nat.le_of_ble_eq_true rfl) (h)
      · refine x_icmp_lt (tgt := 78) (pc' := 68) rfl rfl rfl (fun q => absurd q (nI_nlt (by omega) (by omega))) (fun _ => ?_)
        refine x_aload_n (pc' := 69) rfl rfl rfl ?_
        refine x_iload_n (pc' := 70) rfl rfl rfl ?_
        refine x_cV1i (d := 1) (pc' := 73) rfl rfl sX2_34 gX2_letterAt (hS.lt) ⟨Nat.le_of_ble_eq_true rfl, Nat.le_of_ble_eq_true rfl⟩ (Nat.le_of_ble_eq_true rfl) ⟨Nat.le_of_ble_eq_true rfl, Nat.le_of_ble_eq_true rfl⟩ ?_
        refine l_at hS hL (by omega) ⟨_, rfl, ?_⟩
        refine x_bipush (pc' := 75) rfl rfl bipush_59 ?_
        by_cases d4 : q_t L ℓ (q_ed (q_t L ℓ) s) = 59
        · rw [if_neg (fun q => q.elim d3 (fun k => k d4))] at h
          refine x_icmp_eq (tgt := 82) (pc' := 78) rfl rfl rfl (fun _ => ?_) (fun q => absurd ((q_cI_eq (k := 59) (hc _) (by decide)).mpr d4) q)
          refine x_bipush (pc' := 84) rfl rfl bipush_m9 ?_
          exact x_ireturn rfl rfl rfl (Nat.le_of_ble_eq_true rfl) (Nat.le_of_ble_eq_true rfl) (h)
        · rw [if_pos (Or.inr d4)] at h
          refine x_icmp_eq (tgt := 82) (pc' := 78) rfl rfl rfl (fun q => absurd ((q_cI_eq (k := 59) (hc _) (by decide)).mp q) d4) (fun _ => ?_)
          refine x_iload_n (pc' := 79) rfl rfl rfl ?_
          refine x_goto (tgt := 84) rfl rfl ?_
          exact x_ireturn rfl rfl rfl (Nat.le_of_ble_eq_true rfl) (Nat.le_of_ble_eq_true rfl) (h)
theorem l_behL {s e : Nat} (hS : x_Sys z f S) (hL : q_L S L ℓ) (he : e < L) (h59 : q_t L ℓ e = 59) (hno : ∀ j, s ≤ j → j < e → ¬ q_t L ℓ j = 59) (h : post (some (.int (nI (e + 1)))) f) : ∀ (k i : Nat), i + k = e → s ≤ i → X E (x_rm 2 0 0) mX2_behindStatement (x_QM E z 0 0 post) 2 [(2, .int (nI i)), (0, .ref 17), (1, .int (nI s))] [] z f 0 0 := by
  have hc := q_t_le (L := L) hL.2.2.2
  have l2 := hL.2.1
  intro k
  induction k with
  | zero =>
    intro i hi hsi
    have hi2 : i = e := by omega
    subst hi2
    refine x_iload_n (pc' := 3) rfl rfl rfl ?_
    refine x_aload_n (pc' := 4) rfl rfl rfl ?_
    refine x_get (pc' := 7) rfl rfl rfl (hS.lt) rfl ?_
    refine x_eqi hL.1 ?_
    refine x_icmp_ge (tgt := 26) (pc' := 10) rfl rfl rfl (fun c7 => absurd c7 ((nI_ge he (by omega)))) (fun _ => ?_)
    refine x_aload_n (pc' := 11) rfl rfl rfl ?_
    refine x_iload_n (pc' := 12) rfl rfl rfl ?_
    refine x_cV1i (d := 1) (pc' := 15) rfl rfl sX2_34 gX2_letterAt (hS.lt) ⟨Nat.le_of_ble_eq_true rfl, Nat.le_of_ble_eq_true rfl⟩ (Nat.le_of_ble_eq_true rfl) ⟨Nat.le_of_ble_eq_true rfl, Nat.le_of_ble_eq_true rfl⟩ ?_
    refine l_at hS hL (by omega) ⟨_, rfl, ?_⟩
    refine x_bipush (pc' := 17) rfl rfl bipush_59 ?_
    refine x_icmp_eq (tgt := 26) (pc' := 20) rfl rfl rfl (fun _ => ?_) (fun c17 => absurd (((q_cI_eq (k := 59) (hc _) (by decide)).mpr h59)) c17)
    refine x_iload_n (pc' := 27) rfl rfl rfl ?_
    refine x_iconst (pc' := 28) rfl rfl iconst_1 ?_
    refine x_iadd (pc' := 29) rfl rfl ?_
    refine x_eqi (nI_1 _) ?_
    exact x_ireturn rfl rfl rfl (Nat.le_of_ble_eq_true rfl) (Nat.le_of_ble_eq_true rfl) (h)
  | succ k ih =>
    intro i hi hsi
    refine x_iload_n (pc' := 3) rfl rfl rfl ?_
    refine x_aload_n (pc' := 4) rfl rfl rfl ?_
    refine x_get (pc' := 7) rfl rfl rfl (hS.lt) rfl ?_
    refine x_eqi hL.1 ?_
    refine x_icmp_ge (tgt := 26) (pc' := 10) rfl rfl rfl (fun c7 => absurd c7 ((nI_ge (by omega) (by omega)))) (fun _ => ?_)
    refine x_aload_n (pc' := 11) rfl rfl rfl ?_
    refine x_iload_n (pc' := 12) rfl rfl rfl ?_
    refine x_cV1i (d := 1) (pc' := 15) rfl rfl sX2_34 gX2_letterAt (hS.lt) ⟨Nat.le_of_ble_eq_true rfl, Nat.le_of_ble_eq_true rfl⟩ (Nat.le_of_ble_eq_true rfl) ⟨Nat.le_of_ble_eq_true rfl, Nat.le_of_ble_eq_true rfl⟩ ?_
    refine l_at hS hL (by omega) ⟨_, rfl, ?_⟩
    refine x_bipush (pc' := 17) rfl rfl bipush_59 ?_
    refine x_icmp_eq (tgt := 26) (pc' := 20) rfl rfl rfl (fun c17 => absurd c17 ((fun q => hno i hsi (by omega) ((q_cI_eq (k := 59) (hc _) (by decide)).mp q)))) (fun _ => ?_)
    refine x_iinc (pc' := 23) (lv' := [(2, _), (0, _), (1, _)]) rfl rfl (Nat.le_of_ble_eq_true rfl) rfl (nI_1 i) rfl ?_
    refine x_goto (tgt := 2) rfl rfl ?_
    exact ih (i + 1) (by omega) (by omega)
theorem l_beh {s : Nat} (hS : x_Sys z f S) (hL : q_L S L ℓ) (hsk : q_sk (q_t L ℓ) s = none) (h : post (some (.int (nI (q_ed (q_t L ℓ) s + 1)))) f) : Y E 2 mX2_behindStatement [.ref 17, .int (nI s)] z f 0 0 post := by
  refine Y.intro gX2_behindStatement (lv := [(0, .ref 17), (1, .int (nI s))]) rfl (Nat.le_of_ble_eq_true rfl) ?_
  have h59 := (q_sk_no hsk).2.2.2
  have hgt := q_ed_gt (t := q_t L ℓ) (s := s)
  have he : q_ed (q_t L ℓ) s < L := by
    rcases Nat.lt_or_ge (q_ed (q_t L ℓ) s) L with q | q
    · exact q
    · rw [(q_t_256 hL.2.2.2).mpr q] at h59
      omega
  refine x_iload_n (pc' := 1) rfl rfl rfl ?_
  refine x_istore_n (pc' := 2) (lv' := [(2, _), (0, _), (1, _)]) rfl rfl (Nat.le_of_ble_eq_true rfl) rfl ?_
  refine x_lvp [0, 1, 2] rfl ?_
  exact l_behL hS hL he h59 (q_sk_59 hsk) h (q_ed (q_t L ℓ) s - s) s (by omega) (Nat.le_refl _)
end LT
