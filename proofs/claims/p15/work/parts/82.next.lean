/-! Ways are few: no cap is met, so both sides ask for the same bowl. -/
def n_su (w : Nat → Nat) (k lo : Nat) : Nat → Nat
  | 0 => 0
  | j + 1 => n_su w k lo j + w (k - (lo + j))
def n_wy (g : q_G) (ρ : Nat → Nat) : Nat → Nat → Nat
  | 0, k => if k = 0 then 1 else 0
  | b + 1, k => n_su (n_wy g ρ b) k (q_lo g ρ b) (min (q_hi g ρ b) k + 1 - q_lo g ρ b)
theorem n_su_l {w : Nat → Int64} {v : Nat → Nat} (h : ∀ i, w i = lN (v i)) (k lo : Nat) : ∀ j, q_su w k lo j = lN (n_su v k lo j)
  | 0 => rfl
  | j + 1 => by rw [q_su, n_su, n_su_l h k lo j, h, lN_add]
theorem n_wy_l (g : q_G) (ρ : Nat → Nat) : ∀ (b k : Nat), q_wy g ρ b k = lN (n_wy g ρ b k)
  | 0, k => by
    by_cases d : k = 0
    · exact Eq.trans (b := (1 : Int64)) (if_pos d) (congrArg lN (show 1 = n_wy g ρ 0 k from (if_pos d).symm))
    · exact Eq.trans (b := (0 : Int64)) (if_neg d) (congrArg lN (show 0 = n_wy g ρ 0 k from (if_neg d).symm))
  | b + 1, k => by
    rw [q_wy, n_wy]
    exact n_su_l (n_wy_l g ρ b) k _ _
theorem n_su_sum (w : Nat → Nat) (k lo : Nat) : ∀ j, lo + j ≤ k + 1 → n_su w k lo j + q_sum w (k + 1 - (lo + j)) = q_sum w (k + 1 - lo)
  | 0, _ => Nat.zero_add _
  | j + 1, h => by
    have ih := n_su_sum w k lo j (by omega)
    have e : k + 1 - (lo + j) = (k - (lo + j)) + 1 := by omega
    have e2 : k + 1 - (lo + (j + 1)) = k - (lo + j) := by omega
    rw [e] at ih
    have e3 : q_sum w (k - (lo + j) + 1) = q_sum w (k - (lo + j)) + w (k - (lo + j)) := rfl
    have e4 : n_su w k lo (j + 1) = n_su w k lo j + w (k - (lo + j)) := rfl
    rw [e2, e4]
    omega
theorem q_sum_up (w : Nat → Nat) (a : Nat) : ∀ d, q_sum w a ≤ q_sum w (a + d)
  | 0 => Nat.le_refl _
  | d + 1 => Nat.le_trans (q_sum_up w a d) (Nat.le_add_right _ _)
theorem q_sum_le {v w : Nat → Nat} (h : ∀ i, v i ≤ w i) : ∀ n, q_sum v n ≤ q_sum w n
  | 0 => Nat.le_refl _
  | n + 1 => Nat.add_le_add (q_sum_le h n) (h n)
theorem q_sum_mul (c : Nat) (v : Nat → Nat) : ∀ n, c * q_sum v n = q_sum (fun i => c * v i) n
  | 0 => rfl
  | n + 1 => by
    have ih := q_sum_mul c v n
    show c * (q_sum v n + v n) = q_sum (fun i => c * v i) n + c * v n
    rw [Nat.mul_add, ih]
theorem n_wy_le (g : q_G) (ρ : Nat → Nat) (b k : Nat) : n_wy g ρ (b + 1) k ≤ q_sum (n_wy g ρ b) (k + 1) := by
  show n_su (n_wy g ρ b) k (q_lo g ρ b) (min (q_hi g ρ b) k + 1 - q_lo g ρ b) ≤ _
  by_cases d : q_lo g ρ b ≤ min (q_hi g ρ b) k + 1
  · have h := n_su_sum (n_wy g ρ b) k (q_lo g ρ b) (min (q_hi g ρ b) k + 1 - q_lo g ρ b) (by omega)
    have h2 := q_sum_up (n_wy g ρ b) (k + 1 - q_lo g ρ b) (q_lo g ρ b)
    rw [show k + 1 - q_lo g ρ b + q_lo g ρ b = k + 1 from by omega] at h2
    omega
  · rw [show min (q_hi g ρ b) k + 1 - q_lo g ρ b = 0 from by omega]
    exact Nat.zero_le _
def n_ri : Nat → Nat → Nat
  | 0, _ => 1
  | b + 1, k => n_ri b k * (k + b + 1)
def n_fa : Nat → Nat
  | 0 => 1
  | b + 1 => (b + 1) * n_fa b
theorem n_ri_s (k : Nat) : ∀ b, n_ri (b + 1) k = (k + 1) * n_ri b (k + 1)
  | 0 => by
    show 1 * (k + 0 + 1) = (k + 1) * 1
    omega
  | b + 1 => by
    have ih := n_ri_s k b
    show n_ri (b + 1) k * (k + (b + 1) + 1) = (k + 1) * (n_ri b (k + 1) * (k + 1 + b + 1))
    rw [ih, Nat.mul_assoc, show k + (b + 1) + 1 = k + 1 + b + 1 from by omega]
theorem n_ri_sum (b : Nat) : ∀ k, (b + 1) * q_sum (n_ri b) (k + 1) = n_ri (b + 1) k
  | 0 => by
    show (b + 1) * (0 + n_ri b 0) = n_ri b 0 * (0 + b + 1)
    rw [Nat.zero_add, Nat.zero_add]
    exact Nat.mul_comm _ _
  | k + 1 => by
    have ih := n_ri_sum b k
    have e := n_ri_s k b
    have e5 : (k + 1) * n_ri b (k + 1) + (b + 1) * n_ri b (k + 1) = (k + 1 + b + 1) * n_ri b (k + 1) := (Nat.add_mul (k + 1) (b + 1) (n_ri b (k + 1))).symm
    show (b + 1) * (q_sum (n_ri b) (k + 1) + n_ri b (k + 1)) = n_ri b (k + 1) * (k + 1 + b + 1)
    rw [Nat.mul_add, ih, e, e5]
    exact Nat.mul_comm _ _
theorem n_w0 (g : q_G) (ρ : Nat → Nat) : ∀ k, q_sum (n_wy g ρ 0) (k + 1) = 1
  | 0 => rfl
  | k + 1 => by
    have ih := n_w0 g ρ k
    have e : n_wy g ρ 0 (k + 1) = 0 := if_neg (by omega)
    have e2 : q_sum (n_wy g ρ 0) (k + 1 + 1) = q_sum (n_wy g ρ 0) (k + 1) + n_wy g ρ 0 (k + 1) := rfl
    omega
theorem n_wy_ri (g : q_G) (ρ : Nat → Nat) : ∀ (b k : Nat), n_fa b * n_wy g ρ (b + 1) k ≤ n_ri b k
  | 0, k => by
    have h := n_wy_le g ρ 0 k
    have h2 := n_w0 g ρ k
    show 1 * n_wy g ρ (0 + 1) k ≤ 1
    omega
  | b + 1, k => by
    have h := n_wy_le g ρ (b + 1) k
    have h2 : q_sum (fun i => n_fa b * n_wy g ρ (b + 1) i) (k + 1) ≤ q_sum (n_ri b) (k + 1) := q_sum_le (fun i => n_wy_ri g ρ b i) _
    rw [← q_sum_mul] at h2
    have h3 := n_ri_sum b k
    show (b + 1) * n_fa b * n_wy g ρ (b + 1 + 1) k ≤ n_ri (b + 1) k
    rw [← h3, Nat.mul_assoc]
    exact Nat.mul_le_mul_left _ (Nat.le_trans (Nat.mul_le_mul_left _ h) h2)
theorem n_num : ∀ b, b < 9 → ∀ k, k < 41 → n_ri b k < n_fa b * 1000000001 := by decide +kernel
theorem n_wy_cap {g : q_G} {ρ : Nat → Nat} {b k : Nat} (hb : b ≤ 9) (hk : k ≤ 40) : n_wy g ρ b k ≤ 1000000000 := by
  cases b with
  | zero =>
    by_cases d : k = 0
    · rw [show n_wy g ρ 0 k = 1 from if_pos d]
      decide
    · rw [show n_wy g ρ 0 k = 0 from if_neg d]
      decide
  | succ b =>
    have h1 := n_wy_ri g ρ b k
    have h2 := n_num b (by omega) k (by omega)
    have h3 : n_wy g ρ (b + 1) k < 1000000001 := Nat.lt_of_mul_lt_mul_left (a := n_fa b) (Nat.lt_of_le_of_lt h1 h2)
    omega
theorem q_cap_l {v : Nat} (h : v ≤ 1000000000) : q_cap (lN v) = nI v := by
  unfold q_cap
  have h2 : ¬ (1000000000 : Int64) < lN v := fun q => by
    have q2 := (lN_lt (a := 1000000000) (b := v) (by decide) (by omega)).mp q
    omega
  rw [if_neg h2]
  exact lN_i v
def n_V (g : q_G) (ρ : Nat → Nat) (n b : Nat) : Nat := if n_wy g (q_up ρ b 1) (g_n g) n < n_wy g (q_up ρ b 0) (g_n g) n then n_wy g (q_up ρ b 1) (g_n g) n else n_wy g (q_up ρ b 0) (g_n g) n
theorem n_V_le {g : q_G} {ρ : Nat → Nat} {n b : Nat} (hg : g_n g ≤ 9) (hn : n ≤ 40) : n_V g ρ n b ≤ 1000000000 := by
  unfold n_V
  split
  · exact n_wy_cap hg hn
  · exact n_wy_cap hg hn
theorem n_V_I {g : q_G} {ρ : Nat → Nat} {n b : Nat} (hg : g_n g ≤ 9) (hn : n ≤ 40) : q_neV g ρ n b = nI (n_V g ρ n b) := by
  have h0 := n_wy_cap (g := g) (ρ := q_up ρ b 0) hg hn
  have h1 := n_wy_cap (g := g) (ρ := q_up ρ b 1) hg hn
  unfold q_neV n_V
  rw [n_wy_l, n_wy_l, q_cap_l h0, q_cap_l h1]
  generalize n_wy g (q_up ρ b 0) (g_n g) n = v0 at h0 ⊢
  generalize n_wy g (q_up ρ b 1) (g_n g) n = v1 at h1 ⊢
  by_cases d : v1 < v0
  · have d2 : ¬ nI v0 < nI v1 := nI_nlt (by omega) (by omega)
    rw [if_pos d, if_neg d2]
  · by_cases e : v0 < v1
    · have d2 : nI v0 < nI v1 := nI_lt e (by omega)
      rw [if_neg d, if_pos d2]
    · have d2 : v0 = v1 := by omega
      subst d2
      have d3 : ¬ nI v0 < nI v0 := nI_nlt (by omega) (by omega)
      rw [if_neg d, if_neg d3]
theorem n_V_l {g : q_G} {ρ : Nat → Nat} {n b : Nat} (hg : g_n g ≤ 9) (hn : n ≤ 40) : q_nlV g ρ n b = lN (n_V g ρ n b) := by
  have h0 := n_wy_cap (g := g) (ρ := q_up ρ b 0) hg hn
  have h1 := n_wy_cap (g := g) (ρ := q_up ρ b 1) hg hn
  unfold q_nlV n_V
  rw [n_wy_l, n_wy_l]
  generalize n_wy g (q_up ρ b 0) (g_n g) n = v0 at h0 ⊢
  generalize n_wy g (q_up ρ b 1) (g_n g) n = v1 at h1 ⊢
  by_cases d : v1 < v0
  · have d2 : lN v1 < lN v0 := (lN_lt (by omega) (by omega)).mpr d
    rw [if_pos d, if_pos d2]
  · have d2 : ¬ lN v1 < lN v0 := fun q => d ((lN_lt (by omega) (by omega)).mp q)
    rw [if_neg d, if_neg d2]
theorem n_ne {V : Nat → Int32} {V' : Nat → Int64} {ρ v : Nat → Nat} (hV : ∀ b, V b = nI (v b)) (hV' : ∀ b, V' b = lN (v b)) (hv : ∀ b, v b ≤ 1000000000) : ∀ m, (((q_ne V ρ m).1 = -1 ∧ (q_nl V' ρ m).1 = -1) ∨ ∃ x : Nat, x ≤ 1000000000 ∧ (q_ne V ρ m).1 = nI x ∧ (q_nl V' ρ m).1 = lN x) ∧ (q_nl V' ρ m).2 = (q_ne V ρ m).2
  | 0 => ⟨Or.inl ⟨rfl, rfl⟩, rfl⟩
  | b + 1 => by
    obtain ⟨h1, h2⟩ := n_ne (ρ := ρ) hV hV' hv b
    have key : (q_ne V ρ b).1 < V b ↔ (q_nl V' ρ b).1 < V' b := by
      have hb := hv b
      rw [hV, hV']
      rcases h1 with ⟨e1, e2⟩ | ⟨x, hx, e1, e2⟩
      · rw [e1, e2, Int32.lt_iff_toInt_lt, Int64.lt_iff_toInt_lt, nI_toInt (by omega), lN_toInt (by omega), show (-1 : Int32).toInt = -1 from by decide, show (-1 : Int64).toInt = -1 from by decide]
      · rw [e1, e2, nI_ltI (by omega) (by omega), lN_lt (by omega) (by omega)]
    rw [q_ne, q_nl]
    by_cases d : ρ b = 2 ∧ (q_ne V ρ b).1 < V b
    · have d2 : ρ b = 2 ∧ (q_nl V' ρ b).1 < V' b := ⟨d.1, key.mp d.2⟩
      rw [if_pos d, if_pos d2]
      exact ⟨Or.inr ⟨v b, hv b, hV b, hV' b⟩, rfl⟩
    · have d2 : ¬ (ρ b = 2 ∧ (q_nl V' ρ b).1 < V' b) := fun q => d ⟨q.1, key.mpr q.2⟩
      rw [if_neg d, if_neg d2]
      exact ⟨h1, h2⟩
theorem an_next {A : q_A} {a : Int32} (ho : a_ok A) : (s_neC A a).2 = (s_neR A a).2 := by
  unfold s_neC s_neR
  by_cases h1 : a < 0
  · rw [if_pos h1, if_pos h1]
  · rw [if_neg h1, if_neg h1]
    by_cases h4 : 40 < a
    · rw [if_pos h4, if_pos h4]
    · rw [if_neg h4, if_neg h4]
      by_cases h5 : q_isR A
      · rw [if_pos h5, if_pos h5]
        obtain ⟨n, hn, rfl⟩ := nI_of2 (n := 40) (M := 40) rfl h1 (Int32.not_lt.mp h4)
        rw [nI_clamp (by omega)]
        exact (n_ne (ρ := a_rf A) (v := n_V (a_g A) (a_rf A) n) (fun b => n_V_I ho.1.1 hn) (fun b => n_V_l ho.1.1 hn) (fun b => n_V_le ho.1.1 hn) _).2
      · rw [if_neg h5, if_neg h5]
