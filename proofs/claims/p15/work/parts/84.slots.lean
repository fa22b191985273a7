/-! The table of rings: what is kept is found again. -/
def e_it : Nat → Int32 → Int32
  | 0, s => s
  | i + 1, s => e_it i (s + 1)
theorem e_sj (s : Int32) : q_sj s = s.toBitVec.toNat % 16384 := by
  unfold q_sj
  rw [pk_and s (m := 16383) 14 (by decide)]
  have h := Nat.mod_lt s.toBitVec.toNat (show 0 < 2 ^ 14 from by decide)
  exact nI_clamp (by omega)
theorem e_sj1 (s : Int32) : q_sj (s + 1) = (q_sj s + 1) % 16384 := by
  have h1 : (1 : Int32).toBitVec.toNat = 1 := by decide
  rw [e_sj, e_sj, Int32.toBitVec_add, BitVec.toNat_add, h1]
  omega
theorem e_sjit : ∀ (i : Nat) (s : Int32), q_sj (e_it i s) = (q_sj s + i) % 16384
  | 0, s => by
    have h := q_sj_lt s
    show q_sj s = (q_sj s + 0) % 16384
    omega
  | i + 1, s => by
    have ih := e_sjit i (s + 1)
    have h1 := e_sj1 s
    show q_sj (e_it i (s + 1)) = _
    rw [ih, h1]
    omega
theorem e_old {n : Nat} {β : Nat → Nat} {fm : Int32} {K : q_K} {p : Nat} (hp : ∀ b, b < n → K.1 p b = β b) : ∀ (k : Nat) (s : Int32), (∃ i, i < k ∧ K.2.2.1 (q_sj (e_it i s)) = p + 1 ∧ ∀ j, j < i → ¬ K.2.2.1 (q_sj (e_it j s)) = 0) → q_kp n β fm k s K = K
  | 0, s, h => by
    obtain ⟨i, hi, _⟩ := h
    exact absurd hi (Nat.not_lt_zero _)
  | k + 1, s, h => by
    obtain ⟨i, hi, h1, h2⟩ := h
    have h0 : ¬ K.2.2.1 (q_sj s) = 0 := by
      cases i with
      | zero =>
        have h3 : K.2.2.1 (q_sj s) = p + 1 := h1
        omega
      | succ i => exact h2 0 (Nat.succ_pos _)
    rw [q_kp]
    by_cases hh : K.2.2.2.1 < 7381
    · rw [if_pos hh, if_neg h0]
      by_cases d : ∀ b, b < n → K.1 (K.2.2.1 (q_sj s) - 1) b = β b
      · rw [if_pos d]
      · rw [if_neg d]
        refine e_old hp k (s + 1) ?_
        cases i with
        | zero =>
          exfalso
          apply d
          have h3 : K.2.2.1 (q_sj s) = p + 1 := h1
          rw [h3]
          exact hp
        | succ i => exact ⟨i, Nat.lt_of_succ_lt_succ hi, h1, fun j hj => h2 (j + 1) (Nat.succ_lt_succ hj)⟩
    · rw [if_neg hh]
def e_ins (β : Nat → Nat) (fm : Int32) (c : Nat) (K : q_K) : q_K := (fun p => if p = K.2.2.2.1 then β else K.1 p, upd K.2.1 K.2.2.2.1 fm, q_up K.2.2.1 c (K.2.2.2.1 + 1), K.2.2.2.1 + 1, K.2.2.2.2)
theorem e_new {n : Nat} {β : Nat → Nat} {fm : Int32} {K : q_K} (hh : K.2.2.2.1 < 7381) (hs : ∀ j, K.2.2.1 j ≤ K.2.2.2.1) (hno : ∀ p, p < K.2.2.2.1 → ¬ ∀ b, b < n → K.1 p b = β b) : ∀ (k : Nat) (s : Int32), (∃ i, i < k ∧ K.2.2.1 (q_sj (e_it i s)) = 0) → ∃ i, i < k ∧ K.2.2.1 (q_sj (e_it i s)) = 0 ∧ (∀ j, j < i → ¬ K.2.2.1 (q_sj (e_it j s)) = 0) ∧ q_kp n β fm k s K = e_ins β fm (q_sj (e_it i s)) K
  | 0, s, h => by
    obtain ⟨i, hi, _⟩ := h
    exact absurd hi (Nat.not_lt_zero _)
  | k + 1, s, h => by
    by_cases h0 : K.2.2.1 (q_sj s) = 0
    · refine ⟨0, Nat.succ_pos _, h0, fun j hj => absurd hj (Nat.not_lt_zero _), ?_⟩
      rw [q_kp, if_pos hh, if_pos h0]
      rfl
    · have hx := hs (q_sj s)
      have hd := hno (K.2.2.1 (q_sj s) - 1) (by omega)
      obtain ⟨i, hi, hz⟩ := h
      cases i with
      | zero => exact absurd hz h0
      | succ i =>
        obtain ⟨i2, a0, a1, a2, a3⟩ := e_new hh hs hno k (s + 1) ⟨i, Nat.lt_of_succ_lt_succ hi, hz⟩
        refine ⟨i2 + 1, Nat.succ_lt_succ a0, a1, fun j hj => ?_, ?_⟩
        · cases j with
          | zero => exact h0
          | succ j => exact a2 j (Nat.lt_of_succ_lt_succ hj)
        · rw [q_kp, if_pos hh, if_neg h0, if_neg hd]
          exact a3
def e_cn (s : Nat → Nat) : Nat → Nat
  | 0 => 0
  | n + 1 => e_cn s n + (if s n = 0 then 0 else 1)
theorem e_cn_all {s : Nat → Nat} : ∀ n, (∀ j, j < n → ¬ s j = 0) → e_cn s n = n
  | 0, _ => rfl
  | n + 1, h => by
    have ih := e_cn_all n (fun j hj => h j (by omega))
    rw [e_cn, ih, if_neg (h n (Nat.lt_succ_self n))]
theorem e_cn_up {s : Nat → Nat} {c v : Nat} : ∀ n, e_cn (q_up s c v) n ≤ e_cn s n + (if c < n then 1 else 0)
  | 0 => Nat.zero_le _
  | n + 1 => by
    have ih := e_cn_up (s := s) (c := c) (v := v) n
    rw [e_cn, e_cn]
    by_cases d : n = c
    · rw [if_neg (show ¬ c < n by omega)] at ih
      rw [if_pos (show c < n + 1 by omega)]
      have h1 : (if q_up s c v n = 0 then 0 else 1) ≤ 1 := by split <;> omega
      omega
    · rw [q_up_n _ _ d]
      by_cases d2 : c < n
      · rw [if_pos d2] at ih
        rw [if_pos (show c < n + 1 by omega)]
        omega
      · rw [if_neg d2] at ih
        rw [if_neg (show ¬ c < n + 1 by omega)]
        omega
theorem e_free {s : Nat → Nat} {N : Nat} (hN : N = 16384) (hcn : e_cn s N < N) (x : Int32) : ∃ i, i < N ∧ s (q_sj (e_it i x)) = 0 := by
  by_cases h : ∃ i, i < N ∧ s (q_sj (e_it i x)) = 0
  · exact h
  · exfalso
    have h2 : ∀ j, j < N → ¬ s j = 0 := by
      intro j hj e
      apply h
      have h3 := q_sj_lt x
      refine ⟨(j + 16384 - q_sj x) % 16384, ?_, ?_⟩
      · omega
      · rw [e_sjit, show (q_sj x + (j + 16384 - q_sj x) % 16384) % 16384 = j from by omega]
        exact e
    have h4 := e_cn_all N h2
    omega
abbrev e_h (n : Nat) (β : Nat → Nat) : Int32 := q_hs (lN (q_eb β 0 n))
def e_t (n : Nat) (K : q_K) : Prop := (∀ p, p < K.2.2.2.1 → ∃ i, i < 16384 ∧ K.2.2.1 (q_sj (e_it i (e_h n (K.1 p)))) = p + 1 ∧ ∀ j, j < i → ¬ K.2.2.1 (q_sj (e_it j (e_h n (K.1 p)))) = 0) ∧ (∀ N, N = 16384 → e_cn K.2.2.1 N ≤ K.2.2.2.1) ∧ (∀ j, K.2.2.1 j ≤ K.2.2.2.1)
theorem e_t_ins {n : Nat} {β : Nat → Nat} {fm : Int32} {K : q_K} {i : Nat} (ht : e_t n K) (hi : i < 16384) (h0 : K.2.2.1 (q_sj (e_it i (e_h n β))) = 0) (h1 : ∀ j, j < i → ¬ K.2.2.1 (q_sj (e_it j (e_h n β))) = 0) : e_t n (e_ins β fm (q_sj (e_it i (e_h n β))) K) := by
  obtain ⟨t1, t2, t3⟩ := ht
  have nz : ∀ x, ¬ K.2.2.1 x = 0 → ¬ q_up K.2.2.1 (q_sj (e_it i (e_h n β))) (K.2.2.2.1 + 1) x = 0 := by
    intro x hx
    unfold q_up
    split
    · exact Nat.succ_ne_zero _
    · exact hx
  refine ⟨fun p hp => ?_, fun N hN => ?_, fun j => ?_⟩
  · by_cases d : p = K.2.2.2.1
    · have e : (e_ins β fm (q_sj (e_it i (e_h n β))) K).1 p = β := if_pos d
      rw [e]
      refine ⟨i, hi, ?_, fun j hj => nz _ (h1 j hj)⟩
      show q_up K.2.2.1 (q_sj (e_it i (e_h n β))) (K.2.2.2.1 + 1) (q_sj (e_it i (e_h n β))) = p + 1
      rw [q_up_s, d]
    · have e : (e_ins β fm (q_sj (e_it i (e_h n β))) K).1 p = K.1 p := if_neg d
      have hp2 : p < K.2.2.2.1 + 1 := hp
      rw [e]
      obtain ⟨x, x1, x2, x3⟩ := t1 p (by omega)
      refine ⟨x, x1, ?_, fun j hj => nz _ (x3 j hj)⟩
      show q_up K.2.2.1 (q_sj (e_it i (e_h n β))) (K.2.2.2.1 + 1) (q_sj (e_it x (e_h n (K.1 p)))) = p + 1
      rw [q_up_n _ _ (fun q => by rw [q, h0] at x2; omega)]
      exact x2
  · have h2 := t2 N hN
    have h3 := e_cn_up (s := K.2.2.1) (c := q_sj (e_it i (e_h n β))) (v := K.2.2.2.1 + 1) N
    have h4 : (if q_sj (e_it i (e_h n β)) < N then 1 else 0) ≤ 1 := by split <;> omega
    show e_cn (q_up K.2.2.1 (q_sj (e_it i (e_h n β))) (K.2.2.2.1 + 1)) N ≤ K.2.2.2.1 + 1
    omega
  · show q_up K.2.2.1 (q_sj (e_it i (e_h n β))) (K.2.2.2.1 + 1) j ≤ K.2.2.2.1 + 1
    exact q_up_le (fun x => Nat.le_succ_of_le (t3 x)) (Nat.le_refl _) j
theorem e_keep {n : Nat} {β : Nat → Nat} {fm : Int32} {K : q_K} (ht : e_t n K) (hh : K.2.2.2.1 < 7381) (ha : ∀ p, p < K.2.2.2.1 → (∀ b, b < n → K.1 p b = β b) → K.1 p = β) : ((∃ p, p < K.2.2.2.1 ∧ K.1 p = β) ∧ q_kp n β fm 16384 (e_h n β) K = K) ∨ ((∀ p, p < K.2.2.2.1 → ¬ K.1 p = β) ∧ ∃ c, q_kp n β fm 16384 (e_h n β) K = e_ins β fm c K ∧ e_t n (e_ins β fm c K)) := by
  by_cases h : ∃ p, p < K.2.2.2.1 ∧ K.1 p = β
  · refine Or.inl ⟨h, ?_⟩
    obtain ⟨p, hp, e⟩ := h
    have h2 := ht.1 p hp
    rw [e] at h2
    exact e_old (p := p) (fun b _ => by rw [e]) _ _ h2
  · have hno : ∀ p, p < K.2.2.2.1 → ¬ K.1 p = β := fun p hp e => h ⟨p, hp, e⟩
    refine Or.inr ⟨hno, ?_⟩
    have h3 : ∃ N : Nat, N = 16384 := ⟨_, rfl⟩
    obtain ⟨N, hN⟩ := h3
    have hf := e_free (s := K.2.2.1) hN (by have := ht.2.1 N hN; omega) (e_h n β)
    rw [hN] at hf
    obtain ⟨i, a0, a1, a2, a3⟩ := e_new (n := n) (β := β) (fm := fm) hh ht.2.2 (fun p hp q => hno p hp (ha p hp q)) 16384 (e_h n β) hf
    exact ⟨_, a3, e_t_ins ht a0 a1 a2⟩
