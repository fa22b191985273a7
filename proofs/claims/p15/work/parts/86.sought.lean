/-! The levels, one behind the other. -/
section SOU
variable {g : q_G} {w d l e : Nat} {R : Nat → Nat → Nat} {R1 : Nat → Int32} {G : Nat → Nat → Nat} {K : q_K}
theorem e_none (hd : 1 ≤ d) (hV : e_V g w d l e R G) (h : e_N g w d l e R R1 G e 0 K) : ¬ e_D g w d (g_β g) := by
  obtain ⟨v1, v2, v3, v4, v5, v6⟩ := hV
  obtain ⟨h1, h2, h3, h4, h5, h6, h7, h8⟩ := h
  intro q
  obtain ⟨k, rfl⟩ : ∃ k, d = k + 1 := ⟨d - 1, by omega⟩
  rcases q with q | ⟨b0, q1, q2⟩
  · exact v6 (e_D_0 q _)
  · obtain ⟨x, y, a1, a2, a3, a4, a5⟩ := v3 b0 0 q1 q2 v6
    exact (h8 x y (Or.inl a2) a1 a2 a3).1 a5
theorem e_next (hd : 1 ≤ d) (hd5 : d < 5) (hn9 : g_n g ≤ 9) (hV : e_V g w d l e R G) (h : e_N g w d l e R R1 G e 0 K) : e_V g w (d + 1) e K.2.2.2.1 K.1 (fun p _ => e_F K p) ∧ (∀ q b, e ≤ q → q < K.2.2.2.1 → b < g_n g → (if d + 1 = 1 then nI b else K.2.1 q) = nI (e_F K q)) := by
  have hno := e_none hd hV h
  obtain ⟨v1, v2, v3, v4, v5, v6⟩ := hV
  obtain ⟨h1, h2, h3, h4, h5, h6, h7, h8⟩ := h
  have eF : ∀ q x y, l ≤ x → x < e → e_c g (R x) y → K.2.1 q = nI (G x y) → e_F K q = G x y := by
    intro q x y b2 b3 b4 b6
    have hG2 := (v2 x y b2 b3 b4).1
    show (K.2.1 q).toNatClampNeg = G x y
    rw [b6]
    exact nI_clamp (by omega)
  have ed : ∀ t, d + 1 - 1 + t = d - 1 + (t + 1) := fun t => by omega
  refine ⟨⟨h5, fun p b a1 a2 a3 => ?_, fun b0 t c1 c2 c3 => ?_, fun p b x y a1 a2 a3 => ?_, fun p t a1 a2 => ?_, hno⟩, fun q b a1 a2 a3 => ?_⟩
  · obtain ⟨x, y, b1, b2, b3, b4, b5, b6⟩ := h6 p a1 a2
    have b7 := eF p x y b2 b3 b4 b6
    obtain ⟨u1, u2, u3⟩ := v2 x y b2 b3 b4
    show e_F K p < g_n g ∧ e_c g (g_β g) (e_F K p) ∧ ∀ t, e_D g w t (e_s g (K.1 p) b) → e_D g w (d + 1 - 1 + t) (e_s g (g_β g) (e_F K p))
    rw [b7]
    refine ⟨u1, u2, fun t ht => ?_⟩
    rw [ed t]
    refine u3 (t + 1) ?_
    rw [← b5]
    exact Or.inr ⟨b, a3, ht⟩
  · rw [ed t] at c2 c3
    obtain ⟨x, y, a1, a2, a3, a4, a5⟩ := v3 b0 (t + 1) c1 c2 c3
    obtain ⟨k1, k2⟩ := h8 x y (Or.inl a2) a1 a2 a3
    obtain ⟨q, q1, q2, q3⟩ := k2 hd5
    by_cases k : q < e
    · exfalso
      apply c3
      refine v5 q (t + 1) k ?_
      rw [← (h4 q k).1, q2]
      exact a5
    · have hq := q3 (by omega)
      rw [← q2] at a5 k1
      rcases a5 with a5 | ⟨b, a6, a7⟩
      · exact absurd a5 k1
      · exact ⟨q, b, by omega, q1, a6, Nat.le_trans hq a4, a7⟩
  · exact h7 p x a1 (by omega) a2
  · rw [ed t]
    by_cases k : p < e
    · have e1 := (h4 p k).1
      rw [e1] at a2
      have e2 := v5 p t k a2
      exact e_D_up _ _ e2
    · obtain ⟨x, y, b1, b2, b3, b4, b5, b6⟩ := h6 p (by omega) a1
      refine v5 x (t + 1) b3 ?_
      rw [b5] at a2
      exact Or.inr ⟨y, b4, a2⟩
  · obtain ⟨x, y, b1, b2, b3, b4, b5, b6⟩ := h6 q a1 a2
    rw [eF q x y b2 b3 b4 b6, if_neg (by omega), b6]
theorem e_found (hd : 1 ≤ d) (hV : e_V g w d l e R G) (h : e_O g w d l e R G K) : ∃ f, f < g_n g ∧ K.2.2.2.2 = (nI d, nI f) ∧ e_R g w d f := by
  obtain ⟨v1, v2, v3, v4, v5, v6⟩ := hV
  obtain ⟨p, b, o1, o2, o3, o4, o5, o6⟩ := h
  obtain ⟨u1, u2, u3⟩ := v2 p b o1 o2 o3
  refine ⟨G p b, u1, o5, ?_, fun x hx q => ?_, u2, u3 0 o4, fun y hy hc q => ?_⟩
  · have h1 := v5 p 1 o2 (Or.inr ⟨b, o3, o4⟩)
    rw [show d - 1 + 1 = d from by omega] at h1
    exact h1
  · have h1 := e_D_le q (d - 1 - x)
    rw [show x + (d - 1 - x) = d - 1 from by omega] at h1
    exact v6 h1
  · obtain ⟨x, z, a1, a2, a3, a4, a5⟩ := v3 y 0 hc q v6
    by_cases k : e_lx x z p b
    · exact o6 x z k a1 a2 a3 a5
    · by_cases k2 : x = p ∧ z = b
      · rw [k2.1, k2.2] at a4
        omega
      · have h1 := v4 p b x z o1 a2 (by omega)
        omega
theorem e_N0 (h1 : e_t (g_n g) K) (hm : K.2.2.2.2 = (-9, -9)) (hl : l ≤ K.2.2.2.1) (h5 : ∀ q, q < K.2.2.2.1 → e_a g (K.1 q) ∧ ∀ j, K.1 q j ≤ 99) : e_N g w d l K.2.2.2.1 K.1 K.2.1 G l 0 K :=
  ⟨h1, ⟨Nat.le_refl _, by omega⟩, hm, fun q _ => ⟨rfl, rfl⟩, h5, fun q a1 a2 => absurd a2 (by omega), fun q r a1 a2 a3 => absurd a3 (by omega), fun x y a1 a2 a3 a4 => absurd a2 (by omega)⟩
theorem e_dp (hg : g_ok 99 g) : ∀ (m d l : Nat) (K : q_K) (G : Nat → Nat → Nat), d + m = 6 → 1 ≤ d → m ≤ 5 → l ≤ K.2.2.2.1 →
    ((d = 1 → K.2.2.2.1 ≤ 1 ∧ K.2.2.2.1 - l ≤ 1) ∧ (d = 2 → K.2.2.2.1 ≤ 10 ∧ K.2.2.2.1 - l ≤ 9) ∧ (d = 3 → K.2.2.2.1 ≤ 91 ∧ K.2.2.2.1 - l ≤ 81) ∧ (d = 4 → K.2.2.2.1 ≤ 820 ∧ K.2.2.2.1 - l ≤ 729)) →
    e_t (g_n g) K → K.2.2.2.2 = (-9, -9) → (∀ q, q < K.2.2.2.1 → e_a g (K.1 q) ∧ ∀ j, K.1 q j ≤ 99) → ¬ e_D g w (d - 1) (g_β g) → (1 ≤ m → e_V g w d l K.2.2.2.1 K.1 G ∧ ∀ q b, l ≤ q → q < K.2.2.2.1 → b < g_n g → (if d = 1 then nI b else K.2.1 q) = nI (G q b)) →
    (∃ x f, 1 ≤ x ∧ x ≤ 5 ∧ f < g_n g ∧ (q_dp w g m d l K).2.2.2.2 = (nI x, nI f) ∧ e_R g w x f) ∨ ((q_dp w g m d l K).2.2.2.2 = (-9, -9) ∧ ¬ e_D g w 5 (g_β g))
  | 0, d, l, K, G, hd, hd1, hm, hl, hs, ht, h9, h5, hno, hV => by
    refine Or.inr ⟨h9, ?_⟩
    rw [show d - 1 = 5 from by omega] at hno
    exact hno
  | m + 1, d, l, K, G, hd, hd1, hm, hl, hs, ht, h9, h5, hno, hV => by
    obtain ⟨V, hR⟩ := hV (by omega)
    have e9 : K.2.2.2.2.1 = -9 := by rw [h9]
    have hN := e_N0 (w := w) (d := d) (G := G) ht h9 hl h5
    rw [q_dp, if_pos e9]
    rcases e_li hg hd1 (by omega) V hR (fun k => by omega) (K.2.2.2.1 - l) l K (Nat.le_refl l) (by omega) hN with k | k
    · have k0 := k
      obtain ⟨t1, t2, t3, t4, t5, t6, t7, t8⟩ := k0
      have hno2 := e_none hd1 V k
      refine e_dp hg m (d + 1) K.2.2.2.1 (q_li w d g (K.2.2.2.1 - l) l K) (fun p _ => e_F (q_li w d g (K.2.2.2.1 - l) l K) p) (by omega) (by omega) (by omega) t2.1 ?_ t1 t3 t5 hno2 (fun hm1 => e_next hd1 (by omega) hg.1 V k)
      omega
    · refine Or.inl ?_
      obtain ⟨f, f1, f2, f3⟩ := e_found hd1 V k
      have e2 : q_dp w g m (d + 1) K.2.2.2.1 (q_li w d g (K.2.2.2.1 - l) l K) = q_li w d g (K.2.2.2.1 - l) l K := by
        cases m with
        | zero => rfl
        | succ m => rw [q_dp, if_neg (e_O_ne (by omega) k)]
      rw [e2]
      exact ⟨d, f, hd1, by omega, f1, f2, f3⟩
theorem e_cn_0 : ∀ N, e_cn (fun _ => 0) N = 0
  | 0 => rfl
  | n + 1 => by
    rw [e_cn, e_cn_0 n, if_pos rfl]
theorem e_sek (hg : g_ok 99 g) (hw : ¬ g_β g w = 0) : (∃ x f, 1 ≤ x ∧ x ≤ 5 ∧ f < g_n g ∧ q_sek w g = (nI x, nI f) ∧ e_R g w x f) ∨ (q_sek w g = (-9, -9) ∧ ¬ e_D g w 5 (g_β g)) := by
  have ht0 : e_t (g_n g) ((fun _ _ => 0, fun _ => 0, fun _ => 0, 0, -9, -9) : q_K) := ⟨fun p hp => absurd hp (Nat.not_lt_zero _), fun N _ => by rw [e_cn_0]; exact Nat.zero_le _, fun j => Nat.le_refl _⟩
  have e1 : q_sek w g = (q_dp w g 5 1 0 (q_K1 g)).2.2.2.2 := if_neg hw
  rw [e1]
  rcases e_keep (fm := -9) (β := g_β g) ht0 (by decide) (fun p hp => absurd hp (Nat.not_lt_zero _)) with ⟨⟨p, hp, _⟩, _⟩ | ⟨_, c, k2, k3⟩
  · exact absurd hp (Nat.not_lt_zero _)
  · have e2 : q_K1 g = e_ins (g_β g) (-9) c ((fun _ _ => 0, fun _ => 0, fun _ => 0, 0, -9, -9) : q_K) := k2
    have hH : (q_K1 g).2.2.2.1 = 1 := by rw [e2]; rfl
    have h9 : (q_K1 g).2.2.2.2 = (-9, -9) := by rw [e2]; rfl
    have hr : (q_K1 g).1 0 = g_β g := by rw [e2]; rfl
    have ht : e_t (g_n g) (q_K1 g) := by rw [e2]; exact k3
    have h5 : ∀ q, q < (q_K1 g).2.2.2.1 → e_a g ((q_K1 g).1 q) ∧ ∀ j, (q_K1 g).1 q j ≤ 99 := by
      intro q hq
      have hq0 : q = 0 := by omega
      rw [hq0, hr]
      exact ⟨fun j _ => rfl, hg.2.2.2.2.2.1⟩
    have z1 : ∀ t, 1 - 1 + t = t := fun t => Nat.zero_add t
    refine e_dp hg 5 1 0 (q_K1 g) (fun _ b => b) rfl (Nat.le_refl 1) (Nat.le_refl 5) (Nat.zero_le _) (by omega) ht h9 h5 hw (fun _ => ⟨⟨h5, fun p b a1 a2 a3 => ?_, fun b0 t c1 c2 c3 => ?_, fun p b x y a1 a2 a3 => ?_, fun p t a1 a2 => ?_, hw⟩, fun q b a1 a2 a3 => if_pos rfl⟩)
    · have hp0 : p = 0 := by omega
      rw [hp0, hr] at a3
      rw [hp0, hr]
      refine ⟨a3.2.1, a3, fun t ht => ?_⟩
      rw [z1 t]
      exact ht
    · rw [z1 t] at c2
      refine ⟨0, b0, Nat.le_refl 0, by omega, ?_, Nat.le_refl b0, ?_⟩
      · rw [hr]
        exact c1
      · rw [hr]
        exact c2
    · show b ≤ y
      omega
    · have hp0 : p = 0 := by omega
      rw [hp0, hr] at a2
      rw [z1 t]
      exact a2
end SOU
theorem an_toEmpty {A : q_A} {a b : Int32} {N : Nat} (ho : a_ok A) (hb : a_b N A) (hN : N ≤ 700) : (s_teC A a b).2 = (s_teR A a b).2 := by
  unfold s_teC s_teR
  by_cases h : q_in (g_n (a_g A)) a
  · rw [if_pos h, if_pos h]
    by_cases h2 : b < 0 ∨ 1 < b
    · rw [if_pos h2, if_pos h2]
    · rw [if_neg h2, if_neg h2]
      have hg : ∀ j, g_π (a_g A) j ≤ 990 := fun j => by
        have h3 := hb.1.1
        have h4 := hb.1.2 j
        omega
      show (if b = 0 then (q_sek a.toNatClampNeg (a_g A)).1 else (q_sek a.toNatClampNeg (a_g A)).2) = q_te a.toNatClampNeg (a_g A) b 6 0
      by_cases hw : g_β (a_g A) a.toNatClampNeg = 0
      · have e1 : q_sek a.toNatClampNeg (a_g A) = (0, -9) := if_pos hw
        have e2 : q_em a.toNatClampNeg 0 (a_g A) = true := decide_eq_true hw
        have e3 : q_te a.toNatClampNeg (a_g A) b 6 0 = if b = 0 then nI 0 else q_ef a.toNatClampNeg 0 (a_g A) (-9) := if_pos e2
        rw [e1, e3]
        rfl
      · rcases e_sek ho.1 hw with ⟨x, f, f1, f2, f3, f4, f5⟩ | ⟨f1, f2⟩
        · rw [f4, e_ref hg f1 f2 f5]
        · rw [f1, e_ref_no hg f2]
          by_cases hb0 : b = 0
          · rw [if_pos hb0]
          · rw [if_neg hb0]
  · rw [if_neg h, if_neg h]
