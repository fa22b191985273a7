/-! A move: pure facts, the class's Table. -/
/-- beans stay below a bound; the bowl emptied has no more than was sown -/
def q_bd (C b : Nat) (w : q_W) : Prop := (∀ i, w.1 i ≤ C) ∧ w.1 b ≤ w.2.2.2.2.1
theorem q_bd_run {κ : Nat → Nat} {n fu ln C b : Nat} (hC : 99 ≤ C) : ∀ (k : Nat) (w : q_W), q_bd C b w → q_bd C b (q_run κ n fu ln k w)
  | 0, w, h => h
  | k + 1, w, h => by
    by_cases hg : 0 < w.2.2.1 ∧ w.2.2.2.1 < n
    · rw [q_run_go hg]
      refine q_bd_run hC k _ ?_
      unfold q_st
      split
      · rename_i ht
        refine ⟨q_up_le h.1 (by have := ht.1; omega), ?_⟩
        show q_up w.1 (q_nx n ln w.2.1) _ b ≤ w.2.2.2.2.1 + 1
        by_cases hb : b = q_nx n ln w.2.1
        · rw [hb, q_up_s, ← hb]
          have := h.2
          omega
        · rw [q_up_n _ _ hb]
          have := h.2
          omega
      · exact h
    · rw [q_run_stop hg]
      exact h
/-- sown and in hand are what was taken -/
def q_sm (B : Nat) (w : q_W) : Prop := w.2.2.2.2.1 + w.2.2.1 = B
theorem q_sm_run {κ : Nat → Nat} {n fu ln B : Nat} : ∀ (k : Nat) (w : q_W), q_sm B w → q_sm B (q_run κ n fu ln k w)
  | 0, w, h => h
  | k + 1, w, h => by
    by_cases hg : 0 < w.2.2.1 ∧ w.2.2.2.1 < n
    · rw [q_run_go hg]
      refine q_sm_run k _ ?_
      unfold q_st q_sm at *
      split
      · show w.2.2.2.2.1 + 1 + (w.2.2.1 - 1) = B
        omega
      · exact h
    · rw [q_run_stop hg]
      exact h
theorem q_hand_le {κ β : Nat → Nat} {n fu ln b C : Nat} {l : Option Nat} (hC : 99 ≤ C) (hβ : ∀ i, β i ≤ C) : (∀ i, (q_hand κ n fu ln β b l).1 i ≤ C) ∧ (q_hand κ n fu ln β b l).2.1 ≤ C := by
  have h1 := q_bd_run (κ := κ) (n := n) (fu := fu) (ln := ln) (b := b) hC 1000 (q_up β b 0, b, β b, 0, 0, l) ⟨q_up_le hβ (by omega), by show q_up β b 0 b ≤ 0; rw [q_up_s]; exact Nat.le_refl _⟩
  have h2 := q_sm_run (κ := κ) (n := n) (fu := fu) (ln := ln) (B := β b) 1000 (q_up β b 0, b, β b, 0, 0, l) (by show 0 + β b = β b; omega)
  have hb := hβ b
  unfold q_hand
  generalize q_run κ n fu ln 1000 (q_up β b 0, b, β b, 0, 0, l) = w at *
  unfold q_sm at h2
  have h3 := h1.2
  exact ⟨q_up_le h1.1 (by omega), by show w.2.2.2.2.1 ≤ C; omega⟩
theorem q_hand_l {κ β : Nat → Nat} {n fu ln b : Nat} {l : Option Nat} (hb : b < n) (hβ : ∀ i, β i ≤ 100) (hl : ∀ p, l = some p → p < n) : (∀ p, (q_hand κ n fu ln β b l).2.2 = some p → p < n) ∧ (0 < (q_hand κ n fu ln β b l).2.1 → ∃ p, (q_hand κ n fu ln β b l).2.2 = some p ∧ p < n) := by
  have hok : q_ok n 100 (q_up β b 0, b, β b, 0, 0, l) := ⟨hb, q_up_le hβ (by omega), Nat.zero_le _, by show 0 + β b ≤ 100; have := hβ b; omega, hl⟩
  have h1 := q_ok_run (κ := κ) (fu := fu) (ln := ln) 1000 _ hok
  have h2 := q_lst_run (κ := κ) (fu := fu) (ln := ln) 1000 _ hok (fun h => absurd h (Nat.lt_irrefl 0))
  exact ⟨h1.2.2.2.2, h2⟩
/-- what the hands of a move leave -/
theorem q_hands_ok {κ : Nat → Nat} {n fu ln C : Nat} (hC : 99 ≤ C) (hC2 : C ≤ 100) : ∀ (k : Nat) (β : Nat → Nat) (b hs s : Nat) (l : Option Nat), b < n → (∀ i, β i ≤ C) → (∀ p, l = some p → p < n) →
    (∀ i, (q_hands κ n fu ln k β b hs s l).1 i ≤ C) ∧ (∀ p, (q_hands κ n fu ln k β b hs s l).2.2.2 = some p → p < n)
  | 0, β, b, hs, s, l, hb, hβ, hl => ⟨hβ, hl⟩
  | k + 1, β, b, hs, s, l, hb, hβ, hl => by
    have h1 := q_hand_le (κ := κ) (n := n) (fu := fu) (ln := ln) (b := b) (l := l) hC hβ
    have h2 := q_hand_l (κ := κ) (fu := fu) (ln := ln) hb (fun i => Nat.le_trans (hβ i) hC2) hl
    rw [q_hands]
    split
    · rename_i hg
      obtain ⟨p, hp, hpn⟩ := h2.2 hg.1
      refine q_hands_ok hC hC2 k _ _ _ _ _ ?_ h1.1 h2.1
      rw [hp]
      exact hpn
    · exact ⟨h1.1, h2.1⟩
/-- beans, hands, sown, last of a move, before the single one is taken -/
def q_mv (κ : Nat → Nat) (n fu ln : Nat) (β : Nat → Nat) (b : Nat) : (Nat → Nat) × Nat × Nat × Option Nat := if 2 ≤ n ∧ 0 < β b then q_hands κ n fu ln 60 β b 0 0 none else (β, 0, 0, none)
def q_tk1 (β : Nat → Nat) (pt : Nat) (l : Option Nat) : Bool := match l with
  | none => false
  | some p => decide (β p = 1) && decide (pt < 999)
def q_b1 (β : Nat → Nat) (pt : Nat) (l : Option Nat) : Nat → Nat := if q_tk1 β pt l = true then q_up β (l.getD 0) 0 else β
def q_p1 (β π : Nat → Nat) (tu : Nat) (l : Option Nat) : Nat → Nat := if q_tk1 β (π tu) l = true then q_up π tu (π tu + 1) else π
section MOVE
variable {E : x_E} {z : Nat} {f : x_H} {t : Nat} {T : x_T} {post : Option Value → x_H → Prop} {n fu ln b tu : Nat} {κ β π : Nat → Nat} {l : Option Nat}
theorem t_has_m9 {n : Nat} (hn : T.2.2.2 0 = nI n) : ¬ t_has T (-9) := fun h => h.1 (by decide)
theorem w_takeSingle (hT : x_t z f t T) (hn : T.2.2.2 0 = nI n) (hn9 : n ≤ 9) (hβ : T.2.1 = fun i => nI (β i)) (hβ5 : ∀ i, β i ≤ 100) (hl : T.2.2.2 6 = q_lI l) (hl5 : ∀ p, l = some p → p < n) (htu : T.2.2.2 3 = nI tu) (htu1 : tu ≤ 1) (hπ : T.2.2.1 = fun i => nI (π i)) (hπ5 : ∀ i, π i < 2 ^ 30)
    (h : ∀ f' : x_H, x_t z f' t (T.1, (fun i => nI (q_b1 β (π tu) l i)), (fun i => nI (q_p1 β π tu l i)), T.2.2.2) → x_fr (x_ot t) f f' → post (some (.int (if q_tk1 β (π tu) l = true then 1 else 0))) f') : Y E 3 mX3_takeSingle [.ref t] z f 0 0 post := by
  refine Y.intro gX3_takeSingle (lv := [(0, .ref t)]) rfl (Nat.le_of_ble_eq_true rfl) ?_
  have hclt : (nI tu).toNatClampNeg = tu := nI_clamp (by omega)
  have hvt : vp_in (nI tu) 2 := vp_in_nI (by omega) (by decide)
  have eπ : T.2.2.1 (nI tu).toNatClampNeg = nI (π tu) := by rw [hclt, hπ]
  have hno : q_tk1 β (π tu) l = false → post (some (.int 0)) f := by
    intro hq
    have hb : (fun i => nI (q_b1 β (π tu) l i)) = T.2.1 := by
      rw [hβ]
      unfold q_b1
      rw [hq]
      rfl
    have hp : (fun i => nI (q_p1 β π tu l i)) = T.2.2.1 := by
      rw [hπ]
      unfold q_p1
      rw [hq]
      rfl
    have h2 := h f (hT.cast (by rw [hb, hp])) x_fr.rf
    rw [hq] at h2
    exact h2
  cases l with
  | none =>
    refine x_aload_n (pc' := 1) rfl rfl rfl ?_
    refine x_aload_n (pc' := 2) rfl rfl rfl ?_
    refine x_get (pc' := 5) rfl rfl rfl (hT.1) rfl ?_
    refine x_eqi hl ?_
    refine x_cV1i (d := 2) (pc' := 8) rfl rfl sX3_59 gX3_beansOf (hT.1) ⟨Nat.le_of_ble_eq_true rfl, Nat.le_of_ble_eq_true rfl⟩ (Nat.le_of_ble_eq_true rfl) ⟨Nat.le_of_ble_eq_true rfl, Nat.le_of_ble_eq_true rfl⟩ ?_
    refine w_beansOf hT (fun g => absurd g (t_has_m9 hn)) (fun g => ⟨_, rfl, ?_⟩)
    refine x_iconst (pc' := 9) rfl rfl iconst_1 ?_
    refine x_icmp_ne (tgt := 46) (pc' := 12) rfl rfl rfl (fun _ => ?_) (fun c9 => absurd c9 ((by decide)))
    refine x_iconst (pc' := 47) rfl rfl iconst_0 ?_
    exact x_ireturn rfl rfl rfl (Nat.le_of_ble_eq_true rfl) (Nat.le_of_ble_eq_true rfl) (hno rfl)
  | some p =>
    have hp := hl5 p rfl
    have hl' : T.2.2.2 6 = nI p := hl
    have hcl : (nI p).toNatClampNeg = p := nI_clamp (by omega)
    have e1 : T.2.1 (nI p).toNatClampNeg = nI (β p) := by rw [hcl, hβ]
    have b1 := hβ5 p
    have p1 := hπ5 tu
    by_cases d1 : β p = 1
    · by_cases d2 : π tu < 999
      · have hq : q_tk1 β (π tu) (some p) = true := by simp [q_tk1, d1, d2]
        refine x_aload_n (pc' := 1) rfl rfl rfl ?_
        refine x_aload_n (pc' := 2) rfl rfl rfl ?_
        refine x_get (pc' := 5) rfl rfl rfl (hT.1) rfl ?_
        refine x_eqi hl' ?_
        refine x_cV1i (d := 2) (pc' := 8) rfl rfl sX3_59 gX3_beansOf (hT.1) ⟨Nat.le_of_ble_eq_true rfl, Nat.le_of_ble_eq_true rfl⟩ (Nat.le_of_ble_eq_true rfl) ⟨Nat.le_of_ble_eq_true rfl, Nat.le_of_ble_eq_true rfl⟩ ?_
        refine w_beansOf hT (fun g => ⟨_, rfl, ?_⟩) (fun g => absurd (t_has_nI hn hn9 hp) g)
        refine x_eqi e1 ?_
        refine x_iconst (pc' := 9) rfl rfl iconst_1 ?_
        refine x_icmp_ne (tgt := 46) (pc' := 12) rfl rfl rfl (fun c9 => absurd ((by rw [d1]; rfl)) c9) (fun _ => ?_)
        refine x_aload_n (pc' := 13) rfl rfl rfl ?_
        refine x_get (pc' := 16) rfl rfl rfl (hT.1) rfl ?_
        refine x_eqi htu ?_
        refine x_if_lt (tgt := 46) (pc' := 19) rfl rfl rfl (fun c16 => absurd c16 (nI_pos (by omega))) (fun _ => ?_)
        refine x_aload_n (pc' := 20) rfl rfl rfl ?_
        refine x_get (pc' := 23) rfl rfl rfl (hT.1) rfl ?_
        refine x_eqi htu ?_
        refine x_aload_n (pc' := 24) rfl rfl rfl ?_
        refine x_get (pc' := 27) rfl rfl rfl (hT.1) rfl ?_
        refine x_alen (pc' := 28) rfl rfl (hT.2.2.2) ?_
        refine x_icmp_ge (tgt := 46) (pc' := 31) rfl rfl rfl (fun c28 => absurd c28 (Int32.not_le.mpr (nI_lt (a := tu) (b := 2) (by omega) (by decide)))) (fun _ => ?_)
        refine x_aload_n (pc' := 32) rfl rfl rfl ?_
        refine x_get (pc' := 35) rfl rfl rfl (hT.1) rfl ?_
        refine x_aload_n (pc' := 36) rfl rfl rfl ?_
        refine x_get (pc' := 39) rfl rfl rfl (hT.1) rfl ?_
        refine x_eqi htu ?_
        refine x_iaload (pc' := 40) rfl rfl (hT.2.2.2) (hvt) ?_
        refine x_eqi eπ ?_
        refine x_sipush (pc' := 43) rfl rfl sipush_999 ?_
        refine x_icmp_lt (tgt := 48) (pc' := 46) rfl rfl rfl (fun _ => ?_) (fun c43 => absurd (nI_lt (a := π tu) (b := 999) d2 (by decide)) c43)
        refine x_aload_n (pc' := 49) rfl rfl rfl ?_
        refine x_aload_n (pc' := 50) rfl rfl rfl ?_
        refine x_get (pc' := 53) rfl rfl rfl (hT.1) rfl ?_
        refine x_eqi hl' ?_
        refine x_iconst (pc' := 54) rfl rfl iconst_0 ?_
        refine x_cV2v (d := 2) (pc' := 57) rfl rfl sX3_63 gX3_lay (hT.1) ⟨Nat.le_of_ble_eq_true rfl, Nat.le_of_ble_eq_true rfl⟩ (Nat.le_of_ble_eq_true rfl) ⟨Nat.le_of_ble_eq_true rfl, Nat.le_of_ble_eq_true rfl⟩ ?_
        refine w_lay hT (fun _ f1 hT1 hF1 => ⟨rfl, ?_⟩) (fun g => absurd (t_has_nI hn hn9 hp) g)
        rw [hcl, hβ, show (0 : Int32) = nI 0 from by decide, q_up_I] at hT1
        refine x_aload_n (pc' := 58) rfl rfl rfl ?_
        refine x_get (pc' := 61) rfl rfl rfl (hT1.1) rfl ?_
        refine x_aload_n (pc' := 62) rfl rfl rfl ?_
        refine x_get (pc' := 65) rfl rfl rfl (hT1.1) rfl ?_
        refine x_eqi htu ?_
        refine x_dup2 (pc' := 66) rfl rfl rfl rfl ?_
        refine x_iaload (pc' := 67) rfl rfl (hT1.2.2.2) (hvt) ?_
        refine x_eqi eπ ?_
        refine x_iconst (pc' := 68) rfl rfl iconst_1 ?_
        refine x_iadd (pc' := 69) rfl rfl ?_
        refine x_eqi (nI_1 _) ?_
        refine x_iastore (pc' := 70) rfl rfl (hT1.2.2.2) (hvt) (fun f1 e1 => ?_)
        have hT2 := hT1.purse e1
        have hF2 := hF1.up e1 (x_ot_in (by omega) (by omega))
        rw [hclt] at hT2
        refine x_iconst (pc' := 71) rfl rfl iconst_1 ?_
        have hb2 : (fun i => nI (q_b1 β (π tu) (some p) i)) = fun i => nI (q_up β p 0 i) := by
          unfold q_b1
          rw [hq]
          rfl
        have hp2 : (fun i => nI (q_p1 β π tu (some p) i)) = upd T.2.2.1 tu (nI (π tu + 1)) := by
          rw [hπ, q_up_I]
          unfold q_p1
          rw [hq]
          rfl
        have h2 := h _ (hT2.cast (by rw [hb2, hp2])) hF2
        rw [hq] at h2
        exact x_ireturn rfl rfl rfl (Nat.le_refl _) (Nat.le_refl _) h2
      · have hq : q_tk1 β (π tu) (some p) = false := by simp [q_tk1, d2]
        refine x_aload_n (pc' := 1) rfl rfl rfl ?_
        refine x_aload_n (pc' := 2) rfl rfl rfl ?_
        refine x_get (pc' := 5) rfl rfl rfl (hT.1) rfl ?_
        refine x_eqi hl' ?_
        refine x_cV1i (d := 2) (pc' := 8) rfl rfl sX3_59 gX3_beansOf (hT.1) ⟨Nat.le_of_ble_eq_true rfl, Nat.le_of_ble_eq_true rfl⟩ (Nat.le_of_ble_eq_true rfl) ⟨Nat.le_of_ble_eq_true rfl, Nat.le_of_ble_eq_true rfl⟩ ?_
        refine w_beansOf hT (fun g => ⟨_, rfl, ?_⟩) (fun g => absurd (t_has_nI hn hn9 hp) g)
        refine x_eqi e1 ?_
        refine x_iconst (pc' := 9) rfl rfl iconst_1 ?_
        refine x_icmp_ne (tgt := 46) (pc' := 12) rfl rfl rfl (fun c9 => absurd ((by rw [d1]; rfl)) c9) (fun _ => ?_)
        refine x_aload_n (pc' := 13) rfl rfl rfl ?_
        refine x_get (pc' := 16) rfl rfl rfl (hT.1) rfl ?_
        refine x_eqi htu ?_
        refine x_if_lt (tgt := 46) (pc' := 19) rfl rfl rfl (fun c16 => absurd c16 (nI_pos (by omega))) (fun _ => ?_)
        refine x_aload_n (pc' := 20) rfl rfl rfl ?_
        refine x_get (pc' := 23) rfl rfl rfl (hT.1) rfl ?_
        refine x_eqi htu ?_
        refine x_aload_n (pc' := 24) rfl rfl rfl ?_
        refine x_get (pc' := 27) rfl rfl rfl (hT.1) rfl ?_
        refine x_alen (pc' := 28) rfl rfl (hT.2.2.2) ?_
        refine x_icmp_ge (tgt := 46) (pc' := 31) rfl rfl rfl (fun c28 => absurd c28 (Int32.not_le.mpr (nI_lt (a := tu) (b := 2) (by omega) (by decide)))) (fun _ => ?_)
        refine x_aload_n (pc' := 32) rfl rfl rfl ?_
        refine x_get (pc' := 35) rfl rfl rfl (hT.1) rfl ?_
        refine x_aload_n (pc' := 36) rfl rfl rfl ?_
        refine x_get (pc' := 39) rfl rfl rfl (hT.1) rfl ?_
        refine x_eqi htu ?_
        refine x_iaload (pc' := 40) rfl rfl (hT.2.2.2) (hvt) ?_
        refine x_eqi eπ ?_
        refine x_sipush (pc' := 43) rfl rfl sipush_999 ?_
        refine x_icmp_lt (tgt := 48) (pc' := 46) rfl rfl rfl (fun c43 => absurd c43 (nI_nlt (a := π tu) (b := 999) (by omega) (by omega))) (fun _ => ?_)
        refine x_iconst (pc' := 47) rfl rfl iconst_0 ?_
        exact x_ireturn rfl rfl rfl (Nat.le_of_ble_eq_true rfl) (Nat.le_of_ble_eq_true rfl) (hno hq)
    · have hq : q_tk1 β (π tu) (some p) = false := by simp [q_tk1, d1]
      refine x_aload_n (pc' := 1) rfl rfl rfl ?_
      refine x_aload_n (pc' := 2) rfl rfl rfl ?_
      refine x_get (pc' := 5) rfl rfl rfl (hT.1) rfl ?_
      refine x_eqi hl' ?_
      refine x_cV1i (d := 2) (pc' := 8) rfl rfl sX3_59 gX3_beansOf (hT.1) ⟨Nat.le_of_ble_eq_true rfl, Nat.le_of_ble_eq_true rfl⟩ (Nat.le_of_ble_eq_true rfl) ⟨Nat.le_of_ble_eq_true rfl, Nat.le_of_ble_eq_true rfl⟩ ?_
      refine w_beansOf hT (fun g => ⟨_, rfl, ?_⟩) (fun g => absurd (t_has_nI hn hn9 hp) g)
      refine x_eqi e1 ?_
      refine x_iconst (pc' := 9) rfl rfl iconst_1 ?_
      refine x_icmp_ne (tgt := 46) (pc' := 12) rfl rfl rfl (fun _ => ?_) (fun c9 => absurd c9 ((fun q => d1 ((nI_eq (a := β p) (b := 1) (by omega) (by decide)).mp q))))
      refine x_iconst (pc' := 47) rfl rfl iconst_0 ?_
      exact x_ireturn rfl rfl rfl (Nat.le_of_ble_eq_true rfl) (Nat.le_of_ble_eq_true rfl) (hno hq)
end MOVE
