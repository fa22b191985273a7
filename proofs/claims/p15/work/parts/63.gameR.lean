/-! The reference reads letters. -/
/-- the letters that the reference holds -/
def q_M (M : x_N) (L : Nat) (ℓ : Nat → Nat) : Prop := M.1 11 = nI L ∧ L ≤ 96 ∧ M.2.1 4 = (fun i => nI (ℓ i)) ∧ ∀ i, ℓ i ≤ 255
section GR
variable {E : x_E} {z : Nat} {f : x_H} {M : x_N} {A : q_A} {post : Option Value → x_H → Prop} {L : Nat} {ℓ : Nat → Nat} {g : q_G} {m : Nat}
theorem m_lAt {p : Nat} (hM : x_Mdl z f M) (hL : q_M M L ℓ) (hp : p < 2 ^ 31) (h : post (some (.int (q_cI (q_t L ℓ p)))) f) : Y E 1 mX6_letterAt [.ref 59, .int (nI p)] z f 0 0 post := by
  refine Y.intro gX6_letterAt (lv := [(0, .ref 59), (1, .int (nI p))]) rfl (Nat.le_of_ble_eq_true rfl) ?_
  obtain ⟨l1, l2, l3, l4⟩ := hL
  have hl := l4 p
  by_cases d : p < L
  · have e : q_cI (q_t L ℓ p) = nI (ℓ p) := by
      unfold q_t
      rw [if_pos d, q_cI_ne (by omega)]
    rw [e] at h
    refine x_iload_n (pc' := 1) rfl rfl rfl ?_
    refine x_aload_n (pc' := 2) rfl rfl rfl ?_
    refine x_get (pc' := 5) rfl rfl rfl (hM.1) rfl ?_
    refine x_eqi l1 ?_
    refine x_icmp_ge (tgt := 17) (pc' := 8) rfl rfl rfl (fun c5 => absurd c5 ((nI_ge d (by omega)))) (fun _ => ?_)
    refine x_aload_n (pc' := 9) rfl rfl rfl ?_
    refine x_get (pc' := 12) rfl rfl rfl (hM.1) rfl ?_
    refine x_iload_n (pc' := 13) rfl rfl rfl ?_
    refine x_iaload (pc' := 14) rfl rfl (hM.2.1 4 (by decide)) (vp_in_nI (n := p) (N := 96) (by omega) (by decide)) ?_
    refine x_eqi (show M.2.1 4 (nI p).toNatClampNeg = nI (ℓ p) from by rw [nI_clamp hp, l3]) ?_
    refine x_goto (tgt := 18) rfl rfl ?_
    exact x_ireturn rfl rfl rfl (Nat.le_of_ble_eq_true rfl) (Nat.le_of_ble_eq_true rfl) (h)
  · have e : q_cI (q_t L ℓ p) = -1 := by
      unfold q_t
      rw [if_neg d]
      rfl
    rw [e] at h
    refine x_iload_n (pc' := 1) rfl rfl rfl ?_
    refine x_aload_n (pc' := 2) rfl rfl rfl ?_
    refine x_get (pc' := 5) rfl rfl rfl (hM.1) rfl ?_
    refine x_eqi l1 ?_
    refine x_icmp_ge (tgt := 17) (pc' := 8) rfl rfl rfl (fun _ => ?_) (fun c5 => absurd ((nI_le (by omega) hp)) c5)
    refine x_iconst (pc' := 18) rfl rfl iconst_m1 ?_
    exact x_ireturn rfl rfl rfl (Nat.le_of_ble_eq_true rfl) (Nat.le_of_ble_eq_true rfl) (h)
theorem m_isD {c : Nat} (hc : c ≤ 256) (h1 : q_dg c → post (some (.int 1)) f) (h0 : ¬ q_dg c → post (some (.int 0)) f) : Y E 1 mX6_isDigit [.int (q_cI c)] z f 0 0 post := by
  refine Y.intro gX6_isDigit (lv := [(0, .int (q_cI c))]) rfl (Nat.le_of_ble_eq_true rfl) ?_
  by_cases d1 : 48 ≤ c ∧ ¬ c = 256
  · by_cases d2 : c ≤ 57
    ·
      refine x_iload_n (pc' := 1) rfl rfl rfl ?_
      refine x_bipush (pc' := 3) rfl rfl bipush_48 ?_
      refine x_icmp_lt (tgt := 16) (pc' := 6) rfl rfl rfl (fun c3 => absurd c3 ((fun q => absurd ((q_cI_lt (k := 48) hc (by decide)).mp q) (by omega)))) (fun _ => ?_)
      refine x_iload_n (pc' := 7) rfl rfl rfl ?_
      refine x_bipush (pc' := 9) rfl rfl bipush_57 ?_
      refine x_icmp_gt (tgt := 16) (pc' := 12) rfl rfl rfl (fun c9 => absurd c9 ((fun q => absurd ((q_cI_gt (k := 57) hc (by decide)).mp q) (by omega)))) (fun _ => ?_)
      refine x_iconst (pc' := 13) rfl rfl iconst_1 ?_
      refine x_goto (tgt := 17) rfl rfl ?_
      exact x_ireturn rfl rfl rfl (Nat.le_of_ble_eq_true rfl) (Nat.le_of_ble_eq_true rfl) (h1 ⟨d1.1, d2⟩)
    ·
      refine x_iload_n (pc' := 1) rfl rfl rfl ?_
      refine x_bipush (pc' := 3) rfl rfl bipush_48 ?_
      refine x_icmp_lt (tgt := 16) (pc' := 6) rfl rfl rfl (fun c3 => absurd c3 ((fun q => absurd ((q_cI_lt (k := 48) hc (by decide)).mp q) (by omega)))) (fun _ => ?_)
      refine x_iload_n (pc' := 7) rfl rfl rfl ?_
      refine x_bipush (pc' := 9) rfl rfl bipush_57 ?_
      refine x_icmp_gt (tgt := 16) (pc' := 12) rfl rfl rfl (fun _ => ?_) (fun c9 => absurd (((q_cI_gt (k := 57) hc (by decide)).mpr ⟨d1.2, by omega⟩)) c9)
      refine x_iconst (pc' := 17) rfl rfl iconst_0 ?_
      exact x_ireturn rfl rfl rfl (Nat.le_of_ble_eq_true rfl) (Nat.le_of_ble_eq_true rfl) (h0 (fun q => d2 q.2))
  ·
    refine x_iload_n (pc' := 1) rfl rfl rfl ?_
    refine x_bipush (pc' := 3) rfl rfl bipush_48 ?_
    refine x_icmp_lt (tgt := 16) (pc' := 6) rfl rfl rfl (fun _ => ?_) (fun c3 => absurd (((q_cI_lt (k := 48) hc (by decide)).mpr (by omega))) c3)
    refine x_iconst (pc' := 17) rfl rfl iconst_0 ?_
    exact x_ireturn rfl rfl rfl (Nat.le_of_ble_eq_true rfl) (Nat.le_of_ble_eq_true rfl) (h0 (fun q => d1 ⟨q.1, by have := q.2; omega⟩))
theorem m_kindO {c : Nat} (hc : c ≤ 256) (h : post (some (.int (if q_kd c = 9 then -1 else nI (q_kd c)))) f) : Y E 1 mX6_kindOf [.int (q_cI c)] z f 0 0 post := by
  refine Y.intro gX6_kindOf (lv := [(0, .int (q_cI c))]) rfl (Nat.le_of_ble_eq_true rfl) ?_
  by_cases d0 : c = 111
  · subst d0
    refine x_iload_n (pc' := 1) rfl rfl rfl ?_
    refine x_bipush (pc' := 3) rfl rfl bipush_111 ?_
    refine x_icmp_ne (tgt := 10) (pc' := 6) rfl rfl rfl (fun c3 => absurd ((by decide)) c3) (fun _ => ?_)
    refine x_iconst (pc' := 7) rfl rfl iconst_0 ?_
    refine x_goto (tgt := 61) rfl rfl ?_
    exact x_ireturn rfl rfl rfl (Nat.le_of_ble_eq_true rfl) (Nat.le_of_ble_eq_true rfl) (h)
  by_cases d1 : c = 104
  · subst d1
    refine x_iload_n (pc' := 1) rfl rfl rfl ?_
    refine x_bipush (pc' := 3) rfl rfl bipush_111 ?_
    refine x_icmp_ne (tgt := 10) (pc' := 6) rfl rfl rfl (fun _ => ?_) (fun c3 => absurd c3 ((by decide)))
    refine x_iload_n (pc' := 11) rfl rfl rfl ?_
    refine x_bipush (pc' := 13) rfl rfl bipush_104 ?_
    refine x_icmp_ne (tgt := 20) (pc' := 16) rfl rfl rfl (fun c13 => absurd ((by decide)) c13) (fun _ => ?_)
    refine x_iconst (pc' := 17) rfl rfl iconst_1 ?_
    refine x_goto (tgt := 61) rfl rfl ?_
    exact x_ireturn rfl rfl rfl (Nat.le_of_ble_eq_true rfl) (Nat.le_of_ble_eq_true rfl) (h)
  by_cases d2 : c = 100
  · subst d2
    refine x_iload_n (pc' := 1) rfl rfl rfl ?_
    refine x_bipush (pc' := 3) rfl rfl bipush_111 ?_
    refine x_icmp_ne (tgt := 10) (pc' := 6) rfl rfl rfl (fun _ => ?_) (fun c3 => absurd c3 ((by decide)))
    refine x_iload_n (pc' := 11) rfl rfl rfl ?_
    refine x_bipush (pc' := 13) rfl rfl bipush_104 ?_
    refine x_icmp_ne (tgt := 20) (pc' := 16) rfl rfl rfl (fun _ => ?_) (fun c13 => absurd c13 ((by decide)))
    refine x_iload_n (pc' := 21) rfl rfl rfl ?_
    refine x_bipush (pc' := 23) rfl rfl bipush_100 ?_
    refine x_icmp_ne (tgt := 30) (pc' := 26) rfl rfl rfl (fun c23 => absurd ((by decide)) c23) (fun _ => ?_)
    refine x_iconst (pc' := 27) rfl rfl iconst_2 ?_
    refine x_goto (tgt := 61) rfl rfl ?_
    exact x_ireturn rfl rfl rfl (Nat.le_of_ble_eq_true rfl) (Nat.le_of_ble_eq_true rfl) (h)
  by_cases d3 : c = 119
  · subst d3
    refine x_iload_n (pc' := 1) rfl rfl rfl ?_
    refine x_bipush (pc' := 3) rfl rfl bipush_111 ?_
    refine x_icmp_ne (tgt := 10) (pc' := 6) rfl rfl rfl (fun _ => ?_) (fun c3 => absurd c3 ((by decide)))
    refine x_iload_n (pc' := 11) rfl rfl rfl ?_
    refine x_bipush (pc' := 13) rfl rfl bipush_104 ?_
    refine x_icmp_ne (tgt := 20) (pc' := 16) rfl rfl rfl (fun _ => ?_) (fun c13 => absurd c13 ((by decide)))
    refine x_iload_n (pc' := 21) rfl rfl rfl ?_
    refine x_bipush (pc' := 23) rfl rfl bipush_100 ?_
    refine x_icmp_ne (tgt := 30) (pc' := 26) rfl rfl rfl (fun _ => ?_) (fun c23 => absurd c23 ((by decide)))
    refine x_iload_n (pc' := 31) rfl rfl rfl ?_
    refine x_bipush (pc' := 33) rfl rfl bipush_119 ?_
    refine x_icmp_ne (tgt := 40) (pc' := 36) rfl rfl rfl (fun c33 => absurd ((by decide)) c33) (fun _ => ?_)
    refine x_iconst (pc' := 37) rfl rfl iconst_3 ?_
    refine x_goto (tgt := 61) rfl rfl ?_
    exact x_ireturn rfl rfl rfl (Nat.le_of_ble_eq_true rfl) (Nat.le_of_ble_eq_true rfl) (h)
  by_cases d4 : c = 110
  · subst d4
    refine x_iload_n (pc' := 1) rfl rfl rfl ?_
    refine x_bipush (pc' := 3) rfl rfl bipush_111 ?_
    refine x_icmp_ne (tgt := 10) (pc' := 6) rfl rfl rfl (fun _ => ?_) (fun c3 => absurd c3 ((by decide)))
    refine x_iload_n (pc' := 11) rfl rfl rfl ?_
    refine x_bipush (pc' := 13) rfl rfl bipush_104 ?_
    refine x_icmp_ne (tgt := 20) (pc' := 16) rfl rfl rfl (fun _ => ?_) (fun c13 => absurd c13 ((by decide)))
    refine x_iload_n (pc' := 21) rfl rfl rfl ?_
    refine x_bipush (pc' := 23) rfl rfl bipush_100 ?_
    refine x_icmp_ne (tgt := 30) (pc' := 26) rfl rfl rfl (fun _ => ?_) (fun c23 => absurd c23 ((by decide)))
    refine x_iload_n (pc' := 31) rfl rfl rfl ?_
    refine x_bipush (pc' := 33) rfl rfl bipush_119 ?_
    refine x_icmp_ne (tgt := 40) (pc' := 36) rfl rfl rfl (fun _ => ?_) (fun c33 => absurd c33 ((by decide)))
    refine x_iload_n (pc' := 41) rfl rfl rfl ?_
    refine x_bipush (pc' := 43) rfl rfl bipush_110 ?_
    refine x_icmp_ne (tgt := 50) (pc' := 46) rfl rfl rfl (fun c43 => absurd ((by decide)) c43) (fun _ => ?_)
    refine x_iconst (pc' := 47) rfl rfl iconst_4 ?_
    refine x_goto (tgt := 61) rfl rfl ?_
    exact x_ireturn rfl rfl rfl (Nat.le_of_ble_eq_true rfl) (Nat.le_of_ble_eq_true rfl) (h)
  by_cases d5 : c = 113
  · subst d5
    refine x_iload_n (pc' := 1) rfl rfl rfl ?_
    refine x_bipush (pc' := 3) rfl rfl bipush_111 ?_
    refine x_icmp_ne (tgt := 10) (pc' := 6) rfl rfl rfl (fun _ => ?_) (fun c3 => absurd c3 ((by decide)))
    refine x_iload_n (pc' := 11) rfl rfl rfl ?_
    refine x_bipush (pc' := 13) rfl rfl bipush_104 ?_
    refine x_icmp_ne (tgt := 20) (pc' := 16) rfl rfl rfl (fun _ => ?_) (fun c13 => absurd c13 ((by decide)))
    refine x_iload_n (pc' := 21) rfl rfl rfl ?_
    refine x_bipush (pc' := 23) rfl rfl bipush_100 ?_
    refine x_icmp_ne (tgt := 30) (pc' := 26) rfl rfl rfl (fun _ => ?_) (fun c23 => absurd c23 ((by decide)))
    refine x_iload_n (pc' := 31) rfl rfl rfl ?_
    refine x_bipush (pc' := 33) rfl rfl bipush_119 ?_
    refine x_icmp_ne (tgt := 40) (pc' := 36) rfl rfl rfl (fun _ => ?_) (fun c33 => absurd c33 ((by decide)))
    refine x_iload_n (pc' := 41) rfl rfl rfl ?_
    refine x_bipush (pc' := 43) rfl rfl bipush_110 ?_
    refine x_icmp_ne (tgt := 50) (pc' := 46) rfl rfl rfl (fun _ => ?_) (fun c43 => absurd c43 ((by decide)))
    refine x_iload_n (pc' := 51) rfl rfl rfl ?_
    refine x_bipush (pc' := 53) rfl rfl bipush_113 ?_
    refine x_icmp_ne (tgt := 60) (pc' := 56) rfl rfl rfl (fun c53 => absurd ((by decide)) c53) (fun _ => ?_)
    refine x_iconst (pc' := 57) rfl rfl iconst_5 ?_
    refine x_goto (tgt := 61) rfl rfl ?_
    exact x_ireturn rfl rfl rfl (Nat.le_of_ble_eq_true rfl) (Nat.le_of_ble_eq_true rfl) (h)
  have e : q_kd c = 9 := by
    unfold q_kd
    rw [if_neg d0, if_neg d1, if_neg d2, if_neg d3, if_neg d4, if_neg d5]
  rw [if_pos e] at h
  refine x_iload_n (pc' := 1) rfl rfl rfl ?_
  refine x_bipush (pc' := 3) rfl rfl bipush_111 ?_
  refine x_icmp_ne (tgt := 10) (pc' := 6) rfl rfl rfl (fun _ => ?_) (fun c3 => absurd c3 ((fun q => d0 ((q_cI_eq (k := 111) hc (by decide)).mp q))))
  refine x_iload_n (pc' := 11) rfl rfl rfl ?_
  refine x_bipush (pc' := 13) rfl rfl bipush_104 ?_
  refine x_icmp_ne (tgt := 20) (pc' := 16) rfl rfl rfl (fun _ => ?_) (fun c13 => absurd c13 ((fun q => d1 ((q_cI_eq (k := 104) hc (by decide)).mp q))))
  refine x_iload_n (pc' := 21) rfl rfl rfl ?_
  refine x_bipush (pc' := 23) rfl rfl bipush_100 ?_
  refine x_icmp_ne (tgt := 30) (pc' := 26) rfl rfl rfl (fun _ => ?_) (fun c23 => absurd c23 ((fun q => d2 ((q_cI_eq (k := 100) hc (by decide)).mp q))))
  refine x_iload_n (pc' := 31) rfl rfl rfl ?_
  refine x_bipush (pc' := 33) rfl rfl bipush_119 ?_
  refine x_icmp_ne (tgt := 40) (pc' := 36) rfl rfl rfl (fun _ => ?_) (fun c33 => absurd c33 ((fun q => d3 ((q_cI_eq (k := 119) hc (by decide)).mp q))))
  refine x_iload_n (pc' := 41) rfl rfl rfl ?_
  refine x_bipush (pc' := 43) rfl rfl bipush_110 ?_
  refine x_icmp_ne (tgt := 50) (pc' := 46) rfl rfl rfl (fun _ => ?_) (fun c43 => absurd c43 ((fun q => d4 ((q_cI_eq (k := 110) hc (by decide)).mp q))))
  refine x_iload_n (pc' := 51) rfl rfl rfl ?_
  refine x_bipush (pc' := 53) rfl rfl bipush_113 ?_
  refine x_icmp_ne (tgt := 60) (pc' := 56) rfl rfl rfl (fun _ => ?_) (fun c53 => absurd c53 ((fun q => d5 ((q_cI_eq (k := 113) hc (by decide)).mp q))))
  refine x_iconst (pc' := 61) rfl rfl iconst_m1 ?_
  exact x_ireturn rfl rfl rfl (Nat.le_of_ble_eq_true rfl) (Nat.le_of_ble_eq_true rfl) (h)
theorem m_digsL {p n : Nat} (hM : x_Mdl z f M) (hL : q_M M L ℓ) (hp : p < 2 ^ 20) (hm : n ≤ 9) (h : post (some (.int (nI (q_df (q_t L ℓ) n p)))) f) : ∀ (k i : Nat), i + k = n → i + q_df (q_t L ℓ) k (p + i) = q_df (q_t L ℓ) n p → X E (x_rm 3 0 0) mX6_digitsFrom (x_QM E z 0 0 post) 2 [(3, .int (nI i)), (0, .ref 59), (1, .int (nI p)), (2, .int (nI n))] [] z f 0 0 := by
  have hc := q_t_le (L := L) hL.2.2.2
  intro k
  induction k with
  | zero =>
    intro i hi he
    have hi2 : i = n := by omega
    subst hi2
    rw [← he] at h
    refine x_iload_n (pc' := 3) rfl rfl rfl ?_
    refine x_iload_n (pc' := 4) rfl rfl rfl ?_
    refine x_icmp_ge (tgt := 26) (pc' := 7) rfl rfl rfl (fun _ => ?_) (fun c4 => absurd ((Int32.le_refl _)) c4)
    refine x_iload_n (pc' := 27) rfl rfl rfl ?_
    exact x_ireturn rfl rfl rfl (Nat.le_of_ble_eq_true rfl) (Nat.le_of_ble_eq_true rfl) (h)
  | succ k ih =>
    intro i hi he
    replace he : i + (if q_dg (q_t L ℓ (p + i)) then q_df (q_t L ℓ) k (p + i + 1) + 1 else 0) = q_df (q_t L ℓ) n p := he
    refine x_iload_n (pc' := 3) rfl rfl rfl ?_
    refine x_iload_n (pc' := 4) rfl rfl rfl ?_
    refine x_icmp_ge (tgt := 26) (pc' := 7) rfl rfl rfl (fun c4 => absurd c4 ((nI_ge (by omega) (by omega)))) (fun _ => ?_)
    refine x_aload_n (pc' := 8) rfl rfl rfl ?_
    refine x_iload_n (pc' := 9) rfl rfl rfl ?_
    refine x_iload_n (pc' := 10) rfl rfl rfl ?_
    refine x_iadd (pc' := 11) rfl rfl ?_
    refine x_eqi (nI_add _ _) ?_
    refine x_cV1i (d := 1) (pc' := 14) rfl rfl sX6_116 gX6_letterAt (hM.1) ⟨Nat.le_of_ble_eq_true rfl, Nat.le_of_ble_eq_true rfl⟩ (Nat.le_of_ble_eq_true rfl) ⟨Nat.le_of_ble_eq_true rfl, Nat.le_of_ble_eq_true rfl⟩ ?_
    refine m_lAt hM hL (by omega) ⟨_, rfl, ?_⟩
    refine x_cS1i (d := 1) (pc' := 17) rfl rfl sX6_119 gX6_isDigit ⟨Nat.le_of_ble_eq_true rfl, Nat.le_of_ble_eq_true rfl⟩ (Nat.le_of_ble_eq_true rfl) ⟨Nat.le_of_ble_eq_true rfl, Nat.le_of_ble_eq_true rfl⟩ ?_
    refine m_isD (hc (p + i)) (fun d => ⟨_, rfl, ?_⟩) (fun d => ⟨_, rfl, ?_⟩)
    · rw [if_pos d] at he
      refine x_if_eq (tgt := 26) (pc' := 20) rfl rfl rfl (fun c17 => absurd c17 ((by decide))) (fun _ => ?_)
      refine x_iinc (pc' := 23) (lv' := [(3, _), (0, _), (1, _), (2, _)]) rfl rfl (Nat.le_of_ble_eq_true rfl) rfl (nI_1 i) rfl ?_
      refine x_goto (tgt := 2) rfl rfl ?_
      refine ih (i + 1) (by omega) ?_
      rw [show p + (i + 1) = p + i + 1 by omega]
      omega
    · rw [if_neg d] at he
      rw [← he] at h
      refine x_if_eq (tgt := 26) (pc' := 20) rfl rfl rfl (fun _ => ?_) (fun c17 => absurd (rfl) c17)
      refine x_iload_n (pc' := 27) rfl rfl rfl ?_
      exact x_ireturn rfl rfl rfl (Nat.le_of_ble_eq_true rfl) (Nat.le_of_ble_eq_true rfl) (h)
theorem m_digs {p n : Nat} (hM : x_Mdl z f M) (hL : q_M M L ℓ) (hp : p < 2 ^ 20) (hm : n ≤ 9) (h : post (some (.int (nI (q_df (q_t L ℓ) n p)))) f) : Y E 3 mX6_digitsFrom [.ref 59, .int (nI p), .int (nI n)] z f 0 0 post := by
  refine Y.intro gX6_digitsFrom (lv := [(0, .ref 59), (1, .int (nI p)), (2, .int (nI n))]) rfl (Nat.le_of_ble_eq_true rfl) ?_
  refine x_iconst (pc' := 1) rfl rfl iconst_0 ?_
  refine x_istore_n (pc' := 2) (lv' := [(3, _), (0, _), (1, _), (2, _)]) rfl rfl (Nat.le_of_ble_eq_true rfl) rfl ?_
  exact m_digsL hM hL hp hm h n 0 (by omega) (by rw [Nat.zero_add]; rfl)
/-- with the place of a fault -/
abbrev m_bad (M : x_N) (p : Nat) : x_N := (upd M.1 20 (nI p), M.2.1, M.2.2)
theorem m_passes {s : Nat} (hM : x_Mdl z f M) (hL : q_M M L ℓ) (hs : s < 2 ^ 19) (h1 : ∀ p, q_sk (q_t L ℓ) s = some p → ∀ (f' : x_H) (r : Int32), x_Mdl z f' (m_bad M p) → x_fr (fun q => q < 59) f f' → post (some (.int r)) f') (h0 : q_sk (q_t L ℓ) s = none → post (some (.int (nI (q_ed (q_t L ℓ) s + 1)))) f) : Y E 4 mX6_passes [.ref 59, .int (nI s)] z f 0 0 post := by
  refine Y.intro gX6_passes (lv := [(0, .ref 59), (1, .int (nI s))]) rfl (Nat.le_of_ble_eq_true rfl) ?_
  have hc := q_t_le (L := L) hL.2.2.2
  have hdef : q_sk (q_t L ℓ) s = if q_md (q_t L ℓ s) = 0 then some s else if q_t L ℓ s = 98 ∧ q_kd (q_t L ℓ (s + 1)) = 9 then some (s + 1) else if q_dn (q_t L ℓ) s < q_ld (q_t L ℓ s) ∨ ¬ q_t L ℓ (q_ed (q_t L ℓ) s) = 59 then some (q_ed (q_t L ℓ) s) else none := rfl
  rw [hdef] at h1 h0
  have hm9 := q_md_9 (q_t L ℓ s)
  have hdl : q_dn (q_t L ℓ) s ≤ q_md (q_t L ℓ s) := q_df_le (q_t L ℓ) (q_md (q_t L ℓ s)) (q_p0 (q_t L ℓ) s)
  by_cases dm : q_md (q_t L ℓ s) = 0
  · rw [if_pos dm] at h1
    have hne : ∀ k : Nat, k = 98 ∨ k = 99 ∨ k = 102 ∨ k = 108 ∨ k = 116 ∨ k = 115 → ¬ q_cI (q_t L ℓ s) = nI k := by
      intro k hk q
      have e := (q_cI_eq (hc s) (by omega)).mp q
      rw [e] at dm
      rcases hk with rfl | rfl | rfl | rfl | rfl | rfl <;> exact absurd dm (by decide)
    refine x_aload_n (pc' := 1) rfl rfl rfl ?_
    refine x_iload_n (pc' := 2) rfl rfl rfl ?_
    refine x_cV1i (d := 1) (pc' := 5) rfl rfl sX6_116 gX6_letterAt (hM.1) ⟨Nat.le_of_ble_eq_true rfl, Nat.le_of_ble_eq_true rfl⟩ (Nat.le_of_ble_eq_true rfl) ⟨Nat.le_of_ble_eq_true rfl, Nat.le_of_ble_eq_true rfl⟩ ?_
    refine m_lAt hM hL (by omega) ⟨_, rfl, ?_⟩
    refine x_istore_n (pc' := 6) (lv' := [(2, _), (0, _), (1, _)]) rfl rfl (Nat.le_of_ble_eq_true rfl) rfl ?_
    refine x_iload_n (pc' := 7) rfl rfl rfl ?_
    refine x_iconst (pc' := 8) rfl rfl iconst_1 ?_
    refine x_iadd (pc' := 9) rfl rfl ?_
    refine x_eqi (nI_1 _) ?_
    refine x_istore_n (pc' := 10) (lv' := [(3, _), (2, _), (0, _), (1, _)]) rfl rfl (Nat.le_of_ble_eq_true rfl) rfl ?_
    refine x_iconst (pc' := 11) rfl rfl iconst_1 ?_
    refine x_istore (pc' := 13) (lv' := [(4, _), (3, _), (2, _), (0, _), (1, _)]) rfl rfl (Nat.le_of_ble_eq_true rfl) rfl ?_
    refine x_iconst (pc' := 14) rfl rfl iconst_1 ?_
    refine x_istore (pc' := 16) (lv' := [(5, _), (4, _), (3, _), (2, _), (0, _), (1, _)]) rfl rfl (Nat.le_of_ble_eq_true rfl) rfl ?_
    refine x_iload_n (pc' := 17) rfl rfl rfl ?_
    refine x_bipush (pc' := 19) rfl rfl bipush_98 ?_
    refine x_icmp_ne (tgt := 52) (pc' := 22) rfl rfl rfl (fun _ => ?_) (fun c19 => absurd c19 ((hne 98 (by omega))))
    refine x_iload_n (pc' := 53) rfl rfl rfl ?_
    refine x_bipush (pc' := 55) rfl rfl bipush_99 ?_
    refine x_icmp_ne (tgt := 67) (pc' := 58) rfl rfl rfl (fun _ => ?_) (fun c55 => absurd c55 ((hne 99 (by omega))))
    refine x_iload_n (pc' := 68) rfl rfl rfl ?_
    refine x_bipush (pc' := 70) rfl rfl bipush_115 ?_
    refine x_icmp_ne (tgt := 80) (pc' := 73) rfl rfl rfl (fun _ => ?_) (fun c70 => absurd c70 ((hne 115 (by omega))))
    refine x_iload_n (pc' := 81) rfl rfl rfl ?_
    refine x_bipush (pc' := 83) rfl rfl bipush_102 ?_
    refine x_icmp_eq (tgt := 105) (pc' := 86) rfl rfl rfl (fun c83 => absurd c83 ((hne 102 (by omega)))) (fun _ => ?_)
    refine x_iload_n (pc' := 87) rfl rfl rfl ?_
    refine x_bipush (pc' := 89) rfl rfl bipush_108 ?_
    refine x_icmp_eq (tgt := 105) (pc' := 92) rfl rfl rfl (fun c89 => absurd c89 ((hne 108 (by omega)))) (fun _ => ?_)
    refine x_iload_n (pc' := 93) rfl rfl rfl ?_
    refine x_bipush (pc' := 95) rfl rfl bipush_116 ?_
    refine x_icmp_eq (tgt := 105) (pc' := 98) rfl rfl rfl (fun c95 => absurd c95 ((hne 116 (by omega)))) (fun _ => ?_)
    refine x_aload_n (pc' := 99) rfl rfl rfl ?_
    refine x_iload_n (pc' := 100) rfl rfl rfl ?_
    refine x_put (pc' := 103) rfl rfl rfl (hM.1) (Nat.le_of_ble_eq_true rfl) rfl rfl rfl rfl (fun f1 e1 => ?_)
    have hM1 := hM.num 20 e1 (x_mFs20 _ _)
    have hF1 := r_fr0 e1 (by decide)
    refine x_iload_n (pc' := 104) rfl rfl rfl ?_
    exact x_ireturn rfl rfl rfl (Nat.le_of_ble_eq_true rfl) (Nat.le_of_ble_eq_true rfl) (h1 s rfl _ _ hM1 hF1)
  rw [if_neg dm] at h1 h0
  rcases q_md_in dm with h98 | h99 | h102 | h108 | h116 | h115
  · have hp0 : q_p0 (q_t L ℓ) s = s + 2 := if_pos h98
    have hdn : q_df (q_t L ℓ) 2 (s + 1 + 1) = q_dn (q_t L ℓ) s := by
      unfold q_dn
      rw [hp0, h98]
      rfl
    have hed : s + 1 + 1 + q_dn (q_t L ℓ) s = q_ed (q_t L ℓ) s := by unfold q_ed; rw [hp0]
    have hld : q_ld (q_t L ℓ s) = 2 := by rw [h98]; rfl
    rw [hld] at h1 h0
    refine x_aload_n (pc' := 1) rfl rfl rfl ?_
    refine x_iload_n (pc' := 2) rfl rfl rfl ?_
    refine x_cV1i (d := 1) (pc' := 5) rfl rfl sX6_116 gX6_letterAt (hM.1) ⟨Nat.le_of_ble_eq_true rfl, Nat.le_of_ble_eq_true rfl⟩ (Nat.le_of_ble_eq_true rfl) ⟨Nat.le_of_ble_eq_true rfl, Nat.le_of_ble_eq_true rfl⟩ ?_
    refine m_lAt hM hL (by omega) ⟨_, rfl, ?_⟩
    refine x_istore_n (pc' := 6) (lv' := [(2, _), (0, _), (1, _)]) rfl rfl (Nat.le_of_ble_eq_true rfl) rfl ?_
    refine x_iload_n (pc' := 7) rfl rfl rfl ?_
    refine x_iconst (pc' := 8) rfl rfl iconst_1 ?_
    refine x_iadd (pc' := 9) rfl rfl ?_
    refine x_eqi (nI_1 _) ?_
    refine x_istore_n (pc' := 10) (lv' := [(3, _), (2, _), (0, _), (1, _)]) rfl rfl (Nat.le_of_ble_eq_true rfl) rfl ?_
    refine x_iconst (pc' := 11) rfl rfl iconst_1 ?_
    refine x_istore (pc' := 13) (lv' := [(4, _), (3, _), (2, _), (0, _), (1, _)]) rfl rfl (Nat.le_of_ble_eq_true rfl) rfl ?_
    refine x_iconst (pc' := 14) rfl rfl iconst_1 ?_
    refine x_istore (pc' := 16) (lv' := [(5, _), (4, _), (3, _), (2, _), (0, _), (1, _)]) rfl rfl (Nat.le_of_ble_eq_true rfl) rfl ?_
    refine x_iload_n (pc' := 17) rfl rfl rfl ?_
    refine x_bipush (pc' := 19) rfl rfl bipush_98 ?_
    refine x_icmp_ne (tgt := 52) (pc' := 22) rfl rfl rfl (fun c19 => absurd (((q_cI_eq (k := 98) (hc s) (by decide)).mpr h98)) c19) (fun _ => ?_)
    refine x_aload_n (pc' := 23) rfl rfl rfl ?_
    refine x_iload_n (pc' := 24) rfl rfl rfl ?_
    refine x_cV1i (d := 1) (pc' := 27) rfl rfl sX6_116 gX6_letterAt (hM.1) ⟨Nat.le_of_ble_eq_true rfl, Nat.le_of_ble_eq_true rfl⟩ (Nat.le_of_ble_eq_true rfl) ⟨Nat.le_of_ble_eq_true rfl, Nat.le_of_ble_eq_true rfl⟩ ?_
    refine m_lAt hM hL (by omega) ⟨_, rfl, ?_⟩
    refine x_cS1i (d := 1) (pc' := 30) rfl rfl sX6_122 gX6_kindOf ⟨Nat.le_of_ble_eq_true rfl, Nat.le_of_ble_eq_true rfl⟩ (Nat.le_of_ble_eq_true rfl) ⟨Nat.le_of_ble_eq_true rfl, Nat.le_of_ble_eq_true rfl⟩ ?_
    refine m_kindO (hc (s + 1)) ⟨_, rfl, ?_⟩
    by_cases d2 : q_kd (q_t L ℓ (s + 1)) = 9
    · rw [if_pos ⟨h98, d2⟩] at h1
      rw [if_pos d2]
      refine x_if_ge (tgt := 40) (pc' := 33) rfl rfl rfl (fun q => absurd q (by decide)) (fun _ => ?_)
      refine x_aload_n (pc' := 34) rfl rfl rfl ?_
      refine x_iload_n (pc' := 35) rfl rfl rfl ?_
      refine x_put (pc' := 38) rfl rfl rfl (hM.1) (Nat.le_of_ble_eq_true rfl) rfl rfl rfl rfl (fun f1 e1 => ?_)
      have hM1 := hM.num 20 e1 (x_mFs20 _ _)
      have hF1 := r_fr0 e1 (by decide)
      refine x_iload_n (pc' := 39) rfl rfl rfl ?_
      exact x_ireturn rfl rfl rfl (Nat.le_of_ble_eq_true rfl) (Nat.le_of_ble_eq_true rfl) (h1 (s + 1) rfl _ _ hM1 hF1)
    · rw [if_neg (fun q => d2 q.2)] at h1 h0
      rw [if_neg d2]
      have hk5 := (q_kd_in d2).2.2.2
      refine x_if_ge (tgt := 40) (pc' := 33) rfl rfl rfl (fun _ => ?_) (fun q => absurd (nI_pos' (by omega)) q)
      refine x_iinc (pc' := 43) (lv' := [(3, _), (5, _), (4, _), (2, _), (0, _), (1, _)]) rfl rfl (Nat.le_of_ble_eq_true rfl) rfl (nI_1 _) rfl ?_
      refine x_iconst (pc' := 44) rfl rfl iconst_2 ?_
      refine x_istore (pc' := 46) (lv' := [(4, _), (3, _), (5, _), (2, _), (0, _), (1, _)]) rfl rfl (Nat.le_of_ble_eq_true rfl) rfl ?_
      refine x_iconst (pc' := 47) rfl rfl iconst_2 ?_
      refine x_istore (pc' := 49) (lv' := [(5, _), (4, _), (3, _), (2, _), (0, _), (1, _)]) rfl rfl (Nat.le_of_ble_eq_true rfl) rfl ?_
      refine x_goto (tgt := 105) rfl rfl ?_
      refine x_aload_n (pc' := 106) rfl rfl rfl ?_
      refine x_iload_n (pc' := 107) rfl rfl rfl ?_
      refine x_iload (pc' := 109) rfl rfl rfl ?_
      refine x_cV2i (d := 3) (pc' := 112) rfl rfl sX6_128 gX6_digitsFrom (hM.1) ⟨Nat.le_of_ble_eq_true rfl, Nat.le_of_ble_eq_true rfl⟩ (Nat.le_of_ble_eq_true rfl) ⟨Nat.le_of_ble_eq_true rfl, Nat.le_of_ble_eq_true rfl⟩ ?_
      refine m_digs (n := 2) hM hL (by omega) (by omega) ⟨_, rfl, ?_⟩
      rw [hdn]
      refine x_istore (pc' := 114) (lv' := [(6, _), (5, _), (4, _), (3, _), (2, _), (0, _), (1, _)]) rfl rfl (Nat.le_of_ble_eq_true rfl) rfl ?_
      refine x_iload_n (pc' := 115) rfl rfl rfl ?_
      refine x_iload (pc' := 117) rfl rfl rfl ?_
      refine x_iadd (pc' := 118) rfl rfl ?_
      refine x_eqi (nI_add _ _) ?_
      rw [hed]
      have hel : q_ed (q_t L ℓ) s < 2 ^ 20 := by omega
      refine x_istore_n (pc' := 119) (lv' := [(3, _), (6, _), (5, _), (4, _), (2, _), (0, _), (1, _)]) rfl rfl (Nat.le_of_ble_eq_true rfl) rfl ?_
      refine x_iload (pc' := 121) rfl rfl rfl ?_
      refine x_iload (pc' := 123) rfl rfl rfl ?_
      by_cases d3 : q_dn (q_t L ℓ) s < 2
      · rw [if_pos (Or.inl d3)] at h1
        refine x_icmp_lt (tgt := 136) (pc' := 126) rfl rfl rfl (fun _ => ?_) (fun q => absurd (nI_lt (b := 2) d3 (by decide)) q)
        refine x_aload_n (pc' := 137) rfl rfl rfl ?_
        refine x_iload_n (pc' := 138) rfl rfl rfl ?_
        refine x_put (pc' := 141) rfl rfl rfl (hM.1) (Nat.le_of_ble_eq_true rfl) rfl rfl rfl rfl (fun f2 e2 => ?_)
        have hM9 := hM.num 20 e2 (x_mFs20 _ _)
        have hF9 := r_fr0 e2 (by decide)
        refine x_iload_n (pc' := 142) rfl rfl rfl ?_
        refine x_iconst (pc' := 143) rfl rfl iconst_1 ?_
        refine x_iadd (pc' := 144) rfl rfl ?_
        refine x_eqi (nI_1 _) ?_
        exact x_ireturn rfl rfl rfl (Nat.le_of_ble_eq_true rfl) (Nat.le_of_ble_eq_true rfl) (h1 _ rfl _ _ hM9 hF9)
      · refine x_icmp_lt (tgt := 136) (pc' := 126) rfl rfl rfl (fun q => absurd q (nI_nlt (b := 2) (by omega) (by omega))) (fun _ => ?_)
        refine x_aload_n (pc' := 127) rfl rfl rfl ?_
        refine x_iload_n (pc' := 128) rfl rfl rfl ?_
        refine x_cV1i (d := 1) (pc' := 131) rfl rfl sX6_116 gX6_letterAt (hM.1) ⟨Nat.le_of_ble_eq_true rfl, Nat.le_of_ble_eq_true rfl⟩ (Nat.le_of_ble_eq_true rfl) ⟨Nat.le_of_ble_eq_true rfl, Nat.le_of_ble_eq_true rfl⟩ ?_
        refine m_lAt hM hL (by omega) ⟨_, rfl, ?_⟩
        refine x_bipush (pc' := 133) rfl rfl bipush_59 ?_
        by_cases d4 : q_t L ℓ (q_ed (q_t L ℓ) s) = 59
        · rw [if_neg (fun q => q.elim d3 (fun k => k d4))] at h0
          refine x_icmp_eq (tgt := 141) (pc' := 136) rfl rfl rfl (fun _ => ?_) (fun q => absurd ((q_cI_eq (k := 59) (hc _) (by decide)).mpr d4) q)
          refine x_iload_n (pc' := 142) rfl rfl rfl ?_
          refine x_iconst (pc' := 143) rfl rfl iconst_1 ?_
          refine x_iadd (pc' := 144) rfl rfl ?_
          refine x_eqi (nI_1 _) ?_
          exact x_ireturn rfl rfl rfl (Nat.le_of_ble_eq_true rfl) (Nat.le_of_ble_eq_true rfl) (h0 rfl)
        · rw [if_pos (Or.inr d4)] at h1
          refine x_icmp_eq (tgt := 141) (pc' := 136) rfl rfl rfl (fun q => absurd ((q_cI_eq (k := 59) (hc _) (by decide)).mp q) d4) (fun _ => ?_)
          refine x_aload_n (pc' := 137) rfl rfl rfl ?_
          refine x_iload_n (pc' := 138) rfl rfl rfl ?_
          refine x_put (pc' := 141) rfl rfl rfl (hM.1) (Nat.le_of_ble_eq_true rfl) rfl rfl rfl rfl (fun f3 e3 => ?_)
          have hM9 := hM.num 20 e3 (x_mFs20 _ _)
          have hF9 := r_fr0 e3 (by decide)
          refine x_iload_n (pc' := 142) rfl rfl rfl ?_
          refine x_iconst (pc' := 143) rfl rfl iconst_1 ?_
          refine x_iadd (pc' := 144) rfl rfl ?_
          refine x_eqi (nI_1 _) ?_
          exact x_ireturn rfl rfl rfl (Nat.le_of_ble_eq_true rfl) (Nat.le_of_ble_eq_true rfl) (h1 _ rfl _ _ hM9 hF9)
  · have hp0 : q_p0 (q_t L ℓ) s = s + 1 := if_neg (by omega)
    have hdn : q_df (q_t L ℓ) 2 (s + 1) = q_dn (q_t L ℓ) s := by
      unfold q_dn
      rw [hp0, h99]
      rfl
    have hed : s + 1 + q_dn (q_t L ℓ) s = q_ed (q_t L ℓ) s := by unfold q_ed; rw [hp0]
    have hld : q_ld (q_t L ℓ s) = 2 := by rw [h99]; rfl
    rw [hld, if_neg (fun q => absurd (h99.symm.trans q.1) (by decide))] at h1 h0
    have hne : ∀ k : Nat, k ≤ 255 → ¬ k = 99 → ¬ q_cI (q_t L ℓ s) = nI k := fun k hk hk2 q => hk2 (((q_cI_eq (hc s) hk).mp q).symm.trans h99)
    have heq : q_cI (q_t L ℓ s) = nI 99 := (q_cI_eq (hc s) (by decide)).mpr h99
    refine x_aload_n (pc' := 1) rfl rfl rfl ?_
    refine x_iload_n (pc' := 2) rfl rfl rfl ?_
    refine x_cV1i (d := 1) (pc' := 5) rfl rfl sX6_116 gX6_letterAt (hM.1) ⟨Nat.le_of_ble_eq_true rfl, Nat.le_of_ble_eq_true rfl⟩ (Nat.le_of_ble_eq_true rfl) ⟨Nat.le_of_ble_eq_true rfl, Nat.le_of_ble_eq_true rfl⟩ ?_
    refine m_lAt hM hL (by omega) ⟨_, rfl, ?_⟩
    refine x_istore_n (pc' := 6) (lv' := [(2, _), (0, _), (1, _)]) rfl rfl (Nat.le_of_ble_eq_true rfl) rfl ?_
    refine x_iload_n (pc' := 7) rfl rfl rfl ?_
    refine x_iconst (pc' := 8) rfl rfl iconst_1 ?_
    refine x_iadd (pc' := 9) rfl rfl ?_
    refine x_eqi (nI_1 _) ?_
    refine x_istore_n (pc' := 10) (lv' := [(3, _), (2, _), (0, _), (1, _)]) rfl rfl (Nat.le_of_ble_eq_true rfl) rfl ?_
    refine x_iconst (pc' := 11) rfl rfl iconst_1 ?_
    refine x_istore (pc' := 13) (lv' := [(4, _), (3, _), (2, _), (0, _), (1, _)]) rfl rfl (Nat.le_of_ble_eq_true rfl) rfl ?_
    refine x_iconst (pc' := 14) rfl rfl iconst_1 ?_
    refine x_istore (pc' := 16) (lv' := [(5, _), (4, _), (3, _), (2, _), (0, _), (1, _)]) rfl rfl (Nat.le_of_ble_eq_true rfl) rfl ?_
    refine x_iload_n (pc' := 17) rfl rfl rfl ?_
    refine x_bipush (pc' := 19) rfl rfl bipush_98 ?_
    refine x_icmp_ne (tgt := 52) (pc' := 22) rfl rfl rfl (fun _ => ?_) (fun c19 => absurd c19 ((hne 98 (by decide) (by decide))))
    refine x_iload_n (pc' := 53) rfl rfl rfl ?_
    refine x_bipush (pc' := 55) rfl rfl bipush_99 ?_
    refine x_icmp_ne (tgt := 67) (pc' := 58) rfl rfl rfl (fun c55 => absurd (heq) c55) (fun _ => ?_)
    refine x_iconst (pc' := 59) rfl rfl iconst_2 ?_
    refine x_istore (pc' := 61) (lv' := [(4, _), (5, _), (3, _), (2, _), (0, _), (1, _)]) rfl rfl (Nat.le_of_ble_eq_true rfl) rfl ?_
    refine x_iconst (pc' := 62) rfl rfl iconst_2 ?_
    refine x_istore (pc' := 64) (lv' := [(5, _), (4, _), (3, _), (2, _), (0, _), (1, _)]) rfl rfl (Nat.le_of_ble_eq_true rfl) rfl ?_
    refine x_goto (tgt := 105) rfl rfl ?_
    refine x_aload_n (pc' := 106) rfl rfl rfl ?_
    refine x_iload_n (pc' := 107) rfl rfl rfl ?_
    refine x_iload (pc' := 109) rfl rfl rfl ?_
    refine x_cV2i (d := 3) (pc' := 112) rfl rfl sX6_128 gX6_digitsFrom (hM.1) ⟨Nat.le_of_ble_eq_true rfl, Nat.le_of_ble_eq_true rfl⟩ (Nat.le_of_ble_eq_true rfl) ⟨Nat.le_of_ble_eq_true rfl, Nat.le_of_ble_eq_true rfl⟩ ?_
    refine m_digs (n := 2) hM hL (by omega) (by omega) ⟨_, rfl, ?_⟩
    rw [hdn]
    refine x_istore (pc' := 114) (lv' := [(6, _), (5, _), (4, _), (3, _), (2, _), (0, _), (1, _)]) rfl rfl (Nat.le_of_ble_eq_true rfl) rfl ?_
    refine x_iload_n (pc' := 115) rfl rfl rfl ?_
    refine x_iload (pc' := 117) rfl rfl rfl ?_
    refine x_iadd (pc' := 118) rfl rfl ?_
    refine x_eqi (nI_add _ _) ?_
    rw [hed]
    have hel : q_ed (q_t L ℓ) s < 2 ^ 20 := by omega
    refine x_istore_n (pc' := 119) (lv' := [(3, _), (6, _), (5, _), (4, _), (2, _), (0, _), (1, _)]) rfl rfl (Nat.le_of_ble_eq_true rfl) rfl ?_
    refine x_iload (pc' := 121) rfl rfl rfl ?_
    refine x_iload (pc' := 123) rfl rfl rfl ?_
    by_cases d3 : q_dn (q_t L ℓ) s < 2
    · rw [if_pos (Or.inl d3)] at h1
      refine x_icmp_lt (tgt := 136) (pc' := 126) rfl rfl rfl (fun _ => ?_) (fun q => absurd (nI_lt (b := 2) d3 (by decide)) q)
      refine x_aload_n (pc' := 137) rfl rfl rfl ?_
      refine x_iload_n (pc' := 138) rfl rfl rfl ?_
      refine x_put (pc' := 141) rfl rfl rfl (hM.1) (Nat.le_of_ble_eq_true rfl) rfl rfl rfl rfl (fun f1 e1 => ?_)
      have hM9 := hM.num 20 e1 (x_mFs20 _ _)
      have hF9 := r_fr0 e1 (by decide)
      refine x_iload_n (pc' := 142) rfl rfl rfl ?_
      refine x_iconst (pc' := 143) rfl rfl iconst_1 ?_
      refine x_iadd (pc' := 144) rfl rfl ?_
      refine x_eqi (nI_1 _) ?_
      exact x_ireturn rfl rfl rfl (Nat.le_of_ble_eq_true rfl) (Nat.le_of_ble_eq_true rfl) (h1 _ rfl _ _ hM9 hF9)
    · refine x_icmp_lt (tgt := 136) (pc' := 126) rfl rfl rfl (fun q => absurd q (nI_nlt (b := 2) (by omega) (by omega))) (fun _ => ?_)
      refine x_aload_n (pc' := 127) rfl rfl rfl ?_
      refine x_iload_n (pc' := 128) rfl rfl rfl ?_
      refine x_cV1i (d := 1) (pc' := 131) rfl rfl sX6_116 gX6_letterAt (hM.1) ⟨Nat.le_of_ble_eq_true rfl, Nat.le_of_ble_eq_true rfl⟩ (Nat.le_of_ble_eq_true rfl) ⟨Nat.le_of_ble_eq_true rfl, Nat.le_of_ble_eq_true rfl⟩ ?_
      refine m_lAt hM hL (by omega) ⟨_, rfl, ?_⟩
      refine x_bipush (pc' := 133) rfl rfl bipush_59 ?_
      by_cases d4 : q_t L ℓ (q_ed (q_t L ℓ) s) = 59
      · rw [if_neg (fun q => q.elim d3 (fun k => k d4))] at h0
        refine x_icmp_eq (tgt := 141) (pc' := 136) rfl rfl rfl (fun _ => ?_) (fun q => absurd ((q_cI_eq (k := 59) (hc _) (by decide)).mpr d4) q)
        refine x_iload_n (pc' := 142) rfl rfl rfl ?_
        refine x_iconst (pc' := 143) rfl rfl iconst_1 ?_
        refine x_iadd (pc' := 144) rfl rfl ?_
        refine x_eqi (nI_1 _) ?_
        exact x_ireturn rfl rfl rfl (Nat.le_of_ble_eq_true rfl) (Nat.le_of_ble_eq_true rfl) (h0 rfl)
      · rw [if_pos (Or.inr d4)] at h1
        refine x_icmp_eq (tgt := 141) (pc' := 136) rfl rfl rfl (fun q => absurd ((q_cI_eq (k := 59) (hc _) (by decide)).mp q) d4) (fun _ => ?_)
        refine x_aload_n (pc' := 137) rfl rfl rfl ?_
        refine x_iload_n (pc' := 138) rfl rfl rfl ?_
        refine x_put (pc' := 141) rfl rfl rfl (hM.1) (Nat.le_of_ble_eq_true rfl) rfl rfl rfl rfl (fun f2 e2 => ?_)
        have hM9 := hM.num 20 e2 (x_mFs20 _ _)
        have hF9 := r_fr0 e2 (by decide)
        refine x_iload_n (pc' := 142) rfl rfl rfl ?_
        refine x_iconst (pc' := 143) rfl rfl iconst_1 ?_
        refine x_iadd (pc' := 144) rfl rfl ?_
        refine x_eqi (nI_1 _) ?_
        exact x_ireturn rfl rfl rfl (Nat.le_of_ble_eq_true rfl) (Nat.le_of_ble_eq_true rfl) (h1 _ rfl _ _ hM9 hF9)
  · have hp0 : q_p0 (q_t L ℓ) s = s + 1 := if_neg (by omega)
    have hdn : q_df (q_t L ℓ) 1 (s + 1) = q_dn (q_t L ℓ) s := by
      unfold q_dn
      rw [hp0, h102]
      rfl
    have hed : s + 1 + q_dn (q_t L ℓ) s = q_ed (q_t L ℓ) s := by unfold q_ed; rw [hp0]
    have hld : q_ld (q_t L ℓ s) = 1 := by rw [h102]; rfl
    rw [hld, if_neg (fun q => absurd (h102.symm.trans q.1) (by decide))] at h1 h0
    have hne : ∀ k : Nat, k ≤ 255 → ¬ k = 102 → ¬ q_cI (q_t L ℓ s) = nI k := fun k hk hk2 q => hk2 (((q_cI_eq (hc s) hk).mp q).symm.trans h102)
    have heq : q_cI (q_t L ℓ s) = nI 102 := (q_cI_eq (hc s) (by decide)).mpr h102
    refine x_aload_n (pc' := 1) rfl rfl rfl ?_
    refine x_iload_n (pc' := 2) rfl rfl rfl ?_
    refine x_cV1i (d := 1) (pc' := 5) rfl rfl sX6_116 gX6_letterAt (hM.1) ⟨Nat.le_of_ble_eq_true rfl, Nat.le_of_ble_eq_true rfl⟩ (Nat.le_of_ble_eq_true rfl) ⟨Nat.le_of_ble_eq_true rfl, Nat.le_of_ble_eq_true rfl⟩ ?_
    refine m_lAt hM hL (by omega) ⟨_, rfl, ?_⟩
    refine x_istore_n (pc' := 6) (lv' := [(2, _), (0, _), (1, _)]) rfl rfl (Nat.le_of_ble_eq_true rfl) rfl ?_
    refine x_iload_n (pc' := 7) rfl rfl rfl ?_
    refine x_iconst (pc' := 8) rfl rfl iconst_1 ?_
    refine x_iadd (pc' := 9) rfl rfl ?_
    refine x_eqi (nI_1 _) ?_
    refine x_istore_n (pc' := 10) (lv' := [(3, _), (2, _), (0, _), (1, _)]) rfl rfl (Nat.le_of_ble_eq_true rfl) rfl ?_
    refine x_iconst (pc' := 11) rfl rfl iconst_1 ?_
    refine x_istore (pc' := 13) (lv' := [(4, _), (3, _), (2, _), (0, _), (1, _)]) rfl rfl (Nat.le_of_ble_eq_true rfl) rfl ?_
    refine x_iconst (pc' := 14) rfl rfl iconst_1 ?_
    refine x_istore (pc' := 16) (lv' := [(5, _), (4, _), (3, _), (2, _), (0, _), (1, _)]) rfl rfl (Nat.le_of_ble_eq_true rfl) rfl ?_
    refine x_iload_n (pc' := 17) rfl rfl rfl ?_
    refine x_bipush (pc' := 19) rfl rfl bipush_98 ?_
    refine x_icmp_ne (tgt := 52) (pc' := 22) rfl rfl rfl (fun _ => ?_) (fun c19 => absurd c19 ((hne 98 (by decide) (by decide))))
    refine x_iload_n (pc' := 53) rfl rfl rfl ?_
    refine x_bipush (pc' := 55) rfl rfl bipush_99 ?_
    refine x_icmp_ne (tgt := 67) (pc' := 58) rfl rfl rfl (fun _ => ?_) (fun c55 => absurd c55 ((hne 99 (by decide) (by decide))))
    refine x_iload_n (pc' := 68) rfl rfl rfl ?_
    refine x_bipush (pc' := 70) rfl rfl bipush_115 ?_
    refine x_icmp_ne (tgt := 80) (pc' := 73) rfl rfl rfl (fun _ => ?_) (fun c70 => absurd c70 ((hne 115 (by decide) (by decide))))
    refine x_iload_n (pc' := 81) rfl rfl rfl ?_
    refine x_bipush (pc' := 83) rfl rfl bipush_102 ?_
    refine x_icmp_eq (tgt := 105) (pc' := 86) rfl rfl rfl (fun _ => ?_) (fun c83 => absurd (heq) c83)
    refine x_aload_n (pc' := 106) rfl rfl rfl ?_
    refine x_iload_n (pc' := 107) rfl rfl rfl ?_
    refine x_iload (pc' := 109) rfl rfl rfl ?_
    refine x_cV2i (d := 3) (pc' := 112) rfl rfl sX6_128 gX6_digitsFrom (hM.1) ⟨Nat.le_of_ble_eq_true rfl, Nat.le_of_ble_eq_true rfl⟩ (Nat.le_of_ble_eq_true rfl) ⟨Nat.le_of_ble_eq_true rfl, Nat.le_of_ble_eq_true rfl⟩ ?_
    refine m_digs (n := 1) hM hL (by omega) (by omega) ⟨_, rfl, ?_⟩
    rw [hdn]
    refine x_istore (pc' := 114) (lv' := [(6, _), (5, _), (4, _), (3, _), (2, _), (0, _), (1, _)]) rfl rfl (Nat.le_of_ble_eq_true rfl) rfl ?_
    refine x_iload_n (pc' := 115) rfl rfl rfl ?_
    refine x_iload (pc' := 117) rfl rfl rfl ?_
    refine x_iadd (pc' := 118) rfl rfl ?_
    refine x_eqi (nI_add _ _) ?_
    rw [hed]
    have hel : q_ed (q_t L ℓ) s < 2 ^ 20 := by omega
    refine x_istore_n (pc' := 119) (lv' := [(3, _), (6, _), (5, _), (4, _), (2, _), (0, _), (1, _)]) rfl rfl (Nat.le_of_ble_eq_true rfl) rfl ?_
    refine x_iload (pc' := 121) rfl rfl rfl ?_
    refine x_iload (pc' := 123) rfl rfl rfl ?_
    by_cases d3 : q_dn (q_t L ℓ) s < 1
    · rw [if_pos (Or.inl d3)] at h1
      refine x_icmp_lt (tgt := 136) (pc' := 126) rfl rfl rfl (fun _ => ?_) (fun q => absurd (nI_lt (b := 1) d3 (by decide)) q)
      refine x_aload_n (pc' := 137) rfl rfl rfl ?_
      refine x_iload_n (pc' := 138) rfl rfl rfl ?_
      refine x_put (pc' := 141) rfl rfl rfl (hM.1) (Nat.le_of_ble_eq_true rfl) rfl rfl rfl rfl (fun f1 e1 => ?_)
      have hM9 := hM.num 20 e1 (x_mFs20 _ _)
      have hF9 := r_fr0 e1 (by decide)
      refine x_iload_n (pc' := 142) rfl rfl rfl ?_
      refine x_iconst (pc' := 143) rfl rfl iconst_1 ?_
      refine x_iadd (pc' := 144) rfl rfl ?_
      refine x_eqi (nI_1 _) ?_
      exact x_ireturn rfl rfl rfl (Nat.le_of_ble_eq_true rfl) (Nat.le_of_ble_eq_true rfl) (h1 _ rfl _ _ hM9 hF9)
    · refine x_icmp_lt (tgt := 136) (pc' := 126) rfl rfl rfl (fun q => absurd q (nI_nlt (b := 1) (by omega) (by omega))) (fun _ => ?_)
      refine x_aload_n (pc' := 127) rfl rfl rfl ?_
      refine x_iload_n (pc' := 128) rfl rfl rfl ?_
      refine x_cV1i (d := 1) (pc' := 131) rfl rfl sX6_116 gX6_letterAt (hM.1) ⟨Nat.le_of_ble_eq_true rfl, Nat.le_of_ble_eq_true rfl⟩ (Nat.le_of_ble_eq_true rfl) ⟨Nat.le_of_ble_eq_true rfl, Nat.le_of_ble_eq_true rfl⟩ ?_
      refine m_lAt hM hL (by omega) ⟨_, rfl, ?_⟩
      refine x_bipush (pc' := 133) rfl rfl bipush_59 ?_
      by_cases d4 : q_t L ℓ (q_ed (q_t L ℓ) s) = 59
      · rw [if_neg (fun q => q.elim d3 (fun k => k d4))] at h0
        refine x_icmp_eq (tgt := 141) (pc' := 136) rfl rfl rfl (fun _ => ?_) (fun q => absurd ((q_cI_eq (k := 59) (hc _) (by decide)).mpr d4) q)
        refine x_iload_n (pc' := 142) rfl rfl rfl ?_
        refine x_iconst (pc' := 143) rfl rfl iconst_1 ?_
        refine x_iadd (pc' := 144) rfl rfl ?_
        refine x_eqi (nI_1 _) ?_
        exact x_ireturn rfl rfl rfl (Nat.le_of_ble_eq_true rfl) (Nat.le_of_ble_eq_true rfl) (h0 rfl)
      · rw [if_pos (Or.inr d4)] at h1
        refine x_icmp_eq (tgt := 141) (pc' := 136) rfl rfl rfl (fun q => absurd ((q_cI_eq (k := 59) (hc _) (by decide)).mp q) d4) (fun _ => ?_)
        refine x_aload_n (pc' := 137) rfl rfl rfl ?_
        refine x_iload_n (pc' := 138) rfl rfl rfl ?_
        refine x_put (pc' := 141) rfl rfl rfl (hM.1) (Nat.le_of_ble_eq_true rfl) rfl rfl rfl rfl (fun f2 e2 => ?_)
        have hM9 := hM.num 20 e2 (x_mFs20 _ _)
        have hF9 := r_fr0 e2 (by decide)
        refine x_iload_n (pc' := 142) rfl rfl rfl ?_
        refine x_iconst (pc' := 143) rfl rfl iconst_1 ?_
        refine x_iadd (pc' := 144) rfl rfl ?_
        refine x_eqi (nI_1 _) ?_
        exact x_ireturn rfl rfl rfl (Nat.le_of_ble_eq_true rfl) (Nat.le_of_ble_eq_true rfl) (h1 _ rfl _ _ hM9 hF9)
  · have hp0 : q_p0 (q_t L ℓ) s = s + 1 := if_neg (by omega)
    have hdn : q_df (q_t L ℓ) 1 (s + 1) = q_dn (q_t L ℓ) s := by
      unfold q_dn
      rw [hp0, h108]
      rfl
    have hed : s + 1 + q_dn (q_t L ℓ) s = q_ed (q_t L ℓ) s := by unfold q_ed; rw [hp0]
    have hld : q_ld (q_t L ℓ s) = 1 := by rw [h108]; rfl
    rw [hld, if_neg (fun q => absurd (h108.symm.trans q.1) (by decide))] at h1 h0
    have hne : ∀ k : Nat, k ≤ 255 → ¬ k = 108 → ¬ q_cI (q_t L ℓ s) = nI k := fun k hk hk2 q => hk2 (((q_cI_eq (hc s) hk).mp q).symm.trans h108)
    have heq : q_cI (q_t L ℓ s) = nI 108 := (q_cI_eq (hc s) (by decide)).mpr h108
    refine x_aload_n (pc' := 1) rfl rfl rfl ?_
    refine x_iload_n (pc' := 2) rfl rfl rfl ?_
    refine x_cV1i (d := 1) (pc' := 5) rfl rfl sX6_116 gX6_letterAt (hM.1) ⟨Nat.le_of_ble_eq_true rfl, Nat.le_of_ble_eq_true rfl⟩ (Nat.le_of_ble_eq_true rfl) ⟨Nat.le_of_ble_eq_true rfl, Nat.le_of_ble_eq_true rfl⟩ ?_
    refine m_lAt hM hL (by omega) ⟨_, rfl, ?_⟩
    refine x_istore_n (pc' := 6) (lv' := [(2, _), (0, _), (1, _)]) rfl rfl (Nat.le_of_ble_eq_true rfl) rfl ?_
    refine x_iload_n (pc' := 7) rfl rfl rfl ?_
    refine x_iconst (pc' := 8) rfl rfl iconst_1 ?_
    refine x_iadd (pc' := 9) rfl rfl ?_
    refine x_eqi (nI_1 _) ?_
    refine x_istore_n (pc' := 10) (lv' := [(3, _), (2, _), (0, _), (1, _)]) rfl rfl (Nat.le_of_ble_eq_true rfl) rfl ?_
    refine x_iconst (pc' := 11) rfl rfl iconst_1 ?_
    refine x_istore (pc' := 13) (lv' := [(4, _), (3, _), (2, _), (0, _), (1, _)]) rfl rfl (Nat.le_of_ble_eq_true rfl) rfl ?_
    refine x_iconst (pc' := 14) rfl rfl iconst_1 ?_
    refine x_istore (pc' := 16) (lv' := [(5, _), (4, _), (3, _), (2, _), (0, _), (1, _)]) rfl rfl (Nat.le_of_ble_eq_true rfl) rfl ?_
    refine x_iload_n (pc' := 17) rfl rfl rfl ?_
    refine x_bipush (pc' := 19) rfl rfl bipush_98 ?_
    refine x_icmp_ne (tgt := 52) (pc' := 22) rfl rfl rfl (fun _ => ?_) (fun c19 => absurd c19 ((hne 98 (by decide) (by decide))))
    refine x_iload_n (pc' := 53) rfl rfl rfl ?_
    refine x_bipush (pc' := 55) rfl rfl bipush_99 ?_
    refine x_icmp_ne (tgt := 67) (pc' := 58) rfl rfl rfl (fun _ => ?_) (fun c55 => absurd c55 ((hne 99 (by decide) (by decide))))
    refine x_iload_n (pc' := 68) rfl rfl rfl ?_
    refine x_bipush (pc' := 70) rfl rfl bipush_115 ?_
    refine x_icmp_ne (tgt := 80) (pc' := 73) rfl rfl rfl (fun _ => ?_) (fun c70 => absurd c70 ((hne 115 (by decide) (by decide))))
    refine x_iload_n (pc' := 81) rfl rfl rfl ?_
    refine x_bipush (pc' := 83) rfl rfl bipush_102 ?_
    refine x_icmp_eq (tgt := 105) (pc' := 86) rfl rfl rfl (fun c83 => absurd c83 ((hne 102 (by decide) (by decide)))) (fun _ => ?_)
    refine x_iload_n (pc' := 87) rfl rfl rfl ?_
    refine x_bipush (pc' := 89) rfl rfl bipush_108 ?_
    refine x_icmp_eq (tgt := 105) (pc' := 92) rfl rfl rfl (fun _ => ?_) (fun c89 => absurd (heq) c89)
    refine x_aload_n (pc' := 106) rfl rfl rfl ?_
    refine x_iload_n (pc' := 107) rfl rfl rfl ?_
    refine x_iload (pc' := 109) rfl rfl rfl ?_
    refine x_cV2i (d := 3) (pc' := 112) rfl rfl sX6_128 gX6_digitsFrom (hM.1) ⟨Nat.le_of_ble_eq_true rfl, Nat.le_of_ble_eq_true rfl⟩ (Nat.le_of_ble_eq_true rfl) ⟨Nat.le_of_ble_eq_true rfl, Nat.le_of_ble_eq_true rfl⟩ ?_
    refine m_digs (n := 1) hM hL (by omega) (by omega) ⟨_, rfl, ?_⟩
    rw [hdn]
    refine x_istore (pc' := 114) (lv' := [(6, _), (5, _), (4, _), (3, _), (2, _), (0, _), (1, _)]) rfl rfl (Nat.le_of_ble_eq_true rfl) rfl ?_
    refine x_iload_n (pc' := 115) rfl rfl rfl ?_
    refine x_iload (pc' := 117) rfl rfl rfl ?_
    refine x_iadd (pc' := 118) rfl rfl ?_
    refine x_eqi (nI_add _ _) ?_
    rw [hed]
    have hel : q_ed (q_t L ℓ) s < 2 ^ 20 := by omega
    refine x_istore_n (pc' := 119) (lv' := [(3, _), (6, _), (5, _), (4, _), (2, _), (0, _), (1, _)]) rfl rfl (Nat.le_of_ble_eq_true rfl) rfl ?_
    refine x_iload (pc' := 121) rfl rfl rfl ?_
    refine x_iload (pc' := 123) rfl rfl rfl ?_
    by_cases d3 : q_dn (q_t L ℓ) s < 1
    · rw [if_pos (Or.inl d3)] at h1
      refine x_icmp_lt (tgt := 136) (pc' := 126) rfl rfl rfl (fun _ => ?_) (fun q => absurd (nI_lt (b := 1) d3 (by decide)) q)
      refine x_aload_n (pc' := 137) rfl rfl rfl ?_
      refine x_iload_n (pc' := 138) rfl rfl rfl ?_
      refine x_put (pc' := 141) rfl rfl rfl (hM.1) (Nat.le_of_ble_eq_true rfl) rfl rfl rfl rfl (fun f1 e1 => ?_)
      have hM9 := hM.num 20 e1 (x_mFs20 _ _)
      have hF9 := r_fr0 e1 (by decide)
      refine x_iload_n (pc' := 142) rfl rfl rfl ?_
      refine x_iconst (pc' := 143) rfl rfl iconst_1 ?_
      refine x_iadd (pc' := 144) rfl rfl ?_
      refine x_eqi (nI_1 _) ?_
      exact x_ireturn rfl rfl rfl (Nat.le_of_ble_eq_true rfl) (Nat.le_of_ble_eq_true rfl) (h1 _ rfl _ _ hM9 hF9)
    · refine x_icmp_lt (tgt := 136) (pc' := 126) rfl rfl rfl (fun q => absurd q (nI_nlt (b := 1) (by omega) (by omega))) (fun _ => ?_)
      refine x_aload_n (pc' := 127) rfl rfl rfl ?_
      refine x_iload_n (pc' := 128) rfl rfl rfl ?_
      refine x_cV1i (d := 1) (pc' := 131) rfl rfl sX6_116 gX6_letterAt (hM.1) ⟨Nat.le_of_ble_eq_true rfl, Nat.le_of_ble_eq_true rfl⟩ (Nat.le_of_ble_eq_true rfl) ⟨Nat.le_of_ble_eq_true rfl, Nat.le_of_ble_eq_true rfl⟩ ?_
      refine m_lAt hM hL (by omega) ⟨_, rfl, ?_⟩
      refine x_bipush (pc' := 133) rfl rfl bipush_59 ?_
      by_cases d4 : q_t L ℓ (q_ed (q_t L ℓ) s) = 59
      · rw [if_neg (fun q => q.elim d3 (fun k => k d4))] at h0
        refine x_icmp_eq (tgt := 141) (pc' := 136) rfl rfl rfl (fun _ => ?_) (fun q => absurd ((q_cI_eq (k := 59) (hc _) (by decide)).mpr d4) q)
        refine x_iload_n (pc' := 142) rfl rfl rfl ?_
        refine x_iconst (pc' := 143) rfl rfl iconst_1 ?_
        refine x_iadd (pc' := 144) rfl rfl ?_
        refine x_eqi (nI_1 _) ?_
        exact x_ireturn rfl rfl rfl (Nat.le_of_ble_eq_true rfl) (Nat.le_of_ble_eq_true rfl) (h0 rfl)
      · rw [if_pos (Or.inr d4)] at h1
        refine x_icmp_eq (tgt := 141) (pc' := 136) rfl rfl rfl (fun q => absurd ((q_cI_eq (k := 59) (hc _) (by decide)).mp q) d4) (fun _ => ?_)
        refine x_aload_n (pc' := 137) rfl rfl rfl ?_
        refine x_iload_n (pc' := 138) rfl rfl rfl ?_
        refine x_put (pc' := 141) rfl rfl rfl (hM.1) (Nat.le_of_ble_eq_true rfl) rfl rfl rfl rfl (fun f2 e2 => ?_)
        have hM9 := hM.num 20 e2 (x_mFs20 _ _)
        have hF9 := r_fr0 e2 (by decide)
        refine x_iload_n (pc' := 142) rfl rfl rfl ?_
        refine x_iconst (pc' := 143) rfl rfl iconst_1 ?_
        refine x_iadd (pc' := 144) rfl rfl ?_
        refine x_eqi (nI_1 _) ?_
        exact x_ireturn rfl rfl rfl (Nat.le_of_ble_eq_true rfl) (Nat.le_of_ble_eq_true rfl) (h1 _ rfl _ _ hM9 hF9)
  · have hp0 : q_p0 (q_t L ℓ) s = s + 1 := if_neg (by omega)
    have hdn : q_df (q_t L ℓ) 1 (s + 1) = q_dn (q_t L ℓ) s := by
      unfold q_dn
      rw [hp0, h116]
      rfl
    have hed : s + 1 + q_dn (q_t L ℓ) s = q_ed (q_t L ℓ) s := by unfold q_ed; rw [hp0]
    have hld : q_ld (q_t L ℓ s) = 1 := by rw [h116]; rfl
    rw [hld, if_neg (fun q => absurd (h116.symm.trans q.1) (by decide))] at h1 h0
    have hne : ∀ k : Nat, k ≤ 255 → ¬ k = 116 → ¬ q_cI (q_t L ℓ s) = nI k := fun k hk hk2 q => hk2 (((q_cI_eq (hc s) hk).mp q).symm.trans h116)
    have heq : q_cI (q_t L ℓ s) = nI 116 := (q_cI_eq (hc s) (by decide)).mpr h116
    refine x_aload_n (pc' := 1) rfl rfl rfl ?_
    refine x_iload_n (pc' := 2) rfl rfl rfl ?_
    refine x_cV1i (d := 1) (pc' := 5) rfl rfl sX6_116 gX6_letterAt (hM.1) ⟨Nat.le_of_ble_eq_true rfl, Nat.le_of_ble_eq_true rfl⟩ (Nat.le_of_ble_eq_true rfl) ⟨Nat.le_of_ble_eq_true rfl, Nat.le_of_ble_eq_true rfl⟩ ?_
    refine m_lAt hM hL (by omega) ⟨_, rfl, ?_⟩
    refine x_istore_n (pc' := 6) (lv' := [(2, _), (0, _), (1, _)]) rfl rfl (Nat.le_of_ble_eq_true rfl) rfl ?_
    refine x_iload_n (pc' := 7) rfl rfl rfl ?_
    refine x_iconst (pc' := 8) rfl rfl iconst_1 ?_
    refine x_iadd (pc' := 9) rfl rfl ?_
    refine x_eqi (nI_1 _) ?_
    refine x_istore_n (pc' := 10) (lv' := [(3, _), (2, _), (0, _), (1, _)]) rfl rfl (Nat.le_of_ble_eq_true rfl) rfl ?_
    refine x_iconst (pc' := 11) rfl rfl iconst_1 ?_
    refine x_istore (pc' := 13) (lv' := [(4, _), (3, _), (2, _), (0, _), (1, _)]) rfl rfl (Nat.le_of_ble_eq_true rfl) rfl ?_
    refine x_iconst (pc' := 14) rfl rfl iconst_1 ?_
    refine x_istore (pc' := 16) (lv' := [(5, _), (4, _), (3, _), (2, _), (0, _), (1, _)]) rfl rfl (Nat.le_of_ble_eq_true rfl) rfl ?_
    refine x_iload_n (pc' := 17) rfl rfl rfl ?_
    refine x_bipush (pc' := 19) rfl rfl bipush_98 ?_
    refine x_icmp_ne (tgt := 52) (pc' := 22) rfl rfl rfl (fun _ => ?_) (fun c19 => absurd c19 ((hne 98 (by decide) (by decide))))
    refine x_iload_n (pc' := 53) rfl rfl rfl ?_
    refine x_bipush (pc' := 55) rfl rfl bipush_99 ?_
    refine x_icmp_ne (tgt := 67) (pc' := 58) rfl rfl rfl (fun _ => ?_) (fun c55 => absurd c55 ((hne 99 (by decide) (by decide))))
    refine x_iload_n (pc' := 68) rfl rfl rfl ?_
    refine x_bipush (pc' := 70) rfl rfl bipush_115 ?_
    refine x_icmp_ne (tgt := 80) (pc' := 73) rfl rfl rfl (fun _ => ?_) (fun c70 => absurd c70 ((hne 115 (by decide) (by decide))))
    refine x_iload_n (pc' := 81) rfl rfl rfl ?_
    refine x_bipush (pc' := 83) rfl rfl bipush_102 ?_
    refine x_icmp_eq (tgt := 105) (pc' := 86) rfl rfl rfl (fun c83 => absurd c83 ((hne 102 (by decide) (by decide)))) (fun _ => ?_)
    refine x_iload_n (pc' := 87) rfl rfl rfl ?_
    refine x_bipush (pc' := 89) rfl rfl bipush_108 ?_
    refine x_icmp_eq (tgt := 105) (pc' := 92) rfl rfl rfl (fun c89 => absurd c89 ((hne 108 (by decide) (by decide)))) (fun _ => ?_)
    refine x_iload_n (pc' := 93) rfl rfl rfl ?_
    refine x_bipush (pc' := 95) rfl rfl bipush_116 ?_
    refine x_icmp_eq (tgt := 105) (pc' := 98) rfl rfl rfl (fun _ => ?_) (fun c95 => absurd (heq) c95)
    refine x_aload_n (pc' := 106) rfl rfl rfl ?_
    refine x_iload_n (pc' := 107) rfl rfl rfl ?_
    refine x_iload (pc' := 109) rfl rfl rfl ?_
    refine x_cV2i (d := 3) (pc' := 112) rfl rfl sX6_128 gX6_digitsFrom (hM.1) ⟨Nat.le_of_ble_eq_true rfl, Nat.le_of_ble_eq_true rfl⟩ (Nat.le_of_ble_eq_true rfl) ⟨Nat.le_of_ble_eq_true rfl, Nat.le_of_ble_eq_true rfl⟩ ?_
    refine m_digs (n := 1) hM hL (by omega) (by omega) ⟨_, rfl, ?_⟩
    rw [hdn]
    refine x_istore (pc' := 114) (lv' := [(6, _), (5, _), (4, _), (3, _), (2, _), (0, _), (1, _)]) rfl rfl (Nat.le_of_ble_eq_true rfl) rfl ?_
    refine x_iload_n (pc' := 115) rfl rfl rfl ?_
    refine x_iload (pc' := 117) rfl rfl rfl ?_
    refine x_iadd (pc' := 118) rfl rfl ?_
    refine x_eqi (nI_add _ _) ?_
    rw [hed]
    have hel : q_ed (q_t L ℓ) s < 2 ^ 20 := by omega
    refine x_istore_n (pc' := 119) (lv' := [(3, _), (6, _), (5, _), (4, _), (2, _), (0, _), (1, _)]) rfl rfl (Nat.le_of_ble_eq_true rfl) rfl ?_
    refine x_iload (pc' := 121) rfl rfl rfl ?_
    refine x_iload (pc' := 123) rfl rfl rfl ?_
    by_cases d3 : q_dn (q_t L ℓ) s < 1
    · rw [if_pos (Or.inl d3)] at h1
      refine x_icmp_lt (tgt := 136) (pc' := 126) rfl rfl rfl (fun _ => ?_) (fun q => absurd (nI_lt (b := 1) d3 (by decide)) q)
      refine x_aload_n (pc' := 137) rfl rfl rfl ?_
      refine x_iload_n (pc' := 138) rfl rfl rfl ?_
      refine x_put (pc' := 141) rfl rfl rfl (hM.1) (Nat.le_of_ble_eq_true rfl) rfl rfl rfl rfl (fun f1 e1 => ?_)
      have hM9 := hM.num 20 e1 (x_mFs20 _ _)
      have hF9 := r_fr0 e1 (by decide)
      refine x_iload_n (pc' := 142) rfl rfl rfl ?_
      refine x_iconst (pc' := 143) rfl rfl iconst_1 ?_
      refine x_iadd (pc' := 144) rfl rfl ?_
      refine x_eqi (nI_1 _) ?_
      exact x_ireturn rfl rfl rfl (Nat.le_of_ble_eq_true rfl) (Nat.le_of_ble_eq_true rfl) (h1 _ rfl _ _ hM9 hF9)
    · refine x_icmp_lt (tgt := 136) (pc' := 126) rfl rfl rfl (fun q => absurd q (nI_nlt (b := 1) (by omega) (by omega))) (fun _ => ?_)
      refine x_aload_n (pc' := 127) rfl rfl rfl ?_
      refine x_iload_n (pc' := 128) rfl rfl rfl ?_
      refine x_cV1i (d := 1) (pc' := 131) rfl rfl sX6_116 gX6_letterAt (hM.1) ⟨Nat.le_of_ble_eq_true rfl, Nat.le_of_ble_eq_true rfl⟩ (Nat.le_of_ble_eq_true rfl) ⟨Nat.le_of_ble_eq_true rfl, Nat.le_of_ble_eq_true rfl⟩ ?_
      refine m_lAt hM hL (by omega) ⟨_, rfl, ?_⟩
      refine x_bipush (pc' := 133) rfl rfl bipush_59 ?_
      by_cases d4 : q_t L ℓ (q_ed (q_t L ℓ) s) = 59
      · rw [if_neg (fun q => q.elim d3 (fun k => k d4))] at h0
        refine x_icmp_eq (tgt := 141) (pc' := 136) rfl rfl rfl (fun _ => ?_) (fun q => absurd ((q_cI_eq (k := 59) (hc _) (by decide)).mpr d4) q)
        refine x_iload_n (pc' := 142) rfl rfl rfl ?_
        refine x_iconst (pc' := 143) rfl rfl iconst_1 ?_
        refine x_iadd (pc' := 144) rfl rfl ?_
        refine x_eqi (nI_1 _) ?_
        exact x_ireturn rfl rfl rfl (Nat.le_of_ble_eq_true rfl) (Nat.le_of_ble_eq_true rfl) (h0 rfl)
      · rw [if_pos (Or.inr d4)] at h1
        refine x_icmp_eq (tgt := 141) (pc' := 136) rfl rfl rfl (fun q => absurd ((q_cI_eq (k := 59) (hc _) (by decide)).mp q) d4) (fun _ => ?_)
        refine x_aload_n (pc' := 137) rfl rfl rfl ?_
        refine x_iload_n (pc' := 138) rfl rfl rfl ?_
        refine x_put (pc' := 141) rfl rfl rfl (hM.1) (Nat.le_of_ble_eq_true rfl) rfl rfl rfl rfl (fun f2 e2 => ?_)
        have hM9 := hM.num 20 e2 (x_mFs20 _ _)
        have hF9 := r_fr0 e2 (by decide)
        refine x_iload_n (pc' := 142) rfl rfl rfl ?_
        refine x_iconst (pc' := 143) rfl rfl iconst_1 ?_
        refine x_iadd (pc' := 144) rfl rfl ?_
        refine x_eqi (nI_1 _) ?_
        exact x_ireturn rfl rfl rfl (Nat.le_of_ble_eq_true rfl) (Nat.le_of_ble_eq_true rfl) (h1 _ rfl _ _ hM9 hF9)
  · have hp0 : q_p0 (q_t L ℓ) s = s + 1 := if_neg (by omega)
    have hdn : q_df (q_t L ℓ) 9 (s + 1) = q_dn (q_t L ℓ) s := by
      unfold q_dn
      rw [hp0, h115]
      rfl
    have hed : s + 1 + q_dn (q_t L ℓ) s = q_ed (q_t L ℓ) s := by unfold q_ed; rw [hp0]
    have hld : q_ld (q_t L ℓ s) = 1 := by rw [h115]; rfl
    rw [hld, if_neg (fun q => absurd (h115.symm.trans q.1) (by decide))] at h1 h0
    have hne : ∀ k : Nat, k ≤ 255 → ¬ k = 115 → ¬ q_cI (q_t L ℓ s) = nI k := fun k hk hk2 q => hk2 (((q_cI_eq (hc s) hk).mp q).symm.trans h115)
    have heq : q_cI (q_t L ℓ s) = nI 115 := (q_cI_eq (hc s) (by decide)).mpr h115
    refine x_aload_n (pc' := 1) rfl rfl rfl ?_
    refine x_iload_n (pc' := 2) rfl rfl rfl ?_
    refine x_cV1i (d := 1) (pc' := 5) rfl rfl sX6_116 gX6_letterAt (hM.1) ⟨Nat.le_of_ble_eq_true rfl, Nat.le_of_ble_eq_true rfl⟩ (Nat.le_of_ble_eq_true rfl) ⟨Nat.le_of_ble_eq_true rfl, Nat.le_of_ble_eq_true rfl⟩ ?_
    refine m_lAt hM hL (by omega) ⟨_, rfl, ?_⟩
    refine x_istore_n (pc' := 6) (lv' := [(2, _), (0, _), (1, _)]) rfl rfl (Nat.le_of_ble_eq_true rfl) rfl ?_
    refine x_iload_n (pc' := 7) rfl rfl rfl ?_
    refine x_iconst (pc' := 8) rfl rfl iconst_1 ?_
    refine x_iadd (pc' := 9) rfl rfl ?_
    refine x_eqi (nI_1 _) ?_
    refine x_istore_n (pc' := 10) (lv' := [(3, _), (2, _), (0, _), (1, _)]) rfl rfl (Nat.le_of_ble_eq_true rfl) rfl ?_
    refine x_iconst (pc' := 11) rfl rfl iconst_1 ?_
    refine x_istore (pc' := 13) (lv' := [(4, _), (3, _), (2, _), (0, _), (1, _)]) rfl rfl (Nat.le_of_ble_eq_true rfl) rfl ?_
    refine x_iconst (pc' := 14) rfl rfl iconst_1 ?_
    refine x_istore (pc' := 16) (lv' := [(5, _), (4, _), (3, _), (2, _), (0, _), (1, _)]) rfl rfl (Nat.le_of_ble_eq_true rfl) rfl ?_
    refine x_iload_n (pc' := 17) rfl rfl rfl ?_
    refine x_bipush (pc' := 19) rfl rfl bipush_98 ?_
    refine x_icmp_ne (tgt := 52) (pc' := 22) rfl rfl rfl (fun _ => ?_) (fun c19 => absurd c19 ((hne 98 (by decide) (by decide))))
    refine x_iload_n (pc' := 53) rfl rfl rfl ?_
    refine x_bipush (pc' := 55) rfl rfl bipush_99 ?_
    refine x_icmp_ne (tgt := 67) (pc' := 58) rfl rfl rfl (fun _ => ?_) (fun c55 => absurd c55 ((hne 99 (by decide) (by decide))))
    refine x_iload_n (pc' := 68) rfl rfl rfl ?_
    refine x_bipush (pc' := 70) rfl rfl bipush_115 ?_
    refine x_icmp_ne (tgt := 80) (pc' := 73) rfl rfl rfl (fun c70 => absurd (heq) c70) (fun _ => ?_)
    refine x_bipush (pc' := 75) rfl rfl bipush_9 ?_
    refine x_istore (pc' := 77) (lv' := [(5, _), (4, _), (3, _), (2, _), (0, _), (1, _)]) rfl rfl (Nat.le_of_ble_eq_true rfl) rfl ?_
    refine x_goto (tgt := 105) rfl rfl ?_
    refine x_aload_n (pc' := 106) rfl rfl rfl ?_
    refine x_iload_n (pc' := 107) rfl rfl rfl ?_
    refine x_iload (pc' := 109) rfl rfl rfl ?_
    refine x_cV2i (d := 3) (pc' := 112) rfl rfl sX6_128 gX6_digitsFrom (hM.1) ⟨Nat.le_of_ble_eq_true rfl, Nat.le_of_ble_eq_true rfl⟩ (Nat.le_of_ble_eq_true rfl) ⟨Nat.le_of_ble_eq_true rfl, Nat.le_of_ble_eq_true rfl⟩ ?_
    refine m_digs (n := 9) hM hL (by omega) (by omega) ⟨_, rfl, ?_⟩
    rw [hdn]
    refine x_istore (pc' := 114) (lv' := [(6, _), (5, _), (4, _), (3, _), (2, _), (0, _), (1, _)]) rfl rfl (Nat.le_of_ble_eq_true rfl) rfl ?_
    refine x_iload_n (pc' := 115) rfl rfl rfl ?_
    refine x_iload (pc' := 117) rfl rfl rfl ?_
    refine x_iadd (pc' := 118) rfl rfl ?_
    refine x_eqi (nI_add _ _) ?_
    rw [hed]
    have hel : q_ed (q_t L ℓ) s < 2 ^ 20 := by omega
    refine x_istore_n (pc' := 119) (lv' := [(3, _), (6, _), (5, _), (4, _), (2, _), (0, _), (1, _)]) rfl rfl (Nat.le_of_ble_eq_true rfl) rfl ?_
    refine x_iload (pc' := 121) rfl rfl rfl ?_
    refine x_iload (pc' := 123) rfl rfl rfl ?_
    by_cases d3 : q_dn (q_t L ℓ) s < 1
    · rw [if_pos (Or.inl d3)] at h1
      refine x_icmp_lt (tgt := 136) (pc' := 126) rfl rfl rfl (fun _ => ?_) (fun q => absurd (nI_lt (b := 1) d3 (by decide)) q)
      refine x_aload_n (pc' := 137) rfl rfl rfl ?_
      refine x_iload_n (pc' := 138) rfl rfl rfl ?_
      refine x_put (pc' := 141) rfl rfl rfl (hM.1) (Nat.le_of_ble_eq_true rfl) rfl rfl rfl rfl (fun f1 e1 => ?_)
      have hM9 := hM.num 20 e1 (x_mFs20 _ _)
      have hF9 := r_fr0 e1 (by decide)
      refine x_iload_n (pc' := 142) rfl rfl rfl ?_
      refine x_iconst (pc' := 143) rfl rfl iconst_1 ?_
      refine x_iadd (pc' := 144) rfl rfl ?_
      refine x_eqi (nI_1 _) ?_
      exact x_ireturn rfl rfl rfl (Nat.le_of_ble_eq_true rfl) (Nat.le_of_ble_eq_true rfl) (h1 _ rfl _ _ hM9 hF9)
    · refine x_icmp_lt (tgt := 136) (pc' := 126) rfl rfl rfl (fun q => absurd q (nI_nlt (b := 1) (by omega) (by omega))) (fun _ => ?_)
      refine x_aload_n (pc' := 127) rfl rfl rfl ?_
      refine x_iload_n (pc' := 128) rfl rfl rfl ?_
      refine x_cV1i (d := 1) (pc' := 131) rfl rfl sX6_116 gX6_letterAt (hM.1) ⟨Nat.le_of_ble_eq_true rfl, Nat.le_of_ble_eq_true rfl⟩ (Nat.le_of_ble_eq_true rfl) ⟨Nat.le_of_ble_eq_true rfl, Nat.le_of_ble_eq_true rfl⟩ ?_
      refine m_lAt hM hL (by omega) ⟨_, rfl, ?_⟩
      refine x_bipush (pc' := 133) rfl rfl bipush_59 ?_
      by_cases d4 : q_t L ℓ (q_ed (q_t L ℓ) s) = 59
      · rw [if_neg (fun q => q.elim d3 (fun k => k d4))] at h0
        refine x_icmp_eq (tgt := 141) (pc' := 136) rfl rfl rfl (fun _ => ?_) (fun q => absurd ((q_cI_eq (k := 59) (hc _) (by decide)).mpr d4) q)
        refine x_iload_n (pc' := 142) rfl rfl rfl ?_
        refine x_iconst (pc' := 143) rfl rfl iconst_1 ?_
        refine x_iadd (pc' := 144) rfl rfl ?_
        refine x_eqi (nI_1 _) ?_
        exact x_ireturn rfl rfl rfl (Nat.le_of_ble_eq_true rfl) (Nat.le_of_ble_eq_true rfl) (h0 rfl)
      · rw [if_pos (Or.inr d4)] at h1
        refine x_icmp_eq (tgt := 141) (pc' := 136) rfl rfl rfl (fun q => absurd ((q_cI_eq (k := 59) (hc _) (by decide)).mp q) d4) (fun _ => ?_)
        refine x_aload_n (pc' := 137) rfl rfl rfl ?_
        refine x_iload_n (pc' := 138) rfl rfl rfl ?_
        refine x_put (pc' := 141) rfl rfl rfl (hM.1) (Nat.le_of_ble_eq_true rfl) rfl rfl rfl rfl (fun f2 e2 => ?_)
        have hM9 := hM.num 20 e2 (x_mFs20 _ _)
        have hF9 := r_fr0 e2 (by decide)
        refine x_iload_n (pc' := 142) rfl rfl rfl ?_
        refine x_iconst (pc' := 143) rfl rfl iconst_1 ?_
        refine x_iadd (pc' := 144) rfl rfl ?_
        refine x_eqi (nI_1 _) ?_
        exact x_ireturn rfl rfl rfl (Nat.le_of_ble_eq_true rfl) (Nat.le_of_ble_eq_true rfl) (h1 _ rfl _ _ hM9 hF9)
end GR
