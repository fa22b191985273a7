/-! The reference sows. -/
theorem q_rem1 {p n : Nat} (hp : p < n) : (p + 1) % n = if n ≤ p + 1 then 0 else p + 1 := by
  by_cases h : n ≤ p + 1
  · rw [if_pos h, show p + 1 = n by omega, Nat.mod_self]
  · rw [if_neg h, Nat.mod_eq_of_lt (by omega)]
theorem q_rem2 {p n : Nat} (hp : p < n) : (p + n - 1) % n = if p = 0 then n - 1 else p - 1 := by
  by_cases h : p = 0
  · subst h
    rw [if_pos rfl, show 0 + n - 1 = n - 1 by omega, Nat.mod_eq_of_lt (by omega)]
  · rw [if_neg h, show p + n - 1 = (p - 1) + n by omega, Nat.add_mod_right, Nat.mod_eq_of_lt (by omega)]
/-- beans and last are new, hands and sown count on, all else stays -/
def q_N (M M' : x_N) (β : Nat → Nat) (l : Option Nat) : Prop := M'.2.1 1 = (fun i => nI (β i)) ∧ (∀ j, j ≠ 1 → M'.2.1 j = M.2.1 j) ∧ M'.2.2 = M.2.2 ∧ (∀ i, i ≠ 14 → i ≠ 15 → i ≠ 16 → M'.1 i = M.1 i) ∧ M'.1 15 = q_lI l
section MSOW
variable {E : x_E} {z : Nat} {f : x_H} {M : x_N} {post : Option Value → x_H → Prop} {n fu ln b : Nat} {κ β : Nat → Nat} {l : Option Nat}
theorem m_sounds1 {k : Nat} (hM : x_Mdl z f M) (hfu : M.1 4 = nI fu) (hfu9 : fu < 2 ^ 20) (hk : k ≤ 5) (h : post (some (.int (if k = 2 then 1000 else nI (q_from k fu)))) f) : Y E 1 mX6_soundsFrom [.ref 59, .int (nI k)] z f 0 0 post := by
  refine Y.intro gX6_soundsFrom (lv := [(0, .ref 59), (1, .int (nI k))]) rfl (Nat.le_of_ble_eq_true rfl) ?_
  have hh : nI fu + 1 = nI (fu + 1) := nI_1 fu
  have hd : nI (fu + 1) / 2 = nI ((fu + 1) / 2) := pk_div (a := fu + 1) (d := 2) (by omega) (by decide) (by decide)
  have hm : (2 : Int32) * nI fu = nI (2 * fu) := pk_mul 2 fu
  have hk6 : k = 0 ∨ k = 1 ∨ k = 2 ∨ k = 3 ∨ k = 4 ∨ k = 5 := by omega
  rcases hk6 with rfl | rfl | rfl | rfl | rfl | rfl
  ·
    refine x_iload_n (pc' := 1) rfl rfl rfl ?_
    refine x_iconst (pc' := 2) rfl rfl iconst_2 ?_
    refine x_icmp_ne (tgt := 9) (pc' := 5) rfl rfl rfl (fun _ => ?_) (fun c2 => absurd c2 ((by decide)))
    refine x_iload_n (pc' := 10) rfl rfl rfl ?_
    refine x_if_ne (tgt := 18) (pc' := 13) rfl rfl rfl (fun c10 => absurd (rfl) c10) (fun _ => ?_)
    refine x_aload_n (pc' := 14) rfl rfl rfl ?_
    refine x_get (pc' := 17) rfl rfl rfl (hM.1) rfl ?_
    refine x_eqi hfu ?_
    exact x_ireturn rfl rfl rfl (Nat.le_of_ble_eq_true rfl) (Nat.le_of_ble_eq_true rfl) (h)
  ·
    refine x_iload_n (pc' := 1) rfl rfl rfl ?_
    refine x_iconst (pc' := 2) rfl rfl iconst_2 ?_
    refine x_icmp_ne (tgt := 9) (pc' := 5) rfl rfl rfl (fun _ => ?_) (fun c2 => absurd c2 ((by decide)))
    refine x_iload_n (pc' := 10) rfl rfl rfl ?_
    refine x_if_ne (tgt := 18) (pc' := 13) rfl rfl rfl (fun _ => ?_) (fun c10 => absurd c10 ((by decide)))
    refine x_iload_n (pc' := 19) rfl rfl rfl ?_
    refine x_iconst (pc' := 20) rfl rfl iconst_3 ?_
    refine x_icmp_ne (tgt := 32) (pc' := 23) rfl rfl rfl (fun _ => ?_) (fun c20 => absurd c20 ((by decide)))
    refine x_iload_n (pc' := 33) rfl rfl rfl ?_
    refine x_iconst (pc' := 34) rfl rfl iconst_5 ?_
    refine x_icmp_ne (tgt := 42) (pc' := 37) rfl rfl rfl (fun _ => ?_) (fun c34 => absurd c34 ((by decide)))
    refine x_aload_n (pc' := 43) rfl rfl rfl ?_
    refine x_get (pc' := 46) rfl rfl rfl (hM.1) rfl ?_
    refine x_eqi hfu ?_
    refine x_iconst (pc' := 47) rfl rfl iconst_1 ?_
    refine x_iadd (pc' := 48) rfl rfl ?_
    refine x_eqi hh ?_
    refine x_iconst (pc' := 49) rfl rfl iconst_2 ?_
    refine x_idiv (pc' := 50) rfl rfl (by decide) ?_
    refine x_eqi hd ?_
    exact x_ireturn rfl rfl rfl (Nat.le_refl _) (Nat.le_refl _) h
  ·
    refine x_iload_n (pc' := 1) rfl rfl rfl ?_
    refine x_iconst (pc' := 2) rfl rfl iconst_2 ?_
    refine x_icmp_ne (tgt := 9) (pc' := 5) rfl rfl rfl (fun c2 => absurd (rfl) c2) (fun _ => ?_)
    refine x_sipush (pc' := 8) rfl rfl sipush_1000 ?_
    exact x_ireturn rfl rfl rfl (Nat.le_of_ble_eq_true rfl) (Nat.le_of_ble_eq_true rfl) (h)
  ·
    refine x_iload_n (pc' := 1) rfl rfl rfl ?_
    refine x_iconst (pc' := 2) rfl rfl iconst_2 ?_
    refine x_icmp_ne (tgt := 9) (pc' := 5) rfl rfl rfl (fun _ => ?_) (fun c2 => absurd c2 ((by decide)))
    refine x_iload_n (pc' := 10) rfl rfl rfl ?_
    refine x_if_ne (tgt := 18) (pc' := 13) rfl rfl rfl (fun _ => ?_) (fun c10 => absurd c10 ((by decide)))
    refine x_iload_n (pc' := 19) rfl rfl rfl ?_
    refine x_iconst (pc' := 20) rfl rfl iconst_3 ?_
    refine x_icmp_ne (tgt := 32) (pc' := 23) rfl rfl rfl (fun c20 => absurd (rfl) c20) (fun _ => ?_)
    refine x_iconst (pc' := 24) rfl rfl iconst_2 ?_
    refine x_aload_n (pc' := 25) rfl rfl rfl ?_
    refine x_get (pc' := 28) rfl rfl rfl (hM.1) rfl ?_
    refine x_eqi hfu ?_
    refine x_imul (pc' := 29) rfl rfl ?_
    refine x_eqi hm ?_
    refine x_goto (tgt := 50) rfl rfl ?_
    exact x_ireturn rfl rfl rfl (Nat.le_of_ble_eq_true rfl) (Nat.le_of_ble_eq_true rfl) (h)
  ·
    refine x_iload_n (pc' := 1) rfl rfl rfl ?_
    refine x_iconst (pc' := 2) rfl rfl iconst_2 ?_
    refine x_icmp_ne (tgt := 9) (pc' := 5) rfl rfl rfl (fun _ => ?_) (fun c2 => absurd c2 ((by decide)))
    refine x_iload_n (pc' := 10) rfl rfl rfl ?_
    refine x_if_ne (tgt := 18) (pc' := 13) rfl rfl rfl (fun _ => ?_) (fun c10 => absurd c10 ((by decide)))
    refine x_iload_n (pc' := 19) rfl rfl rfl ?_
    refine x_iconst (pc' := 20) rfl rfl iconst_3 ?_
    refine x_icmp_ne (tgt := 32) (pc' := 23) rfl rfl rfl (fun _ => ?_) (fun c20 => absurd c20 ((by decide)))
    refine x_iload_n (pc' := 33) rfl rfl rfl ?_
    refine x_iconst (pc' := 34) rfl rfl iconst_5 ?_
    refine x_icmp_ne (tgt := 42) (pc' := 37) rfl rfl rfl (fun _ => ?_) (fun c34 => absurd c34 ((by decide)))
    refine x_aload_n (pc' := 43) rfl rfl rfl ?_
    refine x_get (pc' := 46) rfl rfl rfl (hM.1) rfl ?_
    refine x_eqi hfu ?_
    refine x_iconst (pc' := 47) rfl rfl iconst_1 ?_
    refine x_iadd (pc' := 48) rfl rfl ?_
    refine x_eqi hh ?_
    refine x_iconst (pc' := 49) rfl rfl iconst_2 ?_
    refine x_idiv (pc' := 50) rfl rfl (by decide) ?_
    refine x_eqi hd ?_
    exact x_ireturn rfl rfl rfl (Nat.le_refl _) (Nat.le_refl _) h
  ·
    refine x_iload_n (pc' := 1) rfl rfl rfl ?_
    refine x_iconst (pc' := 2) rfl rfl iconst_2 ?_
    refine x_icmp_ne (tgt := 9) (pc' := 5) rfl rfl rfl (fun _ => ?_) (fun c2 => absurd c2 ((by decide)))
    refine x_iload_n (pc' := 10) rfl rfl rfl ?_
    refine x_if_ne (tgt := 18) (pc' := 13) rfl rfl rfl (fun _ => ?_) (fun c10 => absurd c10 ((by decide)))
    refine x_iload_n (pc' := 19) rfl rfl rfl ?_
    refine x_iconst (pc' := 20) rfl rfl iconst_3 ?_
    refine x_icmp_ne (tgt := 32) (pc' := 23) rfl rfl rfl (fun _ => ?_) (fun c20 => absurd c20 ((by decide)))
    refine x_iload_n (pc' := 33) rfl rfl rfl ?_
    refine x_iconst (pc' := 34) rfl rfl iconst_5 ?_
    refine x_icmp_ne (tgt := 42) (pc' := 37) rfl rfl rfl (fun c34 => absurd (rfl) c34) (fun _ => ?_)
    refine x_bipush (pc' := 39) rfl rfl bipush_12 ?_
    refine x_goto (tgt := 50) rfl rfl ?_
    exact x_ireturn rfl rfl rfl (Nat.le_of_ble_eq_true rfl) (Nat.le_of_ble_eq_true rfl) (h)
theorem m_takes {i : Nat} (hM : x_Mdl z f M) (hn9 : n ≤ 9) (hfu : M.1 4 = nI fu) (hfu9 : fu < 2 ^ 31) (hκ : M.2.1 0 = fun i => nI (κ i)) (hβ : M.2.1 1 = fun i => nI (β i)) (hκ5 : ∀ i, κ i ≤ 5) (hβ5 : ∀ i, β i ≤ 100) (hi : i < n) (h1 : q_tk κ β fu i → post (some (.int 1)) f) (h0 : ¬ q_tk κ β fu i → post (some (.int 0)) f) : Y E 1 mX6_takes [.ref 59, .int (nI i)] z f 0 0 post := by
  refine Y.intro gX6_takes (lv := [(0, .ref 59), (1, .int (nI i))]) rfl (Nat.le_of_ble_eq_true rfl) ?_
  have hcl : (nI i).toNatClampNeg = i := nI_clamp (by omega)
  have e1 : M.2.1 1 (nI i).toNatClampNeg = nI (β i) := by rw [hcl, hβ]
  have e2 : M.2.1 0 (nI i).toNatClampNeg = nI (κ i) := by rw [hcl, hκ]
  have b1 := hβ5 i
  have b2 := hκ5 i
  have hv : vp_in (nI i) 9 := vp_in_nI (by omega) (by decide)
  refine x_aload_n (pc' := 1) rfl rfl rfl ?_
  refine x_get (pc' := 4) rfl rfl rfl (hM.1) rfl ?_
  refine x_iload_n (pc' := 5) rfl rfl rfl ?_
  refine x_iaload (pc' := 6) rfl rfl (hM.2.1 1 (by decide)) (hv) ?_
  refine x_eqi e1 ?_
  refine x_bipush (pc' := 8) rfl rfl bipush_99 ?_
  by_cases d1 : β i < 99
  · refine x_icmp_ge (tgt := 38) (pc' := 11) rfl rfl rfl (fun q => absurd q (nI_ge (b := 99) d1 (by decide))) (fun _ => ?_)
    refine x_aload_n (pc' := 12) rfl rfl rfl ?_
    refine x_get (pc' := 15) rfl rfl rfl (hM.1) rfl ?_
    refine x_iload_n (pc' := 16) rfl rfl rfl ?_
    refine x_iaload (pc' := 17) rfl rfl (hM.2.1 0 (by decide)) (hv) ?_
    refine x_eqi e2 ?_
    refine x_iconst (pc' := 18) rfl rfl iconst_4 ?_
    by_cases d2 : κ i = 4
    · refine x_icmp_ne (tgt := 34) (pc' := 21) rfl rfl rfl (fun q => absurd (show nI (κ i) = 4 by rw [d2]; decide) q) (fun _ => ?_)
      refine x_aload_n (pc' := 22) rfl rfl rfl ?_
      refine x_get (pc' := 25) rfl rfl rfl (hM.1) rfl ?_
      refine x_iload_n (pc' := 26) rfl rfl rfl ?_
      refine x_iaload (pc' := 27) rfl rfl (hM.2.1 1 (by decide)) (hv) ?_
      refine x_eqi e1 ?_
      refine x_aload_n (pc' := 28) rfl rfl rfl ?_
      refine x_get (pc' := 31) rfl rfl rfl (hM.1) rfl ?_
      refine x_eqi hfu ?_
      by_cases d3 : β i < fu
      · refine x_icmp_ge (tgt := 38) (pc' := 34) rfl rfl rfl (fun q => absurd q (nI_ge d3 hfu9)) (fun _ => ?_)
        refine x_iconst (pc' := 35) rfl rfl iconst_1 ?_
        refine x_goto (tgt := 39) rfl rfl ?_
        exact x_ireturn rfl rfl rfl (Nat.le_of_ble_eq_true rfl) (Nat.le_of_ble_eq_true rfl) (h1 ⟨d1, fun _ => d3⟩)
      · refine x_icmp_ge (tgt := 38) (pc' := 34) rfl rfl rfl (fun _ => ?_) (fun q => absurd (nI_le (a := fu) (b := β i) (by omega) (by omega)) q)
        refine x_iconst (pc' := 39) rfl rfl iconst_0 ?_
        exact x_ireturn rfl rfl rfl (Nat.le_of_ble_eq_true rfl) (Nat.le_of_ble_eq_true rfl) (h0 (fun q => d3 (q.2 d2)))
    · refine x_icmp_ne (tgt := 34) (pc' := 21) rfl rfl rfl (fun _ => ?_) (fun q => absurd ((nI_eq (a := κ i) (b := 4) (by omega) (by decide)).mp q) d2)
      refine x_iconst (pc' := 35) rfl rfl iconst_1 ?_
      refine x_goto (tgt := 39) rfl rfl ?_
      exact x_ireturn rfl rfl rfl (Nat.le_of_ble_eq_true rfl) (Nat.le_of_ble_eq_true rfl) (h1 ⟨d1, fun q => absurd q d2⟩)
  · refine x_icmp_ge (tgt := 38) (pc' := 11) rfl rfl rfl (fun _ => ?_) (fun q => absurd (nI_le (a := 99) (b := β i) (by omega) (by omega)) q)
    refine x_iconst (pc' := 39) rfl rfl iconst_0 ?_
    exact x_ireturn rfl rfl rfl (Nat.le_of_ble_eq_true rfl) (Nat.le_of_ble_eq_true rfl) (h0 (fun q => d1 q.1))
theorem m_beside {p : Nat} (hM : x_Mdl z f M) (hn : M.1 3 = nI n) (hn9 : n ≤ 9) (hln : M.1 5 = nI ln) (hln1 : ln < 2 ^ 31) (hp : p < n) (h : post (some (.int (nI (q_nx n ln p)))) f) : Y E 1 mX6_beside [.ref 59, .int (nI p)] z f 0 0 post := by
  refine Y.intro gX6_beside (lv := [(0, .ref 59), (1, .int (nI p))]) rfl (Nat.le_of_ble_eq_true rfl) ?_
  have hnz : ¬ nI n = 0 := nI_ne0 (by omega) (by omega)
  by_cases d1 : ln = 1
  · have e : q_nx n ln p = (p + n - 1) % n := by unfold q_nx; rw [if_pos d1, q_rem2 hp]
    rw [e] at h
    refine x_aload_n (pc' := 1) rfl rfl rfl ?_
    refine x_get (pc' := 4) rfl rfl rfl (hM.1) rfl ?_
    refine x_eqi hln ?_
    refine x_iconst (pc' := 5) rfl rfl iconst_1 ?_
    refine x_icmp_ne (tgt := 24) (pc' := 8) rfl rfl rfl (fun c5 => absurd ((by rw [d1]; rfl)) c5) (fun _ => ?_)
    refine x_iload_n (pc' := 9) rfl rfl rfl ?_
    refine x_aload_n (pc' := 10) rfl rfl rfl ?_
    refine x_get (pc' := 13) rfl rfl rfl (hM.1) rfl ?_
    refine x_eqi hn ?_
    refine x_iadd (pc' := 14) rfl rfl ?_
    refine x_eqi (nI_add p n) ?_
    refine x_iconst (pc' := 15) rfl rfl iconst_1 ?_
    refine x_isub (pc' := 16) rfl rfl ?_
    refine x_eqi (show nI (p + n) - 1 = nI (p + n - 1) from pk_sub (a := p + n) (b := 1) (by omega)) ?_
    refine x_aload_n (pc' := 17) rfl rfl rfl ?_
    refine x_get (pc' := 20) rfl rfl rfl (hM.1) rfl ?_
    refine x_eqi hn ?_
    refine x_irem (pc' := 21) rfl rfl (hnz) ?_
    refine x_goto (tgt := 32) rfl rfl ?_
    refine x_eqi (pk_rem (a := p + n - 1) (d := n) (by omega) (by omega) (by omega)) ?_
    exact x_ireturn rfl rfl rfl (Nat.le_refl _) (Nat.le_refl _) h
  · have hne : ¬ nI ln = 1 := fun q => d1 ((nI_eq (a := ln) (b := 1) hln1 (by decide)).mp q)
    have e : q_nx n ln p = (p + 1) % n := by unfold q_nx; rw [if_neg d1, q_rem1 hp]
    rw [e] at h
    refine x_aload_n (pc' := 1) rfl rfl rfl ?_
    refine x_get (pc' := 4) rfl rfl rfl (hM.1) rfl ?_
    refine x_eqi hln ?_
    refine x_iconst (pc' := 5) rfl rfl iconst_1 ?_
    refine x_icmp_ne (tgt := 24) (pc' := 8) rfl rfl rfl (fun _ => ?_) (fun c5 => absurd c5 (hne))
    refine x_iload_n (pc' := 25) rfl rfl rfl ?_
    refine x_iconst (pc' := 26) rfl rfl iconst_1 ?_
    refine x_iadd (pc' := 27) rfl rfl ?_
    refine x_eqi (nI_1 p) ?_
    refine x_aload_n (pc' := 28) rfl rfl rfl ?_
    refine x_get (pc' := 31) rfl rfl rfl (hM.1) rfl ?_
    refine x_eqi hn ?_
    refine x_irem (pc' := 32) rfl rfl (hnz) ?_
    refine x_eqi (pk_rem (a := p + 1) (d := n) (by omega) (by omega) (by omega)) ?_
    exact x_ireturn rfl rfl rfl (Nat.le_refl _) (Nat.le_refl _) h
theorem m_sowL (hn : M.1 3 = nI n) (hn9 : n ≤ 9) (hfu : M.1 4 = nI fu) (hfu9 : fu < 2 ^ 20) (hln : M.1 5 = nI ln) (hln9 : ln < 2 ^ 31) (hκ : M.2.1 0 = fun i => nI (κ i)) (hκ5 : ∀ i, κ i ≤ 5) (hb : b < n) (wf : q_W)
    (K : ∀ (g : x_H) (Mg : x_N), x_Mdl z g Mg → q_N M Mg wf.1 wf.2.2.2.2.2 → Mg.1 14 = M.1 14 → Mg.1 16 = M.1 16 → x_fr (fun q => q < 59) f g → X E (x_rm 2 0 0) mX6_sowsHand (x_QM E z 0 0 post) 87 [(4, .int (nI wf.2.2.2.1)), (5, .int (nI wf.2.1)), (3, .int (nI wf.2.2.2.2.1)), (2, .int (nI wf.2.2.1)), (0, .ref 59), (1, .int (nI b))] [] z g 0 0) :
    ∀ (k : Nat) (w : q_W) (g : x_H) (Mg : x_N), q_ms n w ≤ k → q_ok n 100 w → q_run κ n fu ln k w = wf → x_Mdl z g Mg → q_N M Mg w.1 w.2.2.2.2.2 → Mg.1 14 = M.1 14 → Mg.1 16 = M.1 16 → x_fr (fun q => q < 59) f g → X E (x_rm 2 0 0) mX6_sowsHand (x_QM E z 0 0 post) 22 [(4, .int (nI w.2.2.2.1)), (5, .int (nI w.2.1)), (3, .int (nI w.2.2.2.2.1)), (2, .int (nI w.2.2.1)), (0, .ref 59), (1, .int (nI b))] [] z g 0 0 := by
  intro k
  induction k with
  | zero =>
    intro w g Mg hk ho hw hM hN h14 h16 hF
    have hw0 : w = wf := hw
    subst hw0
    have h0 := q_msN (Nat.le_zero.mp hk) (by omega)
    refine x_iload_n (pc' := 23) rfl rfl rfl ?_
    refine x_if_le (tgt := 87) (pc' := 26) rfl rfl rfl (fun _ => ?_) (fun c23 => absurd ((by rw [h0]; decide)) c23)
    exact K g Mg hM hN h14 h16 hF
  | succ k ih =>
    intro w g Mg hk ho hw hM hN h14 h16 hF
    obtain ⟨o1, o2, o3, o4, o5⟩ := id ho
    obtain ⟨r1, r2, r3, r4, r5⟩ := id hN
    have hn' : Mg.1 3 = nI n := (r4 3 (by decide) (by decide) (by decide)).trans hn
    have hfu' : Mg.1 4 = nI fu := (r4 4 (by decide) (by decide) (by decide)).trans hfu
    have hln' : Mg.1 5 = nI ln := (r4 5 (by decide) (by decide) (by decide)).trans hln
    have hκ' : Mg.2.1 0 = fun i => nI (κ i) := (r2 0 (by decide)).trans hκ
    have hp' := q_nx_lt (ln := ln) o1
    by_cases d2 : 0 < w.2.2.1
    · by_cases d3 : w.2.2.2.1 < n
      · have hgo : q_run κ n fu ln (k + 1) w = q_run κ n fu ln k (q_st κ n fu ln w) := q_run_go ⟨d2, d3⟩
        have hms := q_ms_st (κ := κ) (fu := fu) (ln := ln) d2 d3
        have hok := q_ok_st (κ := κ) (fu := fu) (ln := ln) ho d2 d3
        have hcl : (nI (q_nx n ln w.2.1)).toNatClampNeg = q_nx n ln w.2.1 := nI_clamp (by omega)
        have hv : vp_in (nI (q_nx n ln w.2.1)) 9 := vp_in_nI (by omega) (by decide)
        refine x_iload_n (pc' := 23) rfl rfl rfl ?_
        refine x_if_le (tgt := 87) (pc' := 26) rfl rfl rfl (fun c23 => absurd c23 (Int32.not_le.mpr (nI_lt (a := 0) (b := w.2.2.1) d2 (by omega)))) (fun _ => ?_)
        refine x_iload (pc' := 28) rfl rfl rfl ?_
        refine x_aload_n (pc' := 29) rfl rfl rfl ?_
        refine x_get (pc' := 32) rfl rfl rfl (hM.1) rfl ?_
        refine x_eqi hn' ?_
        refine x_icmp_ge (tgt := 87) (pc' := 35) rfl rfl rfl (fun c32 => absurd c32 (nI_ge d3 (by omega))) (fun _ => ?_)
        refine x_aload_n (pc' := 36) rfl rfl rfl ?_
        refine x_iload (pc' := 38) rfl rfl rfl ?_
        refine x_cV1i (d := 1) (pc' := 41) rfl rfl sX6_70 gX6_beside (hM.1) ⟨Nat.le_of_ble_eq_true rfl, Nat.le_of_ble_eq_true rfl⟩ (Nat.le_of_ble_eq_true rfl) ⟨Nat.le_of_ble_eq_true rfl, Nat.le_of_ble_eq_true rfl⟩ ?_
        refine m_beside hM hn' hn9 hln' hln9 o1 ⟨_, rfl, ?_⟩
        refine x_istore (pc' := 43) (lv' := [(5, _), (4, _), (3, _), (2, _), (0, _), (1, _)]) rfl rfl (Nat.le_of_ble_eq_true rfl) rfl ?_
        refine x_aload_n (pc' := 44) rfl rfl rfl ?_
        refine x_iload (pc' := 46) rfl rfl rfl ?_
        refine x_cV1i (d := 1) (pc' := 49) rfl rfl sX6_74 gX6_takes (hM.1) ⟨Nat.le_of_ble_eq_true rfl, Nat.le_of_ble_eq_true rfl⟩ (Nat.le_of_ble_eq_true rfl) ⟨Nat.le_of_ble_eq_true rfl, Nat.le_of_ble_eq_true rfl⟩ ?_
        refine m_takes hM hn9 hfu' (by omega) hκ' r1 hκ5 o2 hp' (fun d4 => ⟨_, rfl, ?_⟩) (fun d4 => ⟨_, rfl, ?_⟩)
        · have est : q_st κ n fu ln w = (q_up w.1 (q_nx n ln w.2.1) (w.1 (q_nx n ln w.2.1) + 1), q_nx n ln w.2.1, w.2.2.1 - 1, 0, w.2.2.2.2.1 + 1, some (q_nx n ln w.2.1)) := by unfold q_st; rw [if_pos d4]
          rw [hgo, est] at hw
          rw [est] at hms hok
          refine x_if_eq (tgt := 81) (pc' := 52) rfl rfl rfl (fun c49 => absurd c49 ((by decide))) (fun _ => ?_)
          refine x_aload_n (pc' := 53) rfl rfl rfl ?_
          refine x_get (pc' := 56) rfl rfl rfl (hM.1) rfl ?_
          refine x_iload (pc' := 58) rfl rfl rfl ?_
          refine x_dup2 (pc' := 59) rfl rfl rfl rfl ?_
          refine x_iaload (pc' := 60) rfl rfl (hM.2.1 1 (by decide)) (hv) ?_
          refine x_eqi (show Mg.2.1 1 (nI (q_nx n ln w.2.1)).toNatClampNeg = nI (w.1 (q_nx n ln w.2.1)) from by rw [hcl, r1]) ?_
          refine x_iconst (pc' := 61) rfl rfl iconst_1 ?_
          refine x_iadd (pc' := 62) rfl rfl ?_
          refine x_eqi (nI_1 _) ?_
          refine x_iastore (pc' := 63) rfl rfl (hM.2.1 1 (by decide)) (hv) (fun f1 e1 => ?_)
          have hM1 := hM.arr 1 (by decide) e1
          have hF1 := hF.up e1 (by decide)
          rw [hcl, r1, q_up_I] at hM1
          refine x_iinc (pc' := 66) (lv' := [(2, _), (5, _), (4, _), (3, _), (0, _), (1, _)]) rfl rfl (Nat.le_of_ble_eq_true rfl) rfl (nI_m1 d2) rfl ?_
          refine x_iinc (pc' := 69) (lv' := [(3, _), (2, _), (5, _), (4, _), (0, _), (1, _)]) rfl rfl (Nat.le_of_ble_eq_true rfl) rfl (nI_1 _) rfl ?_
          refine x_iconst (pc' := 70) rfl rfl iconst_0 ?_
          refine x_istore (pc' := 72) (lv' := [(4, _), (3, _), (2, _), (5, _), (0, _), (1, _)]) rfl rfl (Nat.le_of_ble_eq_true rfl) rfl ?_
          refine x_aload_n (pc' := 73) rfl rfl rfl ?_
          refine x_iload (pc' := 75) rfl rfl rfl ?_
          refine x_put (pc' := 78) rfl rfl rfl (hM1.1) (Nat.le_of_ble_eq_true rfl) rfl rfl rfl rfl (fun f2 e2 => ?_)
          have hM2 := hM1.num 15 e2 (x_mFs15 _ _)
          have hF2 := hF1.up e2 (by decide)
          refine x_goto (tgt := 22) rfl rfl ?_
          refine x_lvp [0, 3, 1, 2, 4, 5] rfl ?_
          refine ih _ _ _ (by omega) hok hw hM2 ⟨rfl, fun j hj => ?_, r3, fun j g1 g2 g3 => ?_, rfl⟩ h14 h16 hF2
          · show x_ua Mg.2.1 1 _ j = _
            unfold x_ua
            rw [if_neg hj]
            exact r2 j hj
          · show upd Mg.1 15 _ j = _
            rw [pk_un g2]
            exact r4 j g1 g2 g3
        · have est : q_st κ n fu ln w = (w.1, q_nx n ln w.2.1, w.2.2.1, w.2.2.2.1 + 1, w.2.2.2.2.1, w.2.2.2.2.2) := by unfold q_st; rw [if_neg d4]
          rw [hgo, est] at hw
          rw [est] at hms hok
          refine x_if_eq (tgt := 81) (pc' := 52) rfl rfl rfl (fun _ => ?_) (fun c49 => absurd ((by decide)) c49)
          refine x_iinc (pc' := 84) (lv' := [(4, _), (5, _), (3, _), (2, _), (0, _), (1, _)]) rfl rfl (Nat.le_of_ble_eq_true rfl) rfl (nI_1 _) rfl ?_
          refine x_goto (tgt := 22) rfl rfl ?_
          exact ih _ _ _ (by omega) hok hw hM hN h14 h16 hF
      · have hst : q_run κ n fu ln (k + 1) w = w := q_run_stop (fun q => d3 q.2)
        rw [hst] at hw
        subst hw
        refine x_iload_n (pc' := 23) rfl rfl rfl ?_
        refine x_if_le (tgt := 87) (pc' := 26) rfl rfl rfl (fun c23 => absurd c23 (Int32.not_le.mpr (nI_lt (a := 0) (b := w.2.2.1) d2 (by omega)))) (fun _ => ?_)
        refine x_iload (pc' := 28) rfl rfl rfl ?_
        refine x_aload_n (pc' := 29) rfl rfl rfl ?_
        refine x_get (pc' := 32) rfl rfl rfl (hM.1) rfl ?_
        refine x_eqi hn' ?_
        refine x_icmp_ge (tgt := 87) (pc' := 35) rfl rfl rfl (fun _ => ?_) (fun c32 => absurd (nI_le (by omega) (by omega)) c32)
        exact K g Mg hM hN h14 h16 hF
    · have hst : q_run κ n fu ln (k + 1) w = w := q_run_stop (fun q => d2 q.1)
      rw [hst] at hw
      subst hw
      have h0 : w.2.2.1 = 0 := by omega
      refine x_iload_n (pc' := 23) rfl rfl rfl ?_
      refine x_if_le (tgt := 87) (pc' := 26) rfl rfl rfl (fun _ => ?_) (fun c23 => absurd ((by rw [h0]; decide)) c23)
      exact K g Mg hM hN h14 h16 hF
theorem m_sowsHand {hs s0 : Nat} (hM : x_Mdl z f M) (hn : M.1 3 = nI n) (hn9 : n ≤ 9) (hfu : M.1 4 = nI fu) (hfu9 : fu < 2 ^ 20) (hln : M.1 5 = nI ln) (hln9 : ln < 2 ^ 31) (hκ : M.2.1 0 = fun i => nI (κ i)) (hκ5 : ∀ i, κ i ≤ 5) (hβ : M.2.1 1 = fun i => nI (β i)) (hβ5 : ∀ i, β i ≤ 100) (hb : b < n) (hl : M.1 15 = q_lI l) (hl5 : ∀ p, l = some p → p < n) (h14 : M.1 14 = nI hs) (h16 : M.1 16 = nI s0)
    (h : ∀ (f' : x_H) (M' : x_N), x_Mdl z f' M' → q_N M M' (q_hand κ n fu ln β b l).1 (q_hand κ n fu ln β b l).2.2 → M'.1 14 = nI (hs + 1) → M'.1 16 = nI (s0 + (q_hand κ n fu ln β b l).2.1) → x_fr (fun q => q < 59) f f' → post (some (.int (nI (q_hand κ n fu ln β b l).2.1))) f') : Y E 2 mX6_sowsHand [.ref 59, .int (nI b)] z f 0 0 post := by
  refine Y.intro gX6_sowsHand (lv := [(0, .ref 59), (1, .int (nI b))]) rfl (Nat.le_of_ble_eq_true rfl) ?_
  have hcl : (nI b).toNatClampNeg = b := nI_clamp (by omega)
  have e1 : M.2.1 1 (nI b).toNatClampNeg = nI (β b) := by rw [hcl, hβ]
  have hv : vp_in (nI b) 9 := vp_in_nI (by omega) (by decide)
  have hb100 := hβ5 b
  have hok : q_ok n 100 (q_up β b 0, b, β b, 0, 0, l) := ⟨hb, q_up_le hβ5 (by omega), Nat.zero_le _, by show 0 + β b ≤ 100; omega, hl5⟩
  have hokf := q_ok_run (κ := κ) (fu := fu) (ln := ln) 1000 _ hok
  have hms : q_ms n (q_up β b 0, b, β b, 0, 0, l) ≤ 1000 := by
    show β b * n + (n - 0) ≤ 1000
    have := Nat.mul_le_mul hb100 hn9
    omega
  refine x_aload_n (pc' := 1) rfl rfl rfl ?_
  refine x_get (pc' := 4) rfl rfl rfl (hM.1) rfl ?_
  refine x_iload_n (pc' := 5) rfl rfl rfl ?_
  refine x_iaload (pc' := 6) rfl rfl (hM.2.1 1 (by decide)) (hv) ?_
  refine x_eqi e1 ?_
  refine x_istore_n (pc' := 7) (lv' := [(2, _), (0, _), (1, _)]) rfl rfl (Nat.le_of_ble_eq_true rfl) rfl ?_
  refine x_iconst (pc' := 8) rfl rfl iconst_0 ?_
  refine x_istore_n (pc' := 9) (lv' := [(3, _), (2, _), (0, _), (1, _)]) rfl rfl (Nat.le_of_ble_eq_true rfl) rfl ?_
  refine x_iconst (pc' := 10) rfl rfl iconst_0 ?_
  refine x_istore (pc' := 12) (lv' := [(4, _), (3, _), (2, _), (0, _), (1, _)]) rfl rfl (Nat.le_of_ble_eq_true rfl) rfl ?_
  refine x_iload_n (pc' := 13) rfl rfl rfl ?_
  refine x_istore (pc' := 15) (lv' := [(5, _), (4, _), (3, _), (2, _), (0, _), (1, _)]) rfl rfl (Nat.le_of_ble_eq_true rfl) rfl ?_
  refine x_aload_n (pc' := 16) rfl rfl rfl ?_
  refine x_get (pc' := 19) rfl rfl rfl (hM.1) rfl ?_
  refine x_iload_n (pc' := 20) rfl rfl rfl ?_
  refine x_iconst (pc' := 21) rfl rfl iconst_0 ?_
  refine x_iastore (pc' := 22) rfl rfl (hM.2.1 1 (by decide)) (hv) (fun f1 e1 => ?_)
  have hM1 := hM.arr 1 (by decide) e1
  have hF1 := (x_fr.rf (P := fun q => q < 59)).up e1 (by decide)
  rw [hcl, hβ, show (0 : Int32) = nI 0 from by decide, q_up_I] at hM1
  refine x_lvp [1, 0, 2, 3, 4, 5] rfl ?_
  refine m_sowL (M := M) (f := f) hn hn9 hfu hfu9 hln hln9 hκ hκ5 hb (q_run κ n fu ln 1000 (q_up β b 0, b, β b, 0, 0, l)) ?_ 1000 (q_up β b 0, b, β b, 0, 0, l) f1 _ hms hok rfl hM1 ⟨rfl, fun j hj => if_neg hj, rfl, fun _ _ _ _ => rfl, hl⟩ rfl rfl hF1
  intro g Mg hMg hNg g14 g16 hFg
  obtain ⟨o1, o2, o3, o4, o5⟩ := hokf
  obtain ⟨r1, r2, r3, r4, r5⟩ := id hNg
  generalize hwf : q_run κ n fu ln 1000 (q_up β b 0, b, β b, 0, 0, l) = wf at *
  have eh : q_hand κ n fu ln β b l = (q_up wf.1 b (wf.1 b + wf.2.2.1), wf.2.2.2.2.1, wf.2.2.2.2.2) := by unfold q_hand; rw [hwf]
  rw [eh] at h
  refine x_aload_n (pc' := 88) rfl rfl rfl ?_
  refine x_get (pc' := 91) rfl rfl rfl (hMg.1) rfl ?_
  refine x_iload_n (pc' := 92) rfl rfl rfl ?_
  refine x_dup2 (pc' := 93) rfl rfl rfl rfl ?_
  refine x_iaload (pc' := 94) rfl rfl (hMg.2.1 1 (by decide)) (hv) ?_
  refine x_eqi (show Mg.2.1 1 (nI b).toNatClampNeg = nI (wf.1 b) from by rw [hcl, r1]) ?_
  refine x_iload_n (pc' := 95) rfl rfl rfl ?_
  refine x_iadd (pc' := 96) rfl rfl ?_
  refine x_eqi (nI_add _ _) ?_
  refine x_iastore (pc' := 97) rfl rfl (hMg.2.1 1 (by decide)) (hv) (fun f2 e2 => ?_)
  have hM2 := hMg.arr 1 (by decide) e2
  have hF2 := hFg.up e2 (by decide)
  rw [hcl, r1, q_up_I] at hM2
  refine x_aload_n (pc' := 98) rfl rfl rfl ?_
  refine x_dup (pc' := 99) rfl rfl rfl ?_
  refine x_get (pc' := 102) rfl rfl rfl (hM2.1) rfl ?_
  refine x_eqi (show Mg.1 14 = nI hs from g14.trans h14) ?_
  refine x_iconst (pc' := 103) rfl rfl iconst_1 ?_
  refine x_iadd (pc' := 104) rfl rfl ?_
  refine x_eqi (nI_1 _) ?_
  refine x_put (pc' := 107) rfl rfl rfl (hM2.1) (Nat.le_of_ble_eq_true rfl) rfl rfl rfl rfl (fun f3 e3 => ?_)
  have hM3 := hM2.num 14 e3 (x_mFs14 _ _)
  have hF3 := hF2.up e3 (by decide)
  refine x_aload_n (pc' := 108) rfl rfl rfl ?_
  refine x_dup (pc' := 109) rfl rfl rfl ?_
  refine x_get (pc' := 112) rfl rfl rfl (hM3.1) rfl ?_
  refine x_eqi (show Mg.1 16 = nI s0 from g16.trans h16) ?_
  refine x_iload_n (pc' := 113) rfl rfl rfl ?_
  refine x_iadd (pc' := 114) rfl rfl ?_
  refine x_eqi (nI_add _ _) ?_
  refine x_put (pc' := 117) rfl rfl rfl (hM3.1) (Nat.le_of_ble_eq_true rfl) rfl rfl rfl rfl (fun f4 e4 => ?_)
  have hM4 := hM3.num 16 e4 (x_mFs16 _ _)
  have hF4 := hF3.up e4 (by decide)
  refine x_iload_n (pc' := 118) rfl rfl rfl ?_
  exact x_ireturn rfl rfl rfl (Nat.le_of_ble_eq_true rfl) (Nat.le_of_ble_eq_true rfl) (h _ _ hM4 ⟨rfl, fun j hj => (if_neg hj).trans (r2 j hj), r3, fun j a1 a2 a3 => (pk_un a3).trans ((pk_un a1).trans (r4 j a1 a2 a3)), r5⟩ rfl rfl hF4)
end MSOW
