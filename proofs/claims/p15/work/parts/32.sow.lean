/-! The class's Table sows a hand, takes a single one. -/
theorem q_msN {n : Nat} {w : q_W} (h : q_ms n w = 0) (hn : 0 < n) : w.2.2.1 = 0 := by
  unfold q_ms at h
  have h1 : w.2.2.1 * n = 0 := by omega
  rcases Nat.mul_eq_zero.mp h1 with h2 | h2
  · exact h2
  · omega
/-- what was sown has a last one -/
def q_lst (n : Nat) (w : q_W) : Prop := 0 < w.2.2.2.2.1 → ∃ p, w.2.2.2.2.2 = some p ∧ p < n
theorem q_lst_run {κ : Nat → Nat} {n fu ln B : Nat} : ∀ (k : Nat) (w : q_W), q_ok n B w → q_lst n w → q_lst n (q_run κ n fu ln k w)
  | 0, w, _, h => h
  | k + 1, w, ho, h => by
    by_cases hg : 0 < w.2.2.1 ∧ w.2.2.2.1 < n
    · rw [q_run_go hg]
      refine q_lst_run k _ (q_ok_st ho hg.1 hg.2) ?_
      unfold q_st
      split
      · intro _
        exact ⟨_, rfl, q_nx_lt ho.1⟩
      · exact h
    · rw [q_run_stop hg]
      exact h
def q_R (T T' : x_T) (β : Nat → Nat) (l : Option Nat) (s : Nat) : Prop := T'.1 = T.1 ∧ T'.2.1 = (fun i => nI (β i)) ∧ T'.2.2.1 = T.2.2.1 ∧ (∀ i, i ≠ 6 → i ≠ 7 → T'.2.2.2 i = T.2.2.2 i) ∧ T'.2.2.2 6 = q_lI l ∧ T'.2.2.2 7 = nI s
theorem nI_m1 {h : Nat} (h0 : 0 < h) : nI h + Int32.ofInt (-1) = nI (h - 1) := by
  obtain ⟨m, rfl⟩ : ∃ m, h = m + 1 := ⟨h - 1, by omega⟩
  rw [show Int32.ofInt (-1) = -1 from by decide, pk_m1]
  rfl
section SOW
variable {E : x_E} {z : Nat} {f : x_H} {t : Nat} {T : x_T} {post : Option Value → x_H → Prop} {n fu ln b s0 : Nat} {κ β : Nat → Nat} {l : Option Nat}
theorem w_sowL (hn : T.2.2.2 0 = nI n) (hn9 : n ≤ 9) (hfu : T.2.2.2 1 = nI fu) (hfu9 : fu < 2 ^ 20) (hln : T.2.2.2 2 = nI ln) (hln9 : ln < 2 ^ 31) (hκ : T.1 = fun i => nI (κ i)) (hκ5 : ∀ i, κ i ≤ 5) (hb : b < n) (hs0 : s0 ≤ 1000000) (wf : q_W)
    (K : ∀ (i : Nat) (g : x_H) (Tg : x_T), x_t z g t Tg → q_R T Tg wf.1 wf.2.2.2.2.2 (s0 + wf.2.2.2.2.1) → x_fr (x_ot t) f g → X E (x_rm 3 0 0) mX3_sowHand (x_QM E z 0 0 post) 109 [(6, .int (nI i)), (4, .int (nI wf.2.2.2.1)), (5, .int (nI wf.2.1)), (2, .int (nI wf.2.2.1)), (3, .int (nI s0)), (0, .ref t), (1, .int (nI b))] [] z g 0 0) :
    ∀ (k i : Nat) (w : q_W) (g : x_H) (Tg : x_T), q_ms n w ≤ k → i + k ≤ 1000 → q_ok n 100 w → q_run κ n fu ln k w = wf → x_t z g t Tg → q_R T Tg w.1 w.2.2.2.2.2 (s0 + w.2.2.2.2.1) → x_fr (x_ot t) f g → X E (x_rm 3 0 0) mX3_sowHand (x_QM E z 0 0 post) 26 [(6, .int (nI i)), (4, .int (nI w.2.2.2.1)), (5, .int (nI w.2.1)), (2, .int (nI w.2.2.1)), (3, .int (nI s0)), (0, .ref t), (1, .int (nI b))] [] z g 0 0 := by
  intro k
  induction k with
  | zero =>
    intro i w g Tg hk hi ho hw hT hR hF
    have hw0 : w = wf := hw
    subst hw0
    have h0 := q_msN (Nat.le_zero.mp hk) (by omega)
    by_cases d1 : 1000 ≤ i
    ·
      refine x_iload (pc' := 28) rfl rfl rfl ?_
      refine x_sipush (pc' := 31) rfl rfl sipush_1000 ?_
      refine x_icmp_ge (tgt := 109) (pc' := 34) rfl rfl rfl (fun _ => ?_) (fun c31 => absurd (nI_le (a := 1000) (b := i) d1 (by omega)) c31)
      exact K i g Tg hT hR hF
    ·
      refine x_iload (pc' := 28) rfl rfl rfl ?_
      refine x_sipush (pc' := 31) rfl rfl sipush_1000 ?_
      refine x_icmp_ge (tgt := 109) (pc' := 34) rfl rfl rfl (fun c31 => absurd c31 (nI_ge (a := i) (b := 1000) (by omega) (by decide))) (fun _ => ?_)
      refine x_iload_n (pc' := 35) rfl rfl rfl ?_
      refine x_if_le (tgt := 109) (pc' := 38) rfl rfl rfl (fun _ => ?_) (fun c35 => absurd ((by rw [h0]; decide)) c35)
      exact K i g Tg hT hR hF
  | succ k ih =>
    intro i w g Tg hk hi ho hw hT hR hF
    obtain ⟨o1, o2, o3, o4, o5⟩ := id ho
    obtain ⟨r1, r2, r3, r4, r5, r6⟩ := id hR
    have hn' : Tg.2.2.2 0 = nI n := (r4 0 (by decide) (by decide)).trans hn
    have hfu' : Tg.2.2.2 1 = nI fu := (r4 1 (by decide) (by decide)).trans hfu
    have hln' : Tg.2.2.2 2 = nI ln := (r4 2 (by decide) (by decide)).trans hln
    have hκ' : Tg.1 = fun i => nI (κ i) := r1.trans hκ
    have hp' := q_nx_lt (ln := ln) o1
    by_cases d2 : 0 < w.2.2.1
    · by_cases d3 : w.2.2.2.1 < n
      · have hgo : q_run κ n fu ln (k + 1) w = q_run κ n fu ln k (q_st κ n fu ln w) := q_run_go ⟨d2, d3⟩
        have hms := q_ms_st (κ := κ) (fu := fu) (ln := ln) d2 d3
        have hok := q_ok_st (κ := κ) (fu := fu) (ln := ln) ho d2 d3
        have hcl : (nI (q_nx n ln w.2.1)).toNatClampNeg = q_nx n ln w.2.1 := nI_clamp (by omega)
        refine x_iload (pc' := 28) rfl rfl rfl ?_
        refine x_sipush (pc' := 31) rfl rfl sipush_1000 ?_
        refine x_icmp_ge (tgt := 109) (pc' := 34) rfl rfl rfl (fun c31 => absurd c31 (nI_ge (a := i) (b := 1000) (by omega) (by decide))) (fun _ => ?_)
        refine x_iload_n (pc' := 35) rfl rfl rfl ?_
        refine x_if_le (tgt := 109) (pc' := 38) rfl rfl rfl (fun c35 => absurd c35 (Int32.not_le.mpr (nI_lt (a := 0) (b := w.2.2.1) d2 (by omega)))) (fun _ => ?_)
        refine x_iload (pc' := 40) rfl rfl rfl ?_
        refine x_aload_n (pc' := 41) rfl rfl rfl ?_
        refine x_get (pc' := 44) rfl rfl rfl (hT.1) rfl ?_
        refine x_eqi hn' ?_
        refine x_icmp_ge (tgt := 109) (pc' := 47) rfl rfl rfl (fun c44 => absurd c44 (nI_ge d3 (by omega))) (fun _ => ?_)
        refine x_aload_n (pc' := 48) rfl rfl rfl ?_
        refine x_iload (pc' := 50) rfl rfl rfl ?_
        refine x_cV1i (d := 1) (pc' := 53) rfl rfl sX3_83 gX3_rightOrLeftOf (hT.1) ⟨Nat.le_of_ble_eq_true rfl, Nat.le_of_ble_eq_true rfl⟩ (Nat.le_of_ble_eq_true rfl) ⟨Nat.le_of_ble_eq_true rfl, Nat.le_of_ble_eq_true rfl⟩ ?_
        refine w_nx hT hn' hn9 hln' hln9 o1 ⟨_, rfl, ?_⟩
        refine x_istore (pc' := 55) (lv' := [(5, _), (6, _), (4, _), (2, _), (3, _), (0, _), (1, _)]) rfl rfl (Nat.le_of_ble_eq_true rfl) rfl ?_
        refine x_aload_n (pc' := 56) rfl rfl rfl ?_
        refine x_iload (pc' := 58) rfl rfl rfl ?_
        refine x_cV1i (d := 2) (pc' := 61) rfl rfl sX3_86 gX3_takes (hT.1) ⟨Nat.le_of_ble_eq_true rfl, Nat.le_of_ble_eq_true rfl⟩ (Nat.le_of_ble_eq_true rfl) ⟨Nat.le_of_ble_eq_true rfl, Nat.le_of_ble_eq_true rfl⟩ ?_
        refine w_takes hT hn' hn9 hfu' (by omega) hκ' r2 hκ5 o2 hp' (fun d4 => ⟨_, rfl, ?_⟩) (fun d4 => ⟨_, rfl, ?_⟩)
        · have est : q_st κ n fu ln w = (q_up w.1 (q_nx n ln w.2.1) (w.1 (q_nx n ln w.2.1) + 1), q_nx n ln w.2.1, w.2.2.1 - 1, 0, w.2.2.2.2.1 + 1, some (q_nx n ln w.2.1)) := by unfold q_st; rw [if_pos d4]
          rw [hgo, est] at hw
          rw [est] at hms hok
          refine x_if_eq (tgt := 100) (pc' := 64) rfl rfl rfl (fun c61 => absurd c61 ((by decide))) (fun _ => ?_)
          refine x_aload_n (pc' := 65) rfl rfl rfl ?_
          refine x_get (pc' := 68) rfl rfl rfl (hT.1) rfl ?_
          refine x_iload (pc' := 70) rfl rfl rfl ?_
          refine x_dup2 (pc' := 71) rfl rfl rfl rfl ?_
          refine x_iaload (pc' := 72) rfl rfl (hT.2.2.1) (nI_in9 hn' hn9 hp') ?_
          refine x_eqi (show Tg.2.1 (nI (q_nx n ln w.2.1)).toNatClampNeg = nI (w.1 (q_nx n ln w.2.1)) from by rw [hcl, r2]) ?_
          refine x_iconst (pc' := 73) rfl rfl iconst_1 ?_
          refine x_iadd (pc' := 74) rfl rfl ?_
          refine x_eqi (nI_1 _) ?_
          refine x_iastore (pc' := 75) rfl rfl (hT.2.2.1) (nI_in9 hn' hn9 hp') (fun f1 e1 => ?_)
          have hT1 := hT.bean e1
          have hF1 := hF.up e1 (x_ot_in (by omega) (by omega))
          rw [hcl, r2, q_up_I] at hT1
          refine x_iinc (pc' := 78) (lv' := [(2, _), (5, _), (6, _), (4, _), (3, _), (0, _), (1, _)]) rfl rfl (Nat.le_of_ble_eq_true rfl) rfl (nI_m1 d2) rfl ?_
          refine x_aload_n (pc' := 79) rfl rfl rfl ?_
          refine x_dup (pc' := 80) rfl rfl rfl ?_
          refine x_get (pc' := 83) rfl rfl rfl (hT1.1) rfl ?_
          refine x_eqi r6 ?_
          refine x_iconst (pc' := 84) rfl rfl iconst_1 ?_
          refine x_iadd (pc' := 85) rfl rfl ?_
          refine x_eqi (nI_1 _) ?_
          refine x_put (pc' := 88) rfl rfl rfl (hT1.1) (Nat.le_of_ble_eq_true rfl) rfl rfl rfl rfl (fun f2 e2 => ?_)
          have hT2 := hT1.num 7 e2 (x_tFs7 _ _ _)
          have hF2 := hF1.up e2 (x_ot_in (by omega) (by omega))
          refine x_aload_n (pc' := 89) rfl rfl rfl ?_
          refine x_iload (pc' := 91) rfl rfl rfl ?_
          refine x_put (pc' := 94) rfl rfl rfl (hT2.1) (Nat.le_of_ble_eq_true rfl) rfl rfl rfl rfl (fun f3 e3 => ?_)
          have hT3 := hT2.num 6 e3 (x_tFs6 _ _ _)
          have hF3 := hF2.up e3 (x_ot_in (by omega) (by omega))
          refine x_iconst (pc' := 95) rfl rfl iconst_0 ?_
          refine x_istore (pc' := 97) (lv' := [(4, _), (2, _), (5, _), (6, _), (3, _), (0, _), (1, _)]) rfl rfl (Nat.le_of_ble_eq_true rfl) rfl ?_
          refine x_goto (tgt := 103) rfl rfl ?_
          refine x_iinc (pc' := 106) (lv' := [(6, _), (4, _), (2, _), (5, _), (3, _), (0, _), (1, _)]) rfl rfl (Nat.le_of_ble_eq_true rfl) rfl (nI_1 i) rfl ?_
          refine x_goto (tgt := 26) rfl rfl ?_
          refine x_lvp [0, 1, 3, 2, 4, 5, 6] rfl ?_
          refine ih (i + 1) _ _ _ (by omega) (by omega) hok hw hT3 ⟨r1, rfl, r3, fun j h6 h7 => ?_, rfl, rfl⟩ hF3
          show upd (upd Tg.2.2.2 7 _) 6 _ j = _
          rw [pk_un h6, pk_un h7]
          exact r4 j h6 h7
        · have est : q_st κ n fu ln w = (w.1, q_nx n ln w.2.1, w.2.2.1, w.2.2.2.1 + 1, w.2.2.2.2.1, w.2.2.2.2.2) := by unfold q_st; rw [if_neg d4]
          rw [hgo, est] at hw
          rw [est] at hms hok
          refine x_if_eq (tgt := 100) (pc' := 64) rfl rfl rfl (fun _ => ?_) (fun c61 => absurd ((by decide)) c61)
          refine x_iinc (pc' := 103) (lv' := [(4, _), (5, _), (6, _), (2, _), (3, _), (0, _), (1, _)]) rfl rfl (Nat.le_of_ble_eq_true rfl) rfl (nI_1 _) rfl ?_
          refine x_iinc (pc' := 106) (lv' := [(6, _), (4, _), (5, _), (2, _), (3, _), (0, _), (1, _)]) rfl rfl (Nat.le_of_ble_eq_true rfl) rfl (nI_1 i) rfl ?_
          refine x_goto (tgt := 26) rfl rfl ?_
          refine x_lvp [0, 1, 2, 3, 4, 5, 6] rfl ?_
          exact ih (i + 1) _ _ _ (by omega) (by omega) hok hw hT hR hF
      · have hst : q_run κ n fu ln (k + 1) w = w := q_run_stop (fun q => d3 q.2)
        rw [hst] at hw
        subst hw
        refine x_iload (pc' := 28) rfl rfl rfl ?_
        refine x_sipush (pc' := 31) rfl rfl sipush_1000 ?_
        refine x_icmp_ge (tgt := 109) (pc' := 34) rfl rfl rfl (fun c31 => absurd c31 (nI_ge (a := i) (b := 1000) (by omega) (by decide))) (fun _ => ?_)
        refine x_iload_n (pc' := 35) rfl rfl rfl ?_
        refine x_if_le (tgt := 109) (pc' := 38) rfl rfl rfl (fun c35 => absurd c35 (Int32.not_le.mpr (nI_lt (a := 0) (b := w.2.2.1) d2 (by omega)))) (fun _ => ?_)
        refine x_iload (pc' := 40) rfl rfl rfl ?_
        refine x_aload_n (pc' := 41) rfl rfl rfl ?_
        refine x_get (pc' := 44) rfl rfl rfl (hT.1) rfl ?_
        refine x_eqi hn' ?_
        refine x_icmp_ge (tgt := 109) (pc' := 47) rfl rfl rfl (fun _ => ?_) (fun c44 => absurd (nI_le (by omega) (by omega)) c44)
        exact K i g Tg hT hR hF
    · have hst : q_run κ n fu ln (k + 1) w = w := q_run_stop (fun q => d2 q.1)
      rw [hst] at hw
      subst hw
      have h0 : w.2.2.1 = 0 := by omega
      refine x_iload (pc' := 28) rfl rfl rfl ?_
      refine x_sipush (pc' := 31) rfl rfl sipush_1000 ?_
      refine x_icmp_ge (tgt := 109) (pc' := 34) rfl rfl rfl (fun c31 => absurd c31 (nI_ge (a := i) (b := 1000) (by omega) (by decide))) (fun _ => ?_)
      refine x_iload_n (pc' := 35) rfl rfl rfl ?_
      refine x_if_le (tgt := 109) (pc' := 38) rfl rfl rfl (fun _ => ?_) (fun c35 => absurd ((by rw [h0]; decide)) c35)
      exact K i g Tg hT hR hF
theorem w_sowHand (hT : x_t z f t T) (hn : T.2.2.2 0 = nI n) (hn9 : n ≤ 9) (hfu : T.2.2.2 1 = nI fu) (hfu9 : fu < 2 ^ 20) (hln : T.2.2.2 2 = nI ln) (hln9 : ln < 2 ^ 31) (hκ : T.1 = fun i => nI (κ i)) (hκ5 : ∀ i, κ i ≤ 5) (hβ : T.2.1 = fun i => nI (β i)) (hβ5 : ∀ i, β i ≤ 100) (hb : b < n) (hl : T.2.2.2 6 = q_lI l) (hl5 : ∀ p, l = some p → p < n) (h7 : T.2.2.2 7 = nI s0) (hs0 : s0 ≤ 1000000)
    (h : ∀ (f' : x_H) (T' : x_T), x_t z f' t T' → q_R T T' (q_hand κ n fu ln β b l).1 (q_hand κ n fu ln β b l).2.2 (s0 + (q_hand κ n fu ln β b l).2.1) → x_fr (x_ot t) f f' → post (some (.int (if 0 < (q_hand κ n fu ln β b l).2.1 then 1 else 0))) f') : Y E 3 mX3_sowHand [.ref t, .int (nI b)] z f 0 0 post := by
  refine Y.intro gX3_sowHand (lv := [(0, .ref t), (1, .int (nI b))]) rfl (Nat.le_of_ble_eq_true rfl) ?_
  have hcl : (nI b).toNatClampNeg = b := nI_clamp (by omega)
  have e1 : T.2.1 (nI b).toNatClampNeg = nI (β b) := by rw [hcl, hβ]
  have hb100 := hβ5 b
  have hok : q_ok n 100 (q_up β b 0, b, β b, 0, 0, l) := ⟨hb, q_up_le hβ5 (by omega), Nat.zero_le _, by show 0 + β b ≤ 100; omega, hl5⟩
  have hokf := q_ok_run (κ := κ) (fu := fu) (ln := ln) 1000 _ hok
  have hms : q_ms n (q_up β b 0, b, β b, 0, 0, l) ≤ 1000 := by
    show β b * n + (n - 0) ≤ 1000
    have := Nat.mul_le_mul hb100 hn9
    omega
  refine x_aload_n (pc' := 1) rfl rfl rfl ?_
  refine x_iload_n (pc' := 2) rfl rfl rfl ?_
  refine x_cV1i (d := 2) (pc' := 5) rfl rfl sX3_59 gX3_beansOf (hT.1) ⟨Nat.le_of_ble_eq_true rfl, Nat.le_of_ble_eq_true rfl⟩ (Nat.le_of_ble_eq_true rfl) ⟨Nat.le_of_ble_eq_true rfl, Nat.le_of_ble_eq_true rfl⟩ ?_
  refine w_beansOf hT (fun g => ⟨_, rfl, ?_⟩) (fun g => absurd (t_has_nI hn hn9 hb) g)
  refine x_eqi e1 ?_
  refine x_istore_n (pc' := 6) (lv' := [(2, _), (0, _), (1, _)]) rfl rfl (Nat.le_of_ble_eq_true rfl) rfl ?_
  refine x_aload_n (pc' := 7) rfl rfl rfl ?_
  refine x_get (pc' := 10) rfl rfl rfl (hT.1) rfl ?_
  refine x_eqi h7 ?_
  refine x_istore_n (pc' := 11) (lv' := [(3, _), (2, _), (0, _), (1, _)]) rfl rfl (Nat.le_of_ble_eq_true rfl) rfl ?_
  refine x_iconst (pc' := 12) rfl rfl iconst_0 ?_
  refine x_istore (pc' := 14) (lv' := [(4, _), (3, _), (2, _), (0, _), (1, _)]) rfl rfl (Nat.le_of_ble_eq_true rfl) rfl ?_
  refine x_iload_n (pc' := 15) rfl rfl rfl ?_
  refine x_istore (pc' := 17) (lv' := [(5, _), (4, _), (3, _), (2, _), (0, _), (1, _)]) rfl rfl (Nat.le_of_ble_eq_true rfl) rfl ?_
  refine x_aload_n (pc' := 18) rfl rfl rfl ?_
  refine x_iload_n (pc' := 19) rfl rfl rfl ?_
  refine x_iconst (pc' := 20) rfl rfl iconst_0 ?_
  refine x_cV2v (d := 2) (pc' := 23) rfl rfl sX3_63 gX3_lay (hT.1) ⟨Nat.le_of_ble_eq_true rfl, Nat.le_of_ble_eq_true rfl⟩ (Nat.le_of_ble_eq_true rfl) ⟨Nat.le_of_ble_eq_true rfl, Nat.le_of_ble_eq_true rfl⟩ ?_
  refine w_lay hT (fun _ f1 hT1 hF1 => ⟨rfl, ?_⟩) (fun g => absurd (t_has_nI hn hn9 hb) g)
  rw [hcl, hβ, show (0 : Int32) = nI 0 from by decide, q_up_I] at hT1
  refine x_iconst (pc' := 24) rfl rfl iconst_0 ?_
  refine x_istore (pc' := 26) (lv' := [(6, _), (5, _), (4, _), (3, _), (2, _), (0, _), (1, _)]) rfl rfl (Nat.le_of_ble_eq_true rfl) rfl ?_
  refine x_lvp [0, 2, 1, 4, 3, 5, 6] rfl ?_
  refine w_sowL (T := T) (f := f) hn hn9 hfu hfu9 hln hln9 hκ hκ5 hb hs0 (q_run κ n fu ln 1000 (q_up β b 0, b, β b, 0, 0, l)) ?_ 1000 0 (q_up β b 0, b, β b, 0, 0, l) f1 _ hms (by omega) hok rfl hT1 ⟨rfl, rfl, rfl, fun _ _ _ => rfl, hl, h7⟩ hF1
  intro i g Tg hTg hRg hFg
  obtain ⟨o1, o2, o3, o4, o5⟩ := hokf
  obtain ⟨r1, r2, r3, r4, r5, r6⟩ := id hRg
  have hn' : Tg.2.2.2 0 = nI n := (r4 0 (by decide) (by decide)).trans hn
  generalize hwf : q_run κ n fu ln 1000 (q_up β b 0, b, β b, 0, 0, l) = wf at *
  have eh : q_hand κ n fu ln β b l = (q_up wf.1 b (wf.1 b + wf.2.2.1), wf.2.2.2.2.1, wf.2.2.2.2.2) := by unfold q_hand; rw [hwf]
  rw [eh] at h
  refine x_aload_n (pc' := 110) rfl rfl rfl ?_
  refine x_iload_n (pc' := 111) rfl rfl rfl ?_
  refine x_aload_n (pc' := 112) rfl rfl rfl ?_
  refine x_iload_n (pc' := 113) rfl rfl rfl ?_
  refine x_cV1i (d := 2) (pc' := 116) rfl rfl sX3_59 gX3_beansOf (hTg.1) ⟨Nat.le_of_ble_eq_true rfl, Nat.le_of_ble_eq_true rfl⟩ (Nat.le_of_ble_eq_true rfl) ⟨Nat.le_of_ble_eq_true rfl, Nat.le_of_ble_eq_true rfl⟩ ?_
  refine w_beansOf hTg (fun g => ⟨_, rfl, ?_⟩) (fun g => absurd (t_has_nI hn' hn9 hb) g)
  refine x_eqi (show Tg.2.1 (nI b).toNatClampNeg = nI (wf.1 b) from by rw [hcl, r2]) ?_
  refine x_iload_n (pc' := 117) rfl rfl rfl ?_
  refine x_iadd (pc' := 118) rfl rfl ?_
  refine x_eqi (nI_add _ _) ?_
  refine x_cV2v (d := 2) (pc' := 121) rfl rfl sX3_63 gX3_lay (hTg.1) ⟨Nat.le_of_ble_eq_true rfl, Nat.le_of_ble_eq_true rfl⟩ (Nat.le_of_ble_eq_true rfl) ⟨Nat.le_of_ble_eq_true rfl, Nat.le_of_ble_eq_true rfl⟩ ?_
  refine w_lay hTg (fun _ f2 hT2 hF2 => ⟨rfl, ?_⟩) (fun g => absurd (t_has_nI hn' hn9 hb) g)
  rw [hcl, r2, q_up_I] at hT2
  refine x_aload_n (pc' := 122) rfl rfl rfl ?_
  refine x_get (pc' := 125) rfl rfl rfl (hT2.1) rfl ?_
  refine x_eqi (show Tg.2.2.2 7 = nI (s0 + wf.2.2.2.2.1) from r6) ?_
  refine x_iload_n (pc' := 126) rfl rfl rfl ?_
  by_cases d1 : 0 < wf.2.2.2.2.1
  · have h2 := h f2 _ hT2 ⟨r1, rfl, r3, r4, r5, r6⟩ (hFg.trans hF2)
    rw [if_pos d1] at h2
    refine x_icmp_le (tgt := 133) (pc' := 129) rfl rfl rfl (fun q => absurd q (nI_ge (by omega) (by omega))) (fun _ => ?_)
    refine x_iconst (pc' := 130) rfl rfl iconst_1 ?_
    refine x_goto (tgt := 134) rfl rfl ?_
    exact x_ireturn rfl rfl rfl (Nat.le_of_ble_eq_true rfl) (Nat.le_of_ble_eq_true rfl) (h2)
  · have h2 := h f2 _ hT2 ⟨r1, rfl, r3, r4, r5, r6⟩ (hFg.trans hF2)
    rw [if_neg d1] at h2
    refine x_icmp_le (tgt := 133) (pc' := 129) rfl rfl rfl (fun _ => ?_) (fun q => absurd (nI_le (by omega) (by omega)) q)
    refine x_iconst (pc' := 134) rfl rfl iconst_0 ?_
    exact x_ireturn rfl rfl rfl (Nat.le_of_ble_eq_true rfl) (Nat.le_of_ble_eq_true rfl) (h2)
end SOW
