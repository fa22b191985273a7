/-! The class's Table, over any state. -/
theorem x_t.num {z : Nat} {f f' : x_H} {t : Nat} {T : x_T} (h : x_t z f t T) (k : Nat) {v : Int32} (e : f' = x_up f t (.inr (3, (x_tF t T.2.2.2).set (k + 3) (.int v)))) (hk : (x_tF t T.2.2.2).set (k + 3) (.int v) = x_tF t (upd T.2.2.2 k v)) : x_t z f' t (T.1, T.2.1, T.2.2.1, upd T.2.2.2 k v) := by
  rw [hk] at e
  exact ⟨x_o.s e h.1.1, h.2.1.n e (by omega), h.2.2.1.n e (by omega), h.2.2.2.n e (by omega)⟩
theorem x_t.bean {z : Nat} {f f' : x_H} {t : Nat} {T : x_T} {g : Nat → Int32} (h : x_t z f t T) (e : f' = x_up f (t + 2) (.inl (9, .inl g))) : x_t z f' t (T.1, g, T.2.2.1, T.2.2.2) :=
  ⟨h.1.n e (by omega), h.2.1.n e (by omega), x_a.s e h.2.2.1.1, h.2.2.2.n e (by omega)⟩
theorem x_t.kind {z : Nat} {f f' : x_H} {t : Nat} {T : x_T} {g : Nat → Int32} (h : x_t z f t T) (e : f' = x_up f (t + 1) (.inl (9, .inl g))) : x_t z f' t (g, T.2.1, T.2.2.1, T.2.2.2) :=
  ⟨h.1.n e (by omega), x_a.s e h.2.1.1, h.2.2.1.n e (by omega), h.2.2.2.n e (by omega)⟩
theorem x_t.purse {z : Nat} {f f' : x_H} {t : Nat} {T : x_T} {g : Nat → Int32} (h : x_t z f t T) (e : f' = x_up f (t + 3) (.inl (2, .inl g))) : x_t z f' t (T.1, T.2.1, g, T.2.2.2) :=
  ⟨h.1.n e (by omega), h.2.1.n e (by omega), h.2.2.1.n e (by omega), x_a.s e h.2.2.2.1⟩
theorem x_t.cast {z : Nat} {f : x_H} {t : Nat} {T T' : x_T} (h : x_t z f t T) (e : T = T') : x_t z f t T' := e ▸ h
theorem x_ot_in {t k : Nat} (h : t ≤ k) (h2 : k < t + 4) : ¬ x_ot t k := by
  unfold x_ot
  omega
theorem nI_in9 {T : x_T} {n i : Nat} (hn : T.2.2.2 0 = nI n) (hn9 : n ≤ 9) (hi : i < n) : vp_in (nI i) 9 := vp_in_nI (by omega) (by decide)
theorem t_has_no {T : x_T} {n : Nat} {i : Nat} (hn : T.2.2.2 0 = nI n) (hn9 : n ≤ 9) (hi : i < 2 ^ 31) (h : ¬ t_has T (nI i)) : n ≤ i := Nat.not_lt.mp (fun q => h (t_has_nI hn hn9 q))
section TAB
variable {E : x_E} {z : Nat} {f : x_H} {t : Nat} {T : x_T} {post : Option Value → x_H → Prop}
theorem w_kindOf {b : Int32} (hT : x_t z f t T) (h1 : t_has T b → post (some (.int (T.1 b.toNatClampNeg))) f) (h0 : ¬ t_has T b → post (some (.int (-9))) f) : Y E 2 mX3_kindOf [.ref t, .int b] z f 0 0 post := by
  refine Y.intro gX3_kindOf (lv := [(0, .ref t), (1, .int b)]) rfl (Nat.le_of_ble_eq_true rfl) ?_
  refine x_aload_n (pc' := 1) rfl rfl rfl ?_
  refine x_iload_n (pc' := 2) rfl rfl rfl ?_
  refine x_cV1i (d := 1) (pc' := 5) rfl rfl sX3_55 gX3_has (hT.1) ⟨Nat.le_of_ble_eq_true rfl, Nat.le_of_ble_eq_true rfl⟩ (Nat.le_of_ble_eq_true rfl) ⟨Nat.le_of_ble_eq_true rfl, Nat.le_of_ble_eq_true rfl⟩ ?_
  refine w_has hT (fun g => ⟨_, rfl, ?_⟩) (fun g => ⟨_, rfl, ?_⟩)
  · refine x_if_eq (tgt := 17) (pc' := 8) rfl rfl rfl (fun c5 => absurd c5 (by decide)) (fun _ => ?_)
    refine x_aload_n (pc' := 9) rfl rfl rfl ?_
    refine x_get (pc' := 12) rfl rfl rfl (hT.1) rfl ?_
    refine x_iload_n (pc' := 13) rfl rfl rfl ?_
    refine x_iaload (pc' := 14) rfl rfl (hT.2.1) (vp_in_9 g.1 g.2.2) ?_
    refine x_goto (tgt := 19) rfl rfl ?_
    exact x_ireturn rfl rfl rfl (Nat.le_of_ble_eq_true rfl) (Nat.le_of_ble_eq_true rfl) (h1 g)
  · refine x_if_eq (tgt := 17) (pc' := 8) rfl rfl rfl (fun _ => ?_) (fun c5 => absurd (by decide) c5)
    refine x_bipush (pc' := 19) rfl rfl bipush_m9 ?_
    exact x_ireturn rfl rfl rfl (Nat.le_of_ble_eq_true rfl) (Nat.le_of_ble_eq_true rfl) (h0 g)
theorem w_lay {b v : Int32} (hT : x_t z f t T) (h1 : t_has T b → ∀ f' : x_H, x_t z f' t (T.1, upd T.2.1 b.toNatClampNeg v, T.2.2.1, T.2.2.2) → x_fr (x_ot t) f f' → post none f') (h0 : ¬ t_has T b → post none f) : Y E 2 mX3_lay [.ref t, .int b, .int v] z f 0 0 post := by
  refine Y.intro gX3_lay (lv := [(0, .ref t), (1, .int b), (2, .int v)]) rfl (Nat.le_of_ble_eq_true rfl) ?_
  refine x_aload_n (pc' := 1) rfl rfl rfl ?_
  refine x_iload_n (pc' := 2) rfl rfl rfl ?_
  refine x_cV1i (d := 1) (pc' := 5) rfl rfl sX3_55 gX3_has (hT.1) ⟨Nat.le_of_ble_eq_true rfl, Nat.le_of_ble_eq_true rfl⟩ (Nat.le_of_ble_eq_true rfl) ⟨Nat.le_of_ble_eq_true rfl, Nat.le_of_ble_eq_true rfl⟩ ?_
  refine w_has hT (fun g => ⟨_, rfl, ?_⟩) (fun g => ⟨_, rfl, ?_⟩)
  · refine x_if_eq (tgt := 15) (pc' := 8) rfl rfl rfl (fun c5 => absurd c5 (by decide)) (fun _ => ?_)
    refine x_aload_n (pc' := 9) rfl rfl rfl ?_
    refine x_get (pc' := 12) rfl rfl rfl (hT.1) rfl ?_
    refine x_iload_n (pc' := 13) rfl rfl rfl ?_
    refine x_iload_n (pc' := 14) rfl rfl rfl ?_
    refine x_iastore (pc' := 15) rfl rfl (hT.2.2.1) (vp_in_9 g.1 g.2.2) (fun f1 e1 => ?_)
    have hT1 := hT.bean e1
    have hF1 := x_fr.rf.up e1 (x_ot_in (t := t) (by omega) (by omega))
    exact x_return rfl rfl (Nat.le_of_ble_eq_true rfl) (Nat.le_of_ble_eq_true rfl) (h1 g _ hT1 hF1)
  · refine x_if_eq (tgt := 15) (pc' := 8) rfl rfl rfl (fun _ => ?_) (fun c5 => absurd (by decide) c5)
    exact x_return rfl rfl (Nat.le_of_ble_eq_true rfl) (Nat.le_of_ble_eq_true rfl) (h0 g)
theorem w_takes {i n fu : Nat} {κ β : Nat → Nat} (hT : x_t z f t T) (hn : T.2.2.2 0 = nI n) (hn9 : n ≤ 9) (hfu : T.2.2.2 1 = nI fu) (hfu9 : fu < 2 ^ 31) (hκ : T.1 = fun i => nI (κ i)) (hβ : T.2.1 = fun i => nI (β i)) (hκ5 : ∀ i, κ i ≤ 5) (hβ5 : ∀ i, β i ≤ 100) (hi : i < n) (h1 : q_tk κ β fu i → post (some (.int 1)) f) (h0 : ¬ q_tk κ β fu i → post (some (.int 0)) f) : Y E 2 mX3_takes [.ref t, .int (nI i)] z f 0 0 post := by
  refine Y.intro gX3_takes (lv := [(0, .ref t), (1, .int (nI i))]) rfl (Nat.le_of_ble_eq_true rfl) ?_
  have hcl : (nI i).toNatClampNeg = i := nI_clamp (by omega)
  have e1 : T.2.1 (nI i).toNatClampNeg = nI (β i) := by rw [hcl, hβ]
  have e2 : T.1 (nI i).toNatClampNeg = nI (κ i) := by rw [hcl, hκ]
  have b1 := hβ5 i
  have b2 := hκ5 i
  refine x_aload_n (pc' := 1) rfl rfl rfl ?_
  refine x_iload_n (pc' := 2) rfl rfl rfl ?_
  refine x_cV1i (d := 1) (pc' := 5) rfl rfl sX3_55 gX3_has (hT.1) ⟨Nat.le_of_ble_eq_true rfl, Nat.le_of_ble_eq_true rfl⟩ (Nat.le_of_ble_eq_true rfl) ⟨Nat.le_of_ble_eq_true rfl, Nat.le_of_ble_eq_true rfl⟩ ?_
  refine w_has hT (fun g => ⟨_, rfl, ?_⟩) (fun g => absurd (t_has_nI hn hn9 hi) g)
  refine x_if_eq (tgt := 19) (pc' := 8) rfl rfl rfl (fun c5 => absurd c5 ((by decide))) (fun _ => ?_)
  refine x_aload_n (pc' := 9) rfl rfl rfl ?_
  refine x_get (pc' := 12) rfl rfl rfl (hT.1) rfl ?_
  refine x_iload_n (pc' := 13) rfl rfl rfl ?_
  refine x_iaload (pc' := 14) rfl rfl (hT.2.2.1) (nI_in9 hn hn9 hi) ?_
  refine x_eqi e1 ?_
  refine x_bipush (pc' := 16) rfl rfl bipush_99 ?_
  by_cases d1 : β i < 99
  · refine x_icmp_lt (tgt := 21) (pc' := 19) rfl rfl rfl (fun _ => ?_) (fun q => absurd (nI_lt (a := β i) (b := 99) d1 (by decide)) q)
    refine x_aload_n (pc' := 22) rfl rfl rfl ?_
    refine x_get (pc' := 25) rfl rfl rfl (hT.1) rfl ?_
    refine x_iload_n (pc' := 26) rfl rfl rfl ?_
    refine x_iaload (pc' := 27) rfl rfl (hT.2.1) (nI_in9 hn hn9 hi) ?_
    refine x_eqi e2 ?_
    refine x_iconst (pc' := 28) rfl rfl iconst_4 ?_
    by_cases d2 : κ i = 4
    · refine x_icmp_ne (tgt := 44) (pc' := 31) rfl rfl rfl (fun q => absurd (show nI (κ i) = 4 by rw [d2]; decide) q) (fun _ => ?_)
      refine x_aload_n (pc' := 32) rfl rfl rfl ?_
      refine x_get (pc' := 35) rfl rfl rfl (hT.1) rfl ?_
      refine x_iload_n (pc' := 36) rfl rfl rfl ?_
      refine x_iaload (pc' := 37) rfl rfl (hT.2.2.1) (nI_in9 hn hn9 hi) ?_
      refine x_eqi e1 ?_
      refine x_aload_n (pc' := 38) rfl rfl rfl ?_
      refine x_get (pc' := 41) rfl rfl rfl (hT.1) rfl ?_
      refine x_eqi hfu ?_
      by_cases d3 : β i < fu
      · refine x_icmp_ge (tgt := 48) (pc' := 44) rfl rfl rfl (fun q => absurd q (nI_ge d3 hfu9)) (fun _ => ?_)
        refine x_iconst (pc' := 45) rfl rfl iconst_1 ?_
        refine x_goto (tgt := 49) rfl rfl ?_
        exact x_ireturn rfl rfl rfl (Nat.le_of_ble_eq_true rfl) (Nat.le_of_ble_eq_true rfl) (h1 ⟨d1, fun _ => d3⟩)
      · refine x_icmp_ge (tgt := 48) (pc' := 44) rfl rfl rfl (fun _ => ?_) (fun q => absurd (nI_le (a := fu) (b := β i) (by omega) (by omega)) q)
        refine x_iconst (pc' := 49) rfl rfl iconst_0 ?_
        exact x_ireturn rfl rfl rfl (Nat.le_of_ble_eq_true rfl) (Nat.le_of_ble_eq_true rfl) (h0 (fun q => d3 (q.2 d2)))
    · refine x_icmp_ne (tgt := 44) (pc' := 31) rfl rfl rfl (fun _ => ?_) (fun q => absurd ((nI_eq (a := κ i) (b := 4) (by omega) (by decide)).mp q) d2)
      refine x_iconst (pc' := 45) rfl rfl iconst_1 ?_
      refine x_goto (tgt := 49) rfl rfl ?_
      exact x_ireturn rfl rfl rfl (Nat.le_of_ble_eq_true rfl) (Nat.le_of_ble_eq_true rfl) (h1 ⟨d1, fun q => absurd q d2⟩)
  · refine x_icmp_lt (tgt := 21) (pc' := 19) rfl rfl rfl (fun q => absurd q (nI_nlt (a := β i) (b := 99) (by omega) (by omega))) (fun _ => ?_)
    refine x_iconst (pc' := 20) rfl rfl iconst_0 ?_
    exact x_ireturn rfl rfl rfl (Nat.le_of_ble_eq_true rfl) (Nat.le_of_ble_eq_true rfl) (h0 (fun q => d1 q.1))
theorem w_nx {p n ln : Nat} (hT : x_t z f t T) (hn : T.2.2.2 0 = nI n) (hn9 : n ≤ 9) (hln : T.2.2.2 2 = nI ln) (hln1 : ln < 2 ^ 31) (hp : p < n) (h : post (some (.int (nI (q_nx n ln p)))) f) : Y E 1 mX3_rightOrLeftOf [.ref t, .int (nI p)] z f 0 0 post := by
  refine Y.intro gX3_rightOrLeftOf (lv := [(0, .ref t), (1, .int (nI p))]) rfl (Nat.le_of_ble_eq_true rfl) ?_
  by_cases d1 : ln = 1
  · by_cases d2 : p = 0
    · have e : q_nx n ln p = n - 1 := by unfold q_nx; rw [if_pos d1, if_pos d2]
      rw [e] at h
      subst d2
      refine x_aload_n (pc' := 1) rfl rfl rfl ?_
      refine x_get (pc' := 4) rfl rfl rfl (hT.1) rfl ?_
      refine x_eqi hln ?_
      refine x_iconst (pc' := 5) rfl rfl iconst_1 ?_
      refine x_icmp_ne (tgt := 25) (pc' := 8) rfl rfl rfl (fun c5 => absurd ((by rw [d1]; rfl)) c5) (fun _ => ?_)
      refine x_iload_n (pc' := 9) rfl rfl rfl ?_
      refine x_if_gt (tgt := 21) (pc' := 12) rfl rfl rfl (fun c9 => absurd c9 ((by decide : ¬ (0 : Int32) < nI 0))) (fun _ => ?_)
      refine x_aload_n (pc' := 13) rfl rfl rfl ?_
      refine x_get (pc' := 16) rfl rfl rfl (hT.1) rfl ?_
      refine x_eqi hn ?_
      refine x_iconst (pc' := 17) rfl rfl iconst_1 ?_
      refine x_isub (pc' := 18) rfl rfl ?_
      refine x_eqi (show nI n - 1 = nI (n - 1) from pk_sub (a := n) (b := 1) (by omega)) ?_
      refine x_goto (tgt := 24) rfl rfl ?_
      exact x_ireturn rfl rfl rfl (Nat.le_of_ble_eq_true rfl) (Nat.le_of_ble_eq_true rfl) (h)
    · have e : q_nx n ln p = p - 1 := by unfold q_nx; rw [if_pos d1, if_neg d2]
      rw [e] at h
      refine x_aload_n (pc' := 1) rfl rfl rfl ?_
      refine x_get (pc' := 4) rfl rfl rfl (hT.1) rfl ?_
      refine x_eqi hln ?_
      refine x_iconst (pc' := 5) rfl rfl iconst_1 ?_
      refine x_icmp_ne (tgt := 25) (pc' := 8) rfl rfl rfl (fun c5 => absurd ((by rw [d1]; rfl)) c5) (fun _ => ?_)
      refine x_iload_n (pc' := 9) rfl rfl rfl ?_
      refine x_if_gt (tgt := 21) (pc' := 12) rfl rfl rfl (fun _ => ?_) (fun c9 => absurd (nI_lt (a := 0) (b := p) (by omega) (by omega)) c9)
      refine x_iload_n (pc' := 22) rfl rfl rfl ?_
      refine x_iconst (pc' := 23) rfl rfl iconst_1 ?_
      refine x_isub (pc' := 24) rfl rfl ?_
      refine x_eqi (show nI p - 1 = nI (p - 1) from pk_sub (a := p) (b := 1) (by omega)) ?_
      exact x_ireturn rfl rfl rfl (Nat.le_of_ble_eq_true rfl) (Nat.le_of_ble_eq_true rfl) (h)
  · have hne : ¬ nI ln = 1 := fun q => d1 ((nI_eq (a := ln) (b := 1) hln1 (by decide)).mp q)
    by_cases d2 : n ≤ p + 1
    · have e : q_nx n ln p = 0 := by unfold q_nx; rw [if_neg d1, if_pos d2]
      rw [e] at h
      refine x_aload_n (pc' := 1) rfl rfl rfl ?_
      refine x_get (pc' := 4) rfl rfl rfl (hT.1) rfl ?_
      refine x_eqi hln ?_
      refine x_iconst (pc' := 5) rfl rfl iconst_1 ?_
      refine x_icmp_ne (tgt := 25) (pc' := 8) rfl rfl rfl (fun _ => ?_) (fun c5 => absurd c5 (hne))
      refine x_iload_n (pc' := 26) rfl rfl rfl ?_
      refine x_iconst (pc' := 27) rfl rfl iconst_1 ?_
      refine x_iadd (pc' := 28) rfl rfl ?_
      refine x_eqi (nI_1 p) ?_
      refine x_aload_n (pc' := 29) rfl rfl rfl ?_
      refine x_get (pc' := 32) rfl rfl rfl (hT.1) rfl ?_
      refine x_eqi hn ?_
      refine x_icmp_lt (tgt := 39) (pc' := 35) rfl rfl rfl (fun c32 => absurd c32 (nI_nlt (a := p + 1) (b := n) d2 (by omega))) (fun _ => ?_)
      refine x_iconst (pc' := 36) rfl rfl iconst_0 ?_
      refine x_goto (tgt := 42) rfl rfl ?_
      exact x_ireturn rfl rfl rfl (Nat.le_of_ble_eq_true rfl) (Nat.le_of_ble_eq_true rfl) (h)
    · have e : q_nx n ln p = p + 1 := by unfold q_nx; rw [if_neg d1, if_neg d2]
      rw [e] at h
      refine x_aload_n (pc' := 1) rfl rfl rfl ?_
      refine x_get (pc' := 4) rfl rfl rfl (hT.1) rfl ?_
      refine x_eqi hln ?_
      refine x_iconst (pc' := 5) rfl rfl iconst_1 ?_
      refine x_icmp_ne (tgt := 25) (pc' := 8) rfl rfl rfl (fun _ => ?_) (fun c5 => absurd c5 (hne))
      refine x_iload_n (pc' := 26) rfl rfl rfl ?_
      refine x_iconst (pc' := 27) rfl rfl iconst_1 ?_
      refine x_iadd (pc' := 28) rfl rfl ?_
      refine x_eqi (nI_1 p) ?_
      refine x_aload_n (pc' := 29) rfl rfl rfl ?_
      refine x_get (pc' := 32) rfl rfl rfl (hT.1) rfl ?_
      refine x_eqi hn ?_
      refine x_icmp_lt (tgt := 39) (pc' := 35) rfl rfl rfl (fun _ => ?_) (fun c32 => absurd (nI_lt (a := p + 1) (b := n) (by omega) (by omega)) c32)
      refine x_iload_n (pc' := 40) rfl rfl rfl ?_
      refine x_iconst (pc' := 41) rfl rfl iconst_1 ?_
      refine x_iadd (pc' := 42) rfl rfl ?_
      refine x_eqi (nI_1 p) ?_
      exact x_ireturn rfl rfl rfl (Nat.le_of_ble_eq_true rfl) (Nat.le_of_ble_eq_true rfl) (h)
theorem w_sounds {i n fu : Nat} {κ : Nat → Nat} (hT : x_t z f t T) (hn : T.2.2.2 0 = nI n) (hn9 : n ≤ 9) (hfu : T.2.2.2 1 = nI fu) (hfu9 : fu < 2 ^ 20) (hκ : T.1 = fun i => nI (κ i)) (hκ5 : ∀ i, κ i ≤ 5) (hi : i < n) (h : post (some (.int (if κ i = 2 then (-9) else nI (q_from (κ i) fu)))) f) : Y E 2 mX3_soundsFrom [.ref t, .int (nI i)] z f 0 0 post := by
  refine Y.intro gX3_soundsFrom (lv := [(0, .ref t), (1, .int (nI i))]) rfl (Nat.le_of_ble_eq_true rfl) ?_
  have hcl : (nI i).toNatClampNeg = i := nI_clamp (by omega)
  have e2 : T.1 (nI i).toNatClampNeg = nI (κ i) := by rw [hcl, hκ]
  have b2 := hκ5 i
  have hh : nI fu + 1 = nI (fu + 1) := nI_1 fu
  have hd : nI (fu + 1) / 2 = nI ((fu + 1) / 2) := pk_div (a := fu + 1) (d := 2) (by omega) (by decide) (by decide)
  have hm : (2 : Int32) * nI fu = nI (2 * fu) := pk_mul 2 fu
  have hk : κ i = 0 ∨ κ i = 1 ∨ κ i = 2 ∨ κ i = 3 ∨ κ i = 4 ∨ κ i = 5 := by omega
  rcases hk with d | d | d | d | d | d
  all_goals rw [d] at e2 h
  ·
    refine x_aload_n (pc' := 1) rfl rfl rfl ?_
    refine x_iload_n (pc' := 2) rfl rfl rfl ?_
    refine x_cV1i (d := 1) (pc' := 5) rfl rfl sX3_55 gX3_has (hT.1) ⟨Nat.le_of_ble_eq_true rfl, Nat.le_of_ble_eq_true rfl⟩ (Nat.le_of_ble_eq_true rfl) ⟨Nat.le_of_ble_eq_true rfl, Nat.le_of_ble_eq_true rfl⟩ ?_
    refine w_has hT (fun g => ⟨_, rfl, ?_⟩) (fun g => absurd (t_has_nI hn hn9 hi) g)
    refine x_if_ne (tgt := 11) (pc' := 8) rfl rfl rfl (fun _ => ?_) (fun c5 => absurd c5 ((by decide)))
    refine x_aload_n (pc' := 12) rfl rfl rfl ?_
    refine x_get (pc' := 15) rfl rfl rfl (hT.1) rfl ?_
    refine x_iload_n (pc' := 16) rfl rfl rfl ?_
    refine x_iaload (pc' := 17) rfl rfl (hT.2.1) (nI_in9 hn hn9 hi) ?_
    refine x_eqi e2 ?_
    refine x_tableIn (tgt := 52) rfl (by decide) (by decide) rfl rfl ?_
    refine x_aload_n (pc' := 53) rfl rfl rfl ?_
    refine x_get (pc' := 56) rfl rfl rfl (hT.1) rfl ?_
    refine x_eqi hfu ?_
    exact x_ireturn rfl rfl rfl (Nat.le_of_ble_eq_true rfl) (Nat.le_of_ble_eq_true rfl) (h)
  ·
    refine x_aload_n (pc' := 1) rfl rfl rfl ?_
    refine x_iload_n (pc' := 2) rfl rfl rfl ?_
    refine x_cV1i (d := 1) (pc' := 5) rfl rfl sX3_55 gX3_has (hT.1) ⟨Nat.le_of_ble_eq_true rfl, Nat.le_of_ble_eq_true rfl⟩ (Nat.le_of_ble_eq_true rfl) ⟨Nat.le_of_ble_eq_true rfl, Nat.le_of_ble_eq_true rfl⟩ ?_
    refine w_has hT (fun g => ⟨_, rfl, ?_⟩) (fun g => absurd (t_has_nI hn hn9 hi) g)
    refine x_if_ne (tgt := 11) (pc' := 8) rfl rfl rfl (fun _ => ?_) (fun c5 => absurd c5 ((by decide)))
    refine x_aload_n (pc' := 12) rfl rfl rfl ?_
    refine x_get (pc' := 15) rfl rfl rfl (hT.1) rfl ?_
    refine x_iload_n (pc' := 16) rfl rfl rfl ?_
    refine x_iaload (pc' := 17) rfl rfl (hT.2.1) (nI_in9 hn hn9 hi) ?_
    refine x_eqi e2 ?_
    refine x_tableIn (tgt := 57) rfl (by decide) (by decide) rfl rfl ?_
    refine x_aload_n (pc' := 58) rfl rfl rfl ?_
    refine x_get (pc' := 61) rfl rfl rfl (hT.1) rfl ?_
    refine x_eqi hfu ?_
    refine x_iconst (pc' := 62) rfl rfl iconst_1 ?_
    refine x_iadd (pc' := 63) rfl rfl ?_
    refine x_eqi hh ?_
    refine x_iconst (pc' := 64) rfl rfl iconst_2 ?_
    refine x_idiv (pc' := 65) rfl rfl (by decide) ?_
    refine x_eqi hd ?_
    exact x_ireturn rfl rfl rfl (Nat.le_refl _) (Nat.le_refl _) h
  ·
    refine x_aload_n (pc' := 1) rfl rfl rfl ?_
    refine x_iload_n (pc' := 2) rfl rfl rfl ?_
    refine x_cV1i (d := 1) (pc' := 5) rfl rfl sX3_55 gX3_has (hT.1) ⟨Nat.le_of_ble_eq_true rfl, Nat.le_of_ble_eq_true rfl⟩ (Nat.le_of_ble_eq_true rfl) ⟨Nat.le_of_ble_eq_true rfl, Nat.le_of_ble_eq_true rfl⟩ ?_
    refine w_has hT (fun g => ⟨_, rfl, ?_⟩) (fun g => absurd (t_has_nI hn hn9 hi) g)
    refine x_if_ne (tgt := 11) (pc' := 8) rfl rfl rfl (fun _ => ?_) (fun c5 => absurd c5 ((by decide)))
    refine x_aload_n (pc' := 12) rfl rfl rfl ?_
    refine x_get (pc' := 15) rfl rfl rfl (hT.1) rfl ?_
    refine x_iload_n (pc' := 16) rfl rfl rfl ?_
    refine x_iaload (pc' := 17) rfl rfl (hT.2.1) (nI_in9 hn hn9 hi) ?_
    refine x_eqi e2 ?_
    refine x_tableIn (tgt := 66) rfl (by decide) (by decide) rfl rfl ?_
    refine x_bipush (pc' := 68) rfl rfl bipush_m9 ?_
    exact x_ireturn rfl rfl rfl (Nat.le_of_ble_eq_true rfl) (Nat.le_of_ble_eq_true rfl) (h)
  ·
    refine x_aload_n (pc' := 1) rfl rfl rfl ?_
    refine x_iload_n (pc' := 2) rfl rfl rfl ?_
    refine x_cV1i (d := 1) (pc' := 5) rfl rfl sX3_55 gX3_has (hT.1) ⟨Nat.le_of_ble_eq_true rfl, Nat.le_of_ble_eq_true rfl⟩ (Nat.le_of_ble_eq_true rfl) ⟨Nat.le_of_ble_eq_true rfl, Nat.le_of_ble_eq_true rfl⟩ ?_
    refine w_has hT (fun g => ⟨_, rfl, ?_⟩) (fun g => absurd (t_has_nI hn hn9 hi) g)
    refine x_if_ne (tgt := 11) (pc' := 8) rfl rfl rfl (fun _ => ?_) (fun c5 => absurd c5 ((by decide)))
    refine x_aload_n (pc' := 12) rfl rfl rfl ?_
    refine x_get (pc' := 15) rfl rfl rfl (hT.1) rfl ?_
    refine x_iload_n (pc' := 16) rfl rfl rfl ?_
    refine x_iaload (pc' := 17) rfl rfl (hT.2.1) (nI_in9 hn hn9 hi) ?_
    refine x_eqi e2 ?_
    refine x_tableIn (tgt := 69) rfl (by decide) (by decide) rfl rfl ?_
    refine x_iconst (pc' := 70) rfl rfl iconst_2 ?_
    refine x_aload_n (pc' := 71) rfl rfl rfl ?_
    refine x_get (pc' := 74) rfl rfl rfl (hT.1) rfl ?_
    refine x_eqi hfu ?_
    refine x_imul (pc' := 75) rfl rfl ?_
    refine x_eqi hm ?_
    exact x_ireturn rfl rfl rfl (Nat.le_of_ble_eq_true rfl) (Nat.le_of_ble_eq_true rfl) (h)
  ·
    refine x_aload_n (pc' := 1) rfl rfl rfl ?_
    refine x_iload_n (pc' := 2) rfl rfl rfl ?_
    refine x_cV1i (d := 1) (pc' := 5) rfl rfl sX3_55 gX3_has (hT.1) ⟨Nat.le_of_ble_eq_true rfl, Nat.le_of_ble_eq_true rfl⟩ (Nat.le_of_ble_eq_true rfl) ⟨Nat.le_of_ble_eq_true rfl, Nat.le_of_ble_eq_true rfl⟩ ?_
    refine w_has hT (fun g => ⟨_, rfl, ?_⟩) (fun g => absurd (t_has_nI hn hn9 hi) g)
    refine x_if_ne (tgt := 11) (pc' := 8) rfl rfl rfl (fun _ => ?_) (fun c5 => absurd c5 ((by decide)))
    refine x_aload_n (pc' := 12) rfl rfl rfl ?_
    refine x_get (pc' := 15) rfl rfl rfl (hT.1) rfl ?_
    refine x_iload_n (pc' := 16) rfl rfl rfl ?_
    refine x_iaload (pc' := 17) rfl rfl (hT.2.1) (nI_in9 hn hn9 hi) ?_
    refine x_eqi e2 ?_
    refine x_tableIn (tgt := 57) rfl (by decide) (by decide) rfl rfl ?_
    refine x_aload_n (pc' := 58) rfl rfl rfl ?_
    refine x_get (pc' := 61) rfl rfl rfl (hT.1) rfl ?_
    refine x_eqi hfu ?_
    refine x_iconst (pc' := 62) rfl rfl iconst_1 ?_
    refine x_iadd (pc' := 63) rfl rfl ?_
    refine x_eqi hh ?_
    refine x_iconst (pc' := 64) rfl rfl iconst_2 ?_
    refine x_idiv (pc' := 65) rfl rfl (by decide) ?_
    refine x_eqi hd ?_
    exact x_ireturn rfl rfl rfl (Nat.le_refl _) (Nat.le_refl _) h
  ·
    refine x_aload_n (pc' := 1) rfl rfl rfl ?_
    refine x_iload_n (pc' := 2) rfl rfl rfl ?_
    refine x_cV1i (d := 1) (pc' := 5) rfl rfl sX3_55 gX3_has (hT.1) ⟨Nat.le_of_ble_eq_true rfl, Nat.le_of_ble_eq_true rfl⟩ (Nat.le_of_ble_eq_true rfl) ⟨Nat.le_of_ble_eq_true rfl, Nat.le_of_ble_eq_true rfl⟩ ?_
    refine w_has hT (fun g => ⟨_, rfl, ?_⟩) (fun g => absurd (t_has_nI hn hn9 hi) g)
    refine x_if_ne (tgt := 11) (pc' := 8) rfl rfl rfl (fun _ => ?_) (fun c5 => absurd c5 ((by decide)))
    refine x_aload_n (pc' := 12) rfl rfl rfl ?_
    refine x_get (pc' := 15) rfl rfl rfl (hT.1) rfl ?_
    refine x_iload_n (pc' := 16) rfl rfl rfl ?_
    refine x_iaload (pc' := 17) rfl rfl (hT.2.1) (nI_in9 hn hn9 hi) ?_
    refine x_eqi e2 ?_
    refine x_tableOut (tgt := 76) rfl ((by decide)) rfl ?_
    refine x_bipush (pc' := 78) rfl rfl bipush_12 ?_
    exact x_ireturn rfl rfl rfl (Nat.le_of_ble_eq_true rfl) (Nat.le_of_ble_eq_true rfl) (h)
theorem w_isFull {i n fu : Nat} {κ β : Nat → Nat} (hT : x_t z f t T) (hn : T.2.2.2 0 = nI n) (hn9 : n ≤ 9) (hfu : T.2.2.2 1 = nI fu) (hfu9 : fu < 2 ^ 20) (hκ : T.1 = fun i => nI (κ i)) (hβ : T.2.1 = fun i => nI (β i)) (hκ5 : ∀ i, κ i ≤ 5) (hβ5 : ∀ i, β i ≤ 100) (hi : i < n) (h1 : q_full κ β fu i → post (some (.int 1)) f) (h0 : ¬ q_full κ β fu i → post (some (.int 0)) f) : Y E 3 mX3_isFull [.ref t, .int (nI i)] z f 0 0 post := by
  refine Y.intro gX3_isFull (lv := [(0, .ref t), (1, .int (nI i))]) rfl (Nat.le_of_ble_eq_true rfl) ?_
  have hcl : (nI i).toNatClampNeg = i := nI_clamp (by omega)
  have e1 : T.2.1 (nI i).toNatClampNeg = nI (β i) := by rw [hcl, hβ]
  have b1 := hβ5 i
  have hq : q_from (κ i) fu < 2 ^ 31 := by
    unfold q_from
    repeat' split
    all_goals omega
  by_cases d1 : κ i = 2
  ·
    refine x_aload_n (pc' := 1) rfl rfl rfl ?_
    refine x_iload_n (pc' := 2) rfl rfl rfl ?_
    refine x_cV1i (d := 2) (pc' := 5) rfl rfl sX3_67 gX3_soundsFrom (hT.1) ⟨Nat.le_of_ble_eq_true rfl, Nat.le_of_ble_eq_true rfl⟩ (Nat.le_of_ble_eq_true rfl) ⟨Nat.le_of_ble_eq_true rfl, Nat.le_of_ble_eq_true rfl⟩ ?_
    refine w_sounds hT hn hn9 hfu hfu9 hκ hκ5 hi ⟨_, rfl, ?_⟩
    rw [if_pos d1]
    refine x_istore_n (pc' := 6) (lv' := [(2, _), (0, _), (1, _)]) rfl rfl (Nat.le_of_ble_eq_true rfl) rfl ?_
    refine x_iload_n (pc' := 7) rfl rfl rfl ?_
    refine x_bipush (pc' := 9) rfl rfl bipush_m9 ?_
    refine x_icmp_eq (tgt := 25) (pc' := 12) rfl rfl rfl (fun _ => ?_) (fun c9 => absurd (rfl) c9)
    refine x_iconst (pc' := 26) rfl rfl iconst_0 ?_
    exact x_ireturn rfl rfl rfl (Nat.le_of_ble_eq_true rfl) (Nat.le_of_ble_eq_true rfl) (h0 (fun q => q.1 d1))
  · have hne : ¬ nI (q_from (κ i) fu) = -9 := fun q => by
      have h2 := nI_pos hq
      rw [q] at h2
      exact h2 (by decide)
    by_cases d2 : q_from (κ i) fu ≤ β i
    ·
      refine x_aload_n (pc' := 1) rfl rfl rfl ?_
      refine x_iload_n (pc' := 2) rfl rfl rfl ?_
      refine x_cV1i (d := 2) (pc' := 5) rfl rfl sX3_67 gX3_soundsFrom (hT.1) ⟨Nat.le_of_ble_eq_true rfl, Nat.le_of_ble_eq_true rfl⟩ (Nat.le_of_ble_eq_true rfl) ⟨Nat.le_of_ble_eq_true rfl, Nat.le_of_ble_eq_true rfl⟩ ?_
      refine w_sounds hT hn hn9 hfu hfu9 hκ hκ5 hi ⟨_, rfl, ?_⟩
      rw [if_neg d1]
      refine x_istore_n (pc' := 6) (lv' := [(2, _), (0, _), (1, _)]) rfl rfl (Nat.le_of_ble_eq_true rfl) rfl ?_
      refine x_iload_n (pc' := 7) rfl rfl rfl ?_
      refine x_bipush (pc' := 9) rfl rfl bipush_m9 ?_
      refine x_icmp_eq (tgt := 25) (pc' := 12) rfl rfl rfl (fun c9 => absurd c9 (hne)) (fun _ => ?_)
      refine x_aload_n (pc' := 13) rfl rfl rfl ?_
      refine x_iload_n (pc' := 14) rfl rfl rfl ?_
      refine x_cV1i (d := 2) (pc' := 17) rfl rfl sX3_59 gX3_beansOf (hT.1) ⟨Nat.le_of_ble_eq_true rfl, Nat.le_of_ble_eq_true rfl⟩ (Nat.le_of_ble_eq_true rfl) ⟨Nat.le_of_ble_eq_true rfl, Nat.le_of_ble_eq_true rfl⟩ ?_
      refine w_beansOf hT (fun g => ⟨_, rfl, ?_⟩) (fun g => absurd (t_has_nI hn hn9 hi) g)
      refine x_eqi e1 ?_
      refine x_iload_n (pc' := 18) rfl rfl rfl ?_
      refine x_icmp_lt (tgt := 25) (pc' := 21) rfl rfl rfl (fun c18 => absurd c18 (nI_nlt d2 (by omega))) (fun _ => ?_)
      refine x_iconst (pc' := 22) rfl rfl iconst_1 ?_
      refine x_goto (tgt := 26) rfl rfl ?_
      exact x_ireturn rfl rfl rfl (Nat.le_of_ble_eq_true rfl) (Nat.le_of_ble_eq_true rfl) (h1 ⟨d1, d2⟩)
    ·
      refine x_aload_n (pc' := 1) rfl rfl rfl ?_
      refine x_iload_n (pc' := 2) rfl rfl rfl ?_
      refine x_cV1i (d := 2) (pc' := 5) rfl rfl sX3_67 gX3_soundsFrom (hT.1) ⟨Nat.le_of_ble_eq_true rfl, Nat.le_of_ble_eq_true rfl⟩ (Nat.le_of_ble_eq_true rfl) ⟨Nat.le_of_ble_eq_true rfl, Nat.le_of_ble_eq_true rfl⟩ ?_
      refine w_sounds hT hn hn9 hfu hfu9 hκ hκ5 hi ⟨_, rfl, ?_⟩
      rw [if_neg d1]
      refine x_istore_n (pc' := 6) (lv' := [(2, _), (0, _), (1, _)]) rfl rfl (Nat.le_of_ble_eq_true rfl) rfl ?_
      refine x_iload_n (pc' := 7) rfl rfl rfl ?_
      refine x_bipush (pc' := 9) rfl rfl bipush_m9 ?_
      refine x_icmp_eq (tgt := 25) (pc' := 12) rfl rfl rfl (fun c9 => absurd c9 (hne)) (fun _ => ?_)
      refine x_aload_n (pc' := 13) rfl rfl rfl ?_
      refine x_iload_n (pc' := 14) rfl rfl rfl ?_
      refine x_cV1i (d := 2) (pc' := 17) rfl rfl sX3_59 gX3_beansOf (hT.1) ⟨Nat.le_of_ble_eq_true rfl, Nat.le_of_ble_eq_true rfl⟩ (Nat.le_of_ble_eq_true rfl) ⟨Nat.le_of_ble_eq_true rfl, Nat.le_of_ble_eq_true rfl⟩ ?_
      refine w_beansOf hT (fun g => ⟨_, rfl, ?_⟩) (fun g => absurd (t_has_nI hn hn9 hi) g)
      refine x_eqi e1 ?_
      refine x_iload_n (pc' := 18) rfl rfl rfl ?_
      refine x_icmp_lt (tgt := 25) (pc' := 21) rfl rfl rfl (fun _ => ?_) (fun c18 => absurd (nI_lt (by omega) hq) c18)
      refine x_iconst (pc' := 26) rfl rfl iconst_0 ?_
      exact x_ireturn rfl rfl rfl (Nat.le_of_ble_eq_true rfl) (Nat.le_of_ble_eq_true rfl) (h0 (fun q => d2 q.2))
end TAB
