/-! The class plays a game told in letters. -/
theorem g_add_ok {g : q_G} {k v : Nat} (h : g_ok 99 g) (hn : g_n g < 9) (hk : k ≤ 5) (hv : v ≤ 20) : g_ok 99 (g_add g k v) := by
  obtain ⟨a1, a2, a3, a4, a5, a6, a7, a8, a9⟩ := h
  refine ⟨hn, a2, a3, a4, q_up_le a5 hk, q_up_le a6 (by omega), a7, fun i hi => ⟨?_, ?_⟩, a9⟩
  · show q_up (g_κ g) (g_n g) k i = 0
    rw [q_up_n _ _ (by omega)]
    exact (a8 i hi).1
  · show q_up (g_β g) (g_n g) v i = 0
    rw [q_up_n _ _ (by omega)]
    exact (a8 i hi).2
theorem g_sw_ok {C : Nat} {g : q_G} {v w : Nat} (h : g_ok C g) (hv : v < g_n g) (hw : w < g_n g) : g_ok C (g_sw g v w) := by
  obtain ⟨a1, a2, a3, a4, a5, a6, a7, a8, a9⟩ := h
  refine ⟨a1, a2, a3, a4, a5, q_up_le (q_up_le a6 (a6 w)) (a6 v), a7, fun i hi => ⟨(a8 i hi).1, ?_⟩, a9⟩
  show q_up (q_up (g_β g) v (g_β g w)) w (g_β g v) i = 0
  rw [q_up_n _ _ (by omega), q_up_n _ _ (by omega)]
  exact (a8 i hi).2
theorem q_ms2_ok {t : Nat → Nat} : ∀ (k p : Nat) (G G' : q_G × Nat), g_ok 99 G.1 → G.2 ≤ 999 → q_ms2 t k p G = some G' → g_ok 99 G'.1 ∧ G'.2 ≤ 999
  | 0, p, G, G', h, hm, e => by
    have e2 : G = G' := Option.some.inj e
    subst e2
    exact ⟨h, hm⟩
  | k + 1, p, G, G', h, hm, e => by
    unfold q_ms2 at e
    split at e
    · rename_i hc
      exact q_ms2_ok k (p + 1) _ G' (g_mv_ok h (by decide) (by decide) hc.1.2.1) (by show G.2 + 1 ≤ 999; have := hc.2; omega) e
    · cases e
theorem q_do_ok {t : Nat → Nat} {s : Nat} {G G' : q_G × Nat} (hsk : q_sk t s = none) (h : g_ok 99 G.1) (hm : G.2 ≤ 999) (e : q_do t s G = some G') : g_ok 99 G'.1 ∧ G'.2 ≤ 999 := by
  obtain ⟨s1, s2, s3, s4⟩ := q_sk_no hsk
  have hdg := q_sk_dg hsk
  obtain ⟨n1, n2, n3, n4⟩ := q_dn_is hsk
  have hin := q_md_in s1
  obtain ⟨a1, a2, a3, a4, a5, a6, a7, a8, a9⟩ := id h
  unfold q_do at e
  split at e
  · rename_i c1
    split at e
    · cases e
    · rename_i c2
      have e2 := Option.some.inj e
      subst e2
      exact ⟨g_add_ok h (by omega) (q_kd_in (s2 c1)).2.2.2 (by omega), hm⟩
  · rename_i c1
    split at e
    · exact q_ms2_ok _ _ _ _ h hm e
    · rename_i c2
      have hp0 : q_p0 t s = s + 1 := if_neg c1
      have hd1 : q_dg (t (s + 1)) := hdg (s + 1) (by omega) (by unfold q_ed; have : 1 ≤ q_dn t s := by omega
                                                                omega)
      have hd1a := hd1.1
      have hd1b := hd1.2
      split at e
      · split at e
        · rename_i c4
          have e2 := Option.some.inj e
          subst e2
          exact ⟨g_sw_ok h c4.1 c4.2.1, hm⟩
        · cases e
      · split at e
        · split at e
          · cases e
          · rename_i c5
            have e2 := Option.some.inj e
            subst e2
            refine ⟨⟨a1, ⟨?_, ?_⟩, a3, a4, a5, a6, a7, a8, a9⟩, hm⟩
            · show 1 ≤ t (s + 1) - 48
              omega
            · show t (s + 1) - 48 ≤ 9
              omega
        · split at e
          · split at e
            · cases e
            · rename_i c6
              have e2 := Option.some.inj e
              subst e2
              exact ⟨⟨a1, a2, by show t (s + 1) - 48 ≤ 1; omega, a4, a5, a6, a7, a8, a9⟩, hm⟩
          · split at e
            · cases e
            · rename_i c6
              have e2 := Option.some.inj e
              subst e2
              exact ⟨⟨a1, a2, a3, by show t (s + 1) - 48 ≤ 1; omega, a5, a6, a7, a8, a9⟩, hm⟩
theorem q_sk_le {t : Nat → Nat} {s p : Nat} (h : q_sk t s = some p) : p ≤ s + 11 := by
  have h9 : q_dn t s ≤ 9 := Nat.le_trans (q_df_le t (q_md (t s)) (q_p0 t s)) (q_md_9 (t s))
  have h3 : q_ed t s ≤ s + 11 := by
    unfold q_ed q_p0
    split <;> omega
  unfold q_sk at h
  split at h
  · have := Option.some.inj h
    omega
  · split at h
    · have := Option.some.inj h
      omega
    · split at h
      · have := Option.some.inj h
        omega
      · cases h
theorem q_ed_lt {L : Nat} {ℓ : Nat → Nat} {s : Nat} (h255 : ∀ i, ℓ i ≤ 255) (hsk : q_sk (q_t L ℓ) s = none) : q_ed (q_t L ℓ) s < L := by
  have h59 := (q_sk_no hsk).2.2.2
  rcases Nat.lt_or_ge (q_ed (q_t L ℓ) s) L with q | q
  · exact q
  · rw [(q_t_256 h255).mpr q] at h59
    omega
theorem q_fa_le {L : Nat} {ℓ : Nat → Nat} (h255 : ∀ i, ℓ i ≤ 255) : ∀ (k s p : Nat), q_fa (q_t L ℓ) L k s = some p → p ≤ L + 11
  | 0, s, p, h => by cases h
  | k + 1, s, p, h => by
    unfold q_fa at h
    split at h
    · split at h
      · rename_i q hq
        have h2 := Option.some.inj h
        subst h2
        have := q_sk_le hq
        omega
      · exact q_fa_le h255 k _ p h
    · cases h
/-- the whole fault of form -/
def q_ff (L : Nat) (ℓ : Nat → Nat) : Option Nat := if L = 0 then some 0 else q_fa (q_t L ℓ) L L 0
theorem q_ff_le {L : Nat} {ℓ : Nat → Nat} (h255 : ∀ i, ℓ i ≤ 255) {p : Nat} (h : q_ff L ℓ = some p) : p ≤ L + 11 := by
  unfold q_ff at h
  split at h
  · have := Option.some.inj h
    omega
  · exact q_fa_le h255 L 0 p h
theorem q_rn_le {t : Nat → Nat} {L : Nat} : ∀ (k s p : Nat) (G : q_G × Nat), q_rn t L k s G = .inl p → p ≤ L
  | 0, s, p, G, h => by cases h
  | k + 1, s, p, G, h => by
    unfold q_rn at h
    split at h
    · split at h
      · have h2 := Sum.inl.inj h
        omega
      · exact q_rn_le k _ p _ h
    · cases h
def s_game (A : q_A) : q_A × Int32 := match q_ff (a_lc A) (a_lf A) with
  | some p => ((A.1, A.2.1, (0, a_lf A), A.2.2.2), -1000 - nI p)
  | none => match q_rn (q_t (a_lc A) (a_lf A)) (a_lc A) (a_lc A) 0 A.1 with
    | .inl s => ((A.1, A.2.1, (0, a_lf A), A.2.2.2), -2000 - nI s)
    | .inr G => ((G, A.2.1, (0, a_lf A), A.2.2.2), nI (q_ct (q_t (a_lc A) (a_lf A)) (a_lc A) (a_lc A) 0))
theorem q_neg1 : ∀ p, p < 200 → (-1000 - nI p : Int32) < 0 := by decide +kernel
theorem q_neg2 : ∀ p, p < 200 → (-2000 - nI p : Int32) < 0 := by decide +kernel
theorem q_ct_le {t : Nat → Nat} {L : Nat} : ∀ (k s : Nat), q_ct t L k s ≤ k
  | 0, s => Nat.le_refl _
  | k + 1, s => by
    unfold q_ct
    split
    · exact Nat.succ_le_succ (q_ct_le k _)
    · exact Nat.zero_le _
section GC
variable {E : x_E} {z : Nat} {f : x_H} {S : x_S} {M : x_N} {A : q_A} {post : Option Value → x_H → Prop} {L : Nat} {ℓ : Nat → Nat} {t : Nat} {T : x_T} {g : q_G} {m : Nat}
theorem w_addB {n : Nat} {k v : Int32} (hT : x_t z f t T) (hn : T.2.2.2 0 = nI n) (hn9 : n ≤ 9) (h1 : n < 9 → ∀ f' : x_H, x_t z f' t (upd T.1 n k, upd T.2.1 n v, T.2.2.1, upd T.2.2.2 0 (nI (n + 1))) → x_fr (x_ot t) f f' → post (some (.int 1)) f') (h0 : n = 9 → post (some (.int 0)) f) : Y E 1 mX3_addBowl [.ref t, .int k, .int v] z f 0 0 post := by
  refine Y.intro gX3_addBowl (lv := [(0, .ref t), (1, .int k), (2, .int v)]) rfl (Nat.le_of_ble_eq_true rfl) ?_
  have hcl : (nI n).toNatClampNeg = n := nI_clamp (by omega)
  refine x_aload_n (pc' := 1) rfl rfl rfl ?_
  refine x_get (pc' := 4) rfl rfl rfl (hT.1) rfl ?_
  refine x_eqi hn ?_
  refine x_if_lt (tgt := 16) (pc' := 7) rfl rfl rfl (fun c4 => absurd c4 (nI_pos (by omega))) (fun _ => ?_)
  refine x_aload_n (pc' := 8) rfl rfl rfl ?_
  refine x_get (pc' := 11) rfl rfl rfl (hT.1) rfl ?_
  refine x_eqi hn ?_
  refine x_bipush (pc' := 13) rfl rfl bipush_9 ?_
  by_cases d : n < 9
  · refine x_icmp_lt (tgt := 18) (pc' := 16) rfl rfl rfl (fun _ => ?_) (fun q => absurd (nI_lt (a := n) (b := 9) d (by decide)) q)
    refine x_aload_n (pc' := 19) rfl rfl rfl ?_
    refine x_get (pc' := 22) rfl rfl rfl (hT.1) rfl ?_
    refine x_aload_n (pc' := 23) rfl rfl rfl ?_
    refine x_get (pc' := 26) rfl rfl rfl (hT.1) rfl ?_
    refine x_eqi hn ?_
    refine x_iload_n (pc' := 27) rfl rfl rfl ?_
    refine x_iastore (pc' := 28) rfl rfl (hT.2.1) (vp_in_nI (n := n) (N := 9) d (by decide)) (fun f1 e1 => ?_)
    have hT1 := hT.kind e1
    have hF1 := (x_fr.rf (P := x_ot t)).up e1 (x_ot_in (by omega) (by omega))
    rw [hcl] at hT1
    refine x_aload_n (pc' := 29) rfl rfl rfl ?_
    refine x_get (pc' := 32) rfl rfl rfl (hT1.1) rfl ?_
    refine x_aload_n (pc' := 33) rfl rfl rfl ?_
    refine x_get (pc' := 36) rfl rfl rfl (hT1.1) rfl ?_
    refine x_eqi hn ?_
    refine x_iload_n (pc' := 37) rfl rfl rfl ?_
    refine x_iastore (pc' := 38) rfl rfl (hT1.2.2.1) (vp_in_nI (n := n) (N := 9) d (by decide)) (fun f2 e2 => ?_)
    have hT2 := hT1.bean e2
    have hF2 := hF1.up e2 (x_ot_in (by omega) (by omega))
    rw [hcl] at hT2
    refine x_aload_n (pc' := 39) rfl rfl rfl ?_
    refine x_dup (pc' := 40) rfl rfl rfl ?_
    refine x_get (pc' := 43) rfl rfl rfl (hT2.1) rfl ?_
    refine x_eqi hn ?_
    refine x_iconst (pc' := 44) rfl rfl iconst_1 ?_
    refine x_iadd (pc' := 45) rfl rfl ?_
    refine x_eqi (nI_1 _) ?_
    refine x_put (pc' := 48) rfl rfl rfl (hT2.1) (Nat.le_of_ble_eq_true rfl) rfl rfl rfl rfl (fun f3 e3 => ?_)
    have hT3 := hT2.num 0 e3 (x_tFs0 _ _ _)
    have hF3 := hF2.up e3 (x_ot_in (by omega) (by omega))
    refine x_iconst (pc' := 49) rfl rfl iconst_1 ?_
    exact x_ireturn rfl rfl rfl (Nat.le_of_ble_eq_true rfl) (Nat.le_of_ble_eq_true rfl) (h1 d _ hT3 hF3)
  · refine x_icmp_lt (tgt := 18) (pc' := 16) rfl rfl rfl (fun q => absurd q (nI_nlt (b := 9) (by omega) (by omega))) (fun _ => ?_)
    refine x_iconst (pc' := 17) rfl rfl iconst_0 ?_
    exact x_ireturn rfl rfl rfl (Nat.le_of_ble_eq_true rfl) (Nat.le_of_ble_eq_true rfl) (h0 (by omega))
theorem w_swap {n v w : Nat} (hT : x_t z f t T) (hn : T.2.2.2 0 = nI n) (hn9 : n ≤ 9) (hv : v < 2 ^ 31) (hw : w < 2 ^ 31) (h : ∀ (f' : x_H) (T' : x_T), x_t z f' t T' → (T'.2.2.2 = T.2.2.2 ∧ (v < n → w < n → T' = (T.1, upd (upd T.2.1 v (T.2.1 w)) w (T.2.1 v), T.2.2.1, T.2.2.2))) → x_fr (x_ot t) f f' → post none f') : Y E 3 mX3_swapBeans [.ref t, .int (nI v), .int (nI w)] z f 0 0 post := by
  refine Y.intro gX3_swapBeans (lv := [(0, .ref t), (1, .int (nI v)), (2, .int (nI w))]) rfl (Nat.le_of_ble_eq_true rfl) ?_
  have hcv : (nI v).toNatClampNeg = v := nI_clamp hv
  have hcw : (nI w).toNatClampNeg = w := nI_clamp hw
  by_cases d1 : v < n
  · have h1 := t_has_nI (T := T) hn hn9 d1
    by_cases d2 : w < n
    · have h2 := t_has_nI (T := T) hn hn9 d2
      refine x_aload_n (pc' := 1) rfl rfl rfl ?_
      refine x_iload_n (pc' := 2) rfl rfl rfl ?_
      refine x_cV1i (d := 2) (pc' := 5) rfl rfl sX3_59 gX3_beansOf (hT.1) ⟨Nat.le_of_ble_eq_true rfl, Nat.le_of_ble_eq_true rfl⟩ (Nat.le_of_ble_eq_true rfl) ⟨Nat.le_of_ble_eq_true rfl, Nat.le_of_ble_eq_true rfl⟩ ?_
      refine w_beansOf hT (fun _ => ⟨_, rfl, ?_⟩) (fun q => absurd h1 q)
      rw [hcv]
      refine x_istore_n (pc' := 6) (lv' := [(3, _), (0, _), (1, _), (2, _)]) rfl rfl (Nat.le_of_ble_eq_true rfl) rfl ?_
      refine x_aload_n (pc' := 7) rfl rfl rfl ?_
      refine x_iload_n (pc' := 8) rfl rfl rfl ?_
      refine x_aload_n (pc' := 9) rfl rfl rfl ?_
      refine x_iload_n (pc' := 10) rfl rfl rfl ?_
      refine x_cV1i (d := 2) (pc' := 13) rfl rfl sX3_59 gX3_beansOf (hT.1) ⟨Nat.le_of_ble_eq_true rfl, Nat.le_of_ble_eq_true rfl⟩ (Nat.le_of_ble_eq_true rfl) ⟨Nat.le_of_ble_eq_true rfl, Nat.le_of_ble_eq_true rfl⟩ ?_
      refine w_beansOf hT (fun _ => ⟨_, rfl, ?_⟩) (fun q => absurd h2 q)
      rw [hcw]
      refine x_cV2v (d := 2) (pc' := 16) rfl rfl sX3_63 gX3_lay (hT.1) ⟨Nat.le_of_ble_eq_true rfl, Nat.le_of_ble_eq_true rfl⟩ (Nat.le_of_ble_eq_true rfl) ⟨Nat.le_of_ble_eq_true rfl, Nat.le_of_ble_eq_true rfl⟩ ?_
      refine w_lay hT (fun _ f1 hT1 hF1 => ⟨rfl, ?_⟩) (fun q => absurd h1 q)
      rw [hcv] at hT1
      refine x_aload_n (pc' := 17) rfl rfl rfl ?_
      refine x_iload_n (pc' := 18) rfl rfl rfl ?_
      refine x_iload_n (pc' := 19) rfl rfl rfl ?_
      refine x_cV2v (d := 2) (pc' := 22) rfl rfl sX3_63 gX3_lay (hT1.1) ⟨Nat.le_of_ble_eq_true rfl, Nat.le_of_ble_eq_true rfl⟩ (Nat.le_of_ble_eq_true rfl) ⟨Nat.le_of_ble_eq_true rfl, Nat.le_of_ble_eq_true rfl⟩ ?_
      refine w_lay hT1 (fun _ f2 hT2 hF2 => ⟨rfl, ?_⟩) (fun q => absurd (show t_has (T.1, upd T.2.1 v (T.2.1 w), T.2.2.1, T.2.2.2) (nI w) from h2) q)
      rw [hcw] at hT2
      exact x_return rfl rfl (Nat.le_of_ble_eq_true rfl) (Nat.le_of_ble_eq_true rfl) (h _ _ hT2 ⟨rfl, fun _ _ => rfl⟩ (hF1.trans hF2))
    · have h2 : ¬ t_has T (nI w) := fun q => d2 (by have h9 := q.2.1; rw [hn] at h9; exact (nI_ltI hw (by omega)).mp h9)
      refine x_aload_n (pc' := 1) rfl rfl rfl ?_
      refine x_iload_n (pc' := 2) rfl rfl rfl ?_
      refine x_cV1i (d := 2) (pc' := 5) rfl rfl sX3_59 gX3_beansOf (hT.1) ⟨Nat.le_of_ble_eq_true rfl, Nat.le_of_ble_eq_true rfl⟩ (Nat.le_of_ble_eq_true rfl) ⟨Nat.le_of_ble_eq_true rfl, Nat.le_of_ble_eq_true rfl⟩ ?_
      refine w_beansOf hT (fun _ => ⟨_, rfl, ?_⟩) (fun q => absurd h1 q)
      refine x_istore_n (pc' := 6) (lv' := [(3, _), (0, _), (1, _), (2, _)]) rfl rfl (Nat.le_of_ble_eq_true rfl) rfl ?_
      refine x_aload_n (pc' := 7) rfl rfl rfl ?_
      refine x_iload_n (pc' := 8) rfl rfl rfl ?_
      refine x_aload_n (pc' := 9) rfl rfl rfl ?_
      refine x_iload_n (pc' := 10) rfl rfl rfl ?_
      refine x_cV1i (d := 2) (pc' := 13) rfl rfl sX3_59 gX3_beansOf (hT.1) ⟨Nat.le_of_ble_eq_true rfl, Nat.le_of_ble_eq_true rfl⟩ (Nat.le_of_ble_eq_true rfl) ⟨Nat.le_of_ble_eq_true rfl, Nat.le_of_ble_eq_true rfl⟩ ?_
      refine w_beansOf hT (fun q => absurd q h2) (fun _ => ⟨_, rfl, ?_⟩)
      refine x_cV2v (d := 2) (pc' := 16) rfl rfl sX3_63 gX3_lay (hT.1) ⟨Nat.le_of_ble_eq_true rfl, Nat.le_of_ble_eq_true rfl⟩ (Nat.le_of_ble_eq_true rfl) ⟨Nat.le_of_ble_eq_true rfl, Nat.le_of_ble_eq_true rfl⟩ ?_
      refine w_lay hT (fun _ f1 hT1 hF1 => ⟨rfl, ?_⟩) (fun q => absurd h1 q)
      refine x_aload_n (pc' := 17) rfl rfl rfl ?_
      refine x_iload_n (pc' := 18) rfl rfl rfl ?_
      refine x_iload_n (pc' := 19) rfl rfl rfl ?_
      refine x_cV2v (d := 2) (pc' := 22) rfl rfl sX3_63 gX3_lay (hT1.1) ⟨Nat.le_of_ble_eq_true rfl, Nat.le_of_ble_eq_true rfl⟩ (Nat.le_of_ble_eq_true rfl) ⟨Nat.le_of_ble_eq_true rfl, Nat.le_of_ble_eq_true rfl⟩ ?_
      refine w_lay hT1 (fun q => absurd q h2) (fun _ => ⟨rfl, ?_⟩)
      exact x_return rfl rfl (Nat.le_of_ble_eq_true rfl) (Nat.le_of_ble_eq_true rfl) (h _ _ hT1 ⟨rfl, fun _ q => absurd q d2⟩ hF1)
  · have h1 : ¬ t_has T (nI v) := fun q => d1 (by have h9 := q.2.1; rw [hn] at h9; exact (nI_ltI hv (by omega)).mp h9)
    by_cases d2 : w < n
    · have h2 := t_has_nI (T := T) hn hn9 d2
      refine x_aload_n (pc' := 1) rfl rfl rfl ?_
      refine x_iload_n (pc' := 2) rfl rfl rfl ?_
      refine x_cV1i (d := 2) (pc' := 5) rfl rfl sX3_59 gX3_beansOf (hT.1) ⟨Nat.le_of_ble_eq_true rfl, Nat.le_of_ble_eq_true rfl⟩ (Nat.le_of_ble_eq_true rfl) ⟨Nat.le_of_ble_eq_true rfl, Nat.le_of_ble_eq_true rfl⟩ ?_
      refine w_beansOf hT (fun q => absurd q h1) (fun _ => ⟨_, rfl, ?_⟩)
      refine x_istore_n (pc' := 6) (lv' := [(3, _), (0, _), (1, _), (2, _)]) rfl rfl (Nat.le_of_ble_eq_true rfl) rfl ?_
      refine x_aload_n (pc' := 7) rfl rfl rfl ?_
      refine x_iload_n (pc' := 8) rfl rfl rfl ?_
      refine x_aload_n (pc' := 9) rfl rfl rfl ?_
      refine x_iload_n (pc' := 10) rfl rfl rfl ?_
      refine x_cV1i (d := 2) (pc' := 13) rfl rfl sX3_59 gX3_beansOf (hT.1) ⟨Nat.le_of_ble_eq_true rfl, Nat.le_of_ble_eq_true rfl⟩ (Nat.le_of_ble_eq_true rfl) ⟨Nat.le_of_ble_eq_true rfl, Nat.le_of_ble_eq_true rfl⟩ ?_
      refine w_beansOf hT (fun _ => ⟨_, rfl, ?_⟩) (fun q => absurd h2 q)
      refine x_cV2v (d := 2) (pc' := 16) rfl rfl sX3_63 gX3_lay (hT.1) ⟨Nat.le_of_ble_eq_true rfl, Nat.le_of_ble_eq_true rfl⟩ (Nat.le_of_ble_eq_true rfl) ⟨Nat.le_of_ble_eq_true rfl, Nat.le_of_ble_eq_true rfl⟩ ?_
      refine w_lay hT (fun q => absurd q h1) (fun _ => ⟨rfl, ?_⟩)
      refine x_aload_n (pc' := 17) rfl rfl rfl ?_
      refine x_iload_n (pc' := 18) rfl rfl rfl ?_
      refine x_iload_n (pc' := 19) rfl rfl rfl ?_
      refine x_cV2v (d := 2) (pc' := 22) rfl rfl sX3_63 gX3_lay (hT.1) ⟨Nat.le_of_ble_eq_true rfl, Nat.le_of_ble_eq_true rfl⟩ (Nat.le_of_ble_eq_true rfl) ⟨Nat.le_of_ble_eq_true rfl, Nat.le_of_ble_eq_true rfl⟩ ?_
      refine w_lay hT (fun _ f2 hT2 hF2 => ⟨rfl, ?_⟩) (fun q => absurd h2 q)
      exact x_return rfl rfl (Nat.le_of_ble_eq_true rfl) (Nat.le_of_ble_eq_true rfl) (h _ _ hT2 ⟨rfl, fun q _ => absurd q d1⟩ hF2)
    · have h2 : ¬ t_has T (nI w) := fun q => d2 (by have h9 := q.2.1; rw [hn] at h9; exact (nI_ltI hw (by omega)).mp h9)
      refine x_aload_n (pc' := 1) rfl rfl rfl ?_
      refine x_iload_n (pc' := 2) rfl rfl rfl ?_
      refine x_cV1i (d := 2) (pc' := 5) rfl rfl sX3_59 gX3_beansOf (hT.1) ⟨Nat.le_of_ble_eq_true rfl, Nat.le_of_ble_eq_true rfl⟩ (Nat.le_of_ble_eq_true rfl) ⟨Nat.le_of_ble_eq_true rfl, Nat.le_of_ble_eq_true rfl⟩ ?_
      refine w_beansOf hT (fun q => absurd q h1) (fun _ => ⟨_, rfl, ?_⟩)
      refine x_istore_n (pc' := 6) (lv' := [(3, _), (0, _), (1, _), (2, _)]) rfl rfl (Nat.le_of_ble_eq_true rfl) rfl ?_
      refine x_aload_n (pc' := 7) rfl rfl rfl ?_
      refine x_iload_n (pc' := 8) rfl rfl rfl ?_
      refine x_aload_n (pc' := 9) rfl rfl rfl ?_
      refine x_iload_n (pc' := 10) rfl rfl rfl ?_
      refine x_cV1i (d := 2) (pc' := 13) rfl rfl sX3_59 gX3_beansOf (hT.1) ⟨Nat.le_of_ble_eq_true rfl, Nat.le_of_ble_eq_true rfl⟩ (Nat.le_of_ble_eq_true rfl) ⟨Nat.le_of_ble_eq_true rfl, Nat.le_of_ble_eq_true rfl⟩ ?_
      refine w_beansOf hT (fun q => absurd q h2) (fun _ => ⟨_, rfl, ?_⟩)
      refine x_cV2v (d := 2) (pc' := 16) rfl rfl sX3_63 gX3_lay (hT.1) ⟨Nat.le_of_ble_eq_true rfl, Nat.le_of_ble_eq_true rfl⟩ (Nat.le_of_ble_eq_true rfl) ⟨Nat.le_of_ble_eq_true rfl, Nat.le_of_ble_eq_true rfl⟩ ?_
      refine w_lay hT (fun q => absurd q h1) (fun _ => ⟨rfl, ?_⟩)
      refine x_aload_n (pc' := 17) rfl rfl rfl ?_
      refine x_iload_n (pc' := 18) rfl rfl rfl ?_
      refine x_iload_n (pc' := 19) rfl rfl rfl ?_
      refine x_cV2v (d := 2) (pc' := 22) rfl rfl sX3_63 gX3_lay (hT.1) ⟨Nat.le_of_ble_eq_true rfl, Nat.le_of_ble_eq_true rfl⟩ (Nat.le_of_ble_eq_true rfl) ⟨Nat.le_of_ble_eq_true rfl, Nat.le_of_ble_eq_true rfl⟩ ?_
      refine w_lay hT (fun q => absurd q h2) (fun _ => ⟨rfl, ?_⟩)
      exact x_return rfl rfl (Nat.le_of_ble_eq_true rfl) (Nat.le_of_ble_eq_true rfl) (h _ _ hT ⟨rfl, fun q _ => absurd q d1⟩ x_fr.rf)
/-- the table that a game is tried on -/
def c_tb (z : Nat) (f : x_H) (S0 : x_S) (T : x_T) (G : q_G × Nat) : Prop := x_Sys z f (S0.1, x_ut S0.2.1 2 T, S0.2.2.1, S0.2.2.2) ∧ t_is T G.1 ∧ T.2.2.2 4 = nI G.2 ∧ g_ok 99 G.1 ∧ G.2 ≤ 999
theorem c_tb_t {S0 : x_S} {G : q_G × Nat} (h : c_tb z f S0 T G) : x_t z f 9 T := h.1.2.1 2 (by decide)
abbrev c_tx (z : Nat) (f : x_H) (S0 : x_S) (T : x_T) : Prop := x_Sys z f (S0.1, x_ut S0.2.1 2 T, S0.2.2.1, S0.2.2.2)
theorem l_addBowl {s : Nat} {S0 : x_S} {G : q_G × Nat} (hC : c_tb z f S0 T G) (hL : q_L S0 L ℓ) (hs : s < 2 ^ 19) (h98 : q_t L ℓ s = 98) (hsk : q_sk (q_t L ℓ) s = none) (h1 : ∀ G', q_do (q_t L ℓ) s G = some G' → ∀ (f' : x_H) (T' : x_T), c_tb z f' S0 T' G' → x_fr (fun q => 59 ≤ q) f f' → post (some (.int 1)) f') (h0 : q_do (q_t L ℓ) s G = none → post (some (.int 0)) f) : Y E 3 mX2_addBowl [.ref 17, .int (nI s), .ref 9] z f 0 0 post := by
  refine Y.intro gX2_addBowl (lv := [(0, .ref 17), (1, .int (nI s)), (2, .ref 9)]) rfl (Nat.le_of_ble_eq_true rfl) ?_
  obtain ⟨s1, s2, s3, s4⟩ := q_sk_no hsk
  have hdn := (q_dn_is hsk).1 h98
  have hp0 : q_p0 (q_t L ℓ) s = s + 2 := if_pos h98
  have hd2 := q_sk_dg hsk (s + 2) (by omega) (by unfold q_ed; omega)
  have hd3 := q_sk_dg hsk (s + 3) (by omega) (by unfold q_ed; omega)
  have hc := q_t_le (L := L) hL.2.2.2
  have hkd := (q_kd_in (s2 h98)).2.2.2
  have hdo : q_do (q_t L ℓ) s G = if 20 < 10 * (q_t L ℓ (s + 2) - 48) + (q_t L ℓ (s + 3) - 48) ∨ g_n G.1 = 9 then none else some (g_add G.1 (q_kd (q_t L ℓ (s + 1))) (10 * (q_t L ℓ (s + 2) - 48) + (q_t L ℓ (s + 3) - 48)), G.2) := by unfold q_do; rw [if_pos h98]
  rw [hdo] at h1 h0
  have hd2a := hd2.1
  have hd2b := hd2.2
  have hd3a := hd3.1
  have hd3b := hd3.2
  have hok := hC.2.2.2.1
  have hT := c_tb_t hC
  have hS : x_Sys z f (S0.1, x_ut S0.2.1 2 T, S0.2.2.1, S0.2.2.2) := hC.1
  refine x_bipush (pc' := 2) rfl rfl bipush_10 ?_
  refine x_aload_n (pc' := 3) rfl rfl rfl ?_
  refine x_iload_n (pc' := 4) rfl rfl rfl ?_
  refine x_iconst (pc' := 5) rfl rfl iconst_2 ?_
  refine x_iadd (pc' := 6) rfl rfl ?_
  refine x_eqi (show nI s + 2 = nI (s + 2) from nI_add s 2) ?_
  refine x_cV1i (d := 2) (pc' := 9) rfl rfl sX2_50 gX2_digitAt (hS.lt) ⟨Nat.le_of_ble_eq_true rfl, Nat.le_of_ble_eq_true rfl⟩ (Nat.le_of_ble_eq_true rfl) ⟨Nat.le_of_ble_eq_true rfl, Nat.le_of_ble_eq_true rfl⟩ ?_
  refine l_digit hS hL (by omega) ⟨_, rfl, ?_⟩
  rw [if_pos hd2]
  refine x_imul (pc' := 10) rfl rfl ?_
  refine x_eqi (show (10 : Int32) * nI (q_t L ℓ (s + 2) - 48) = nI (10 * (q_t L ℓ (s + 2) - 48)) from pk_mul 10 _) ?_
  refine x_aload_n (pc' := 11) rfl rfl rfl ?_
  refine x_iload_n (pc' := 12) rfl rfl rfl ?_
  refine x_iconst (pc' := 13) rfl rfl iconst_3 ?_
  refine x_iadd (pc' := 14) rfl rfl ?_
  refine x_eqi (show nI s + 3 = nI (s + 3) from nI_add s 3) ?_
  refine x_cV1i (d := 2) (pc' := 17) rfl rfl sX2_50 gX2_digitAt (hS.lt) ⟨Nat.le_of_ble_eq_true rfl, Nat.le_of_ble_eq_true rfl⟩ (Nat.le_of_ble_eq_true rfl) ⟨Nat.le_of_ble_eq_true rfl, Nat.le_of_ble_eq_true rfl⟩ ?_
  refine l_digit hS hL (by omega) ⟨_, rfl, ?_⟩
  rw [if_pos hd3]
  refine x_iadd (pc' := 18) rfl rfl ?_
  refine x_eqi (nI_add _ _) ?_
  refine x_istore_n (pc' := 19) (lv' := [(3, _), (0, _), (1, _), (2, _)]) rfl rfl (Nat.le_of_ble_eq_true rfl) rfl ?_
  refine x_iload_n (pc' := 20) rfl rfl rfl ?_
  refine x_bipush (pc' := 22) rfl rfl bipush_20 ?_
  by_cases d1 : 20 < 10 * (q_t L ℓ (s + 2) - 48) + (q_t L ℓ (s + 3) - 48)
  · rw [if_pos (Or.inl d1)] at h0
    refine x_icmp_gt (tgt := 47) (pc' := 25) rfl rfl rfl (fun _ => ?_) (fun q => absurd (nI_lt (a := 20) d1 (by omega)) q)
    refine x_iconst (pc' := 48) rfl rfl iconst_0 ?_
    exact x_ireturn rfl rfl rfl (Nat.le_of_ble_eq_true rfl) (Nat.le_of_ble_eq_true rfl) (h0 rfl)
  · refine x_icmp_gt (tgt := 47) (pc' := 25) rfl rfl rfl (fun q => absurd q (nI_nlt (a := 20) (by omega) (by omega))) (fun _ => ?_)
    refine x_aload_n (pc' := 26) rfl rfl rfl ?_
    refine x_aload_n (pc' := 27) rfl rfl rfl ?_
    refine x_iload_n (pc' := 28) rfl rfl rfl ?_
    refine x_iconst (pc' := 29) rfl rfl iconst_1 ?_
    refine x_iadd (pc' := 30) rfl rfl ?_
    refine x_eqi (nI_1 _) ?_
    refine x_cV1i (d := 1) (pc' := 33) rfl rfl sX2_34 gX2_letterAt (hS.lt) ⟨Nat.le_of_ble_eq_true rfl, Nat.le_of_ble_eq_true rfl⟩ (Nat.le_of_ble_eq_true rfl) ⟨Nat.le_of_ble_eq_true rfl, Nat.le_of_ble_eq_true rfl⟩ ?_
    refine l_at hS hL (by omega) ⟨_, rfl, ?_⟩
    refine x_cS1i (d := 1) (pc' := 36) rfl rfl sX2_40 gX2_kindFor ⟨Nat.le_of_ble_eq_true rfl, Nat.le_of_ble_eq_true rfl⟩ (Nat.le_of_ble_eq_true rfl) ⟨Nat.le_of_ble_eq_true rfl, Nat.le_of_ble_eq_true rfl⟩ ?_
    refine l_kind (hc (s + 1)) ⟨_, rfl, ?_⟩
    rw [if_neg (s2 h98)]
    refine x_iload_n (pc' := 37) rfl rfl rfl ?_
    refine x_cV2i (d := 1) (pc' := 40) rfl rfl sX2_78 gX3_addBowl (hT.1) ⟨Nat.le_of_ble_eq_true rfl, Nat.le_of_ble_eq_true rfl⟩ (Nat.le_of_ble_eq_true rfl) ⟨Nat.le_of_ble_eq_true rfl, Nat.le_of_ble_eq_true rfl⟩ ?_
    refine w_addB hT hC.2.1.2.2.2.1 hok.1 (fun d3 f1 hT1 hF1 => ⟨_, rfl, ?_⟩) (fun d3 => ⟨_, rfl, ?_⟩)
    · have hC1 : c_tb z f1 S0 (upd T.1 (g_n G.1) (nI (q_kd (q_t L ℓ (s + 1)))), upd T.2.1 (g_n G.1) (nI (10 * (q_t L ℓ (s + 2) - 48) + (q_t L ℓ (s + 3) - 48))), T.2.2.1, upd T.2.2.2 0 (nI (g_n G.1 + 1))) (g_add G.1 (q_kd (q_t L ℓ (s + 1))) (10 * (q_t L ℓ (s + 2) - 48) + (q_t L ℓ (s + 3) - 48)), G.2) := by
        refine ⟨hS.tt (j := 2) (by decide) hT1 hF1, ⟨?_, ?_, hC.2.1.2.2.1, rfl, hC.2.1.2.2.2.2.1, hC.2.1.2.2.2.2.2.1, hC.2.1.2.2.2.2.2.2⟩, hC.2.2.1, g_add_ok hok d3 hkd (by omega), hC.2.2.2.2⟩
        · show upd T.1 (g_n G.1) (nI (q_kd (q_t L ℓ (s + 1)))) = _
          rw [hC.2.1.1, q_up_I]
          rfl
        · show upd T.2.1 (g_n G.1) (nI (10 * (q_t L ℓ (s + 2) - 48) + (q_t L ℓ (s + 3) - 48))) = _
          rw [hC.2.1.2.1, q_up_I]
          rfl
      refine x_if_eq (tgt := 47) (pc' := 43) rfl rfl rfl (fun c40 => absurd c40 ((by decide))) (fun _ => ?_)
      refine x_iconst (pc' := 44) rfl rfl iconst_1 ?_
      refine x_goto (tgt := 48) rfl rfl ?_
      exact x_ireturn rfl rfl rfl (Nat.le_of_ble_eq_true rfl) (Nat.le_of_ble_eq_true rfl) (h1 _ (if_neg (fun q => q.elim d1 (by omega))) _ _ hC1 (c_fr0 (j := 2) (by decide) hF1))
    · rw [if_pos (Or.inr d3)] at h0
      refine x_if_eq (tgt := 47) (pc' := 43) rfl rfl rfl (fun _ => ?_) (fun c40 => absurd (rfl) c40)
      refine x_iconst (pc' := 48) rfl rfl iconst_0 ?_
      exact x_ireturn rfl rfl rfl (Nat.le_of_ble_eq_true rfl) (Nat.le_of_ble_eq_true rfl) (h0 rfl)
theorem l_mksL {s e : Nat} {S0 : x_S} (hL : q_L S0 L ℓ) (he : e < L) (h59 : q_t L ℓ e = 59) (hdg : ∀ j, s ≤ j → j < e → q_dg (q_t L ℓ j)) (f0 : x_H) (R : Option (q_G × Nat)) (k1 : ∀ G', R = some G' → ∀ (f' : x_H) (T' : x_T), c_tb z f' S0 T' G' → x_fr (fun q => 59 ≤ q) f0 f' → post (some (.int 1)) f') (k0 : R = none → ∀ (f' : x_H) (T' : x_T), c_tx z f' S0 T' → x_fr (fun q => 59 ≤ q) f0 f' → post (some (.int 0)) f') : ∀ (k i : Nat) (G : q_G × Nat) (f : x_H) (T : x_T), i + k = e → s ≤ i → q_ms2 (q_t L ℓ) k i G = R → c_tb z f S0 T G → x_fr (fun q => 59 ≤ q) f0 f → X E (x_rm 5 0 0) mX2_makeMoves (x_QM E z 0 0 post) 2 [(3, .int (nI i)), (0, .ref 17), (1, .int (nI s)), (2, .ref 9)] [] z f 0 0 := by
  have l2 := hL.2.1
  intro k
  induction k with
  | zero =>
    intro i G f T hi hsi hR hC hF
    have hi2 : i = e := by omega
    subst hi2
    have hR2 : some G = R := hR
    have hS : x_Sys z f (S0.1, x_ut S0.2.1 2 T, S0.2.2.1, S0.2.2.2) := hC.1
    refine x_iload_n (pc' := 3) rfl rfl rfl ?_
    refine x_aload_n (pc' := 4) rfl rfl rfl ?_
    refine x_get (pc' := 7) rfl rfl rfl (hS.lt) rfl ?_
    refine x_eqi hL.1 ?_
    refine x_icmp_ge (tgt := 59) (pc' := 10) rfl rfl rfl (fun c7 => absurd c7 ((nI_ge he (by omega)))) (fun _ => ?_)
    refine x_aload_n (pc' := 11) rfl rfl rfl ?_
    refine x_iload_n (pc' := 12) rfl rfl rfl ?_
    refine x_cV1i (d := 2) (pc' := 15) rfl rfl sX2_50 gX2_digitAt (hS.lt) ⟨Nat.le_of_ble_eq_true rfl, Nat.le_of_ble_eq_true rfl⟩ (Nat.le_of_ble_eq_true rfl) ⟨Nat.le_of_ble_eq_true rfl, Nat.le_of_ble_eq_true rfl⟩ ?_
    refine l_digit hS hL (by omega) ⟨_, rfl, ?_⟩
    rw [h59, if_neg (by decide)]
    refine x_bipush (pc' := 17) rfl rfl bipush_m9 ?_
    refine x_icmp_eq (tgt := 59) (pc' := 20) rfl rfl rfl (fun _ => ?_) (fun c17 => absurd (rfl) c17)
    refine x_iconst (pc' := 60) rfl rfl iconst_1 ?_
    exact x_ireturn rfl rfl rfl (Nat.le_of_ble_eq_true rfl) (Nat.le_of_ble_eq_true rfl) (k1 G hR2.symm _ _ hC hF)
  | succ k ih =>
    intro i G f T hi hsi hR hC hF
    have hd := hdg i hsi (by omega)
    have hda := hd.1
    have hdb := hd.2
    have hS : x_Sys z f (S0.1, x_ut S0.2.1 2 T, S0.2.2.1, S0.2.2.2) := hC.1
    have hT := c_tb_t hC
    have hok := hC.2.2.2.1
    have hm := hC.2.2.2.2
    replace hR : (if g_can G.1 (q_t L ℓ i - 48) ∧ ¬ G.2 = 999 then q_ms2 (q_t L ℓ) k (i + 1) (g_mv G.1 (q_t L ℓ i - 48), G.2 + 1) else none) = R := hR
    refine x_iload_n (pc' := 3) rfl rfl rfl ?_
    refine x_aload_n (pc' := 4) rfl rfl rfl ?_
    refine x_get (pc' := 7) rfl rfl rfl (hS.lt) rfl ?_
    refine x_eqi hL.1 ?_
    refine x_icmp_ge (tgt := 59) (pc' := 10) rfl rfl rfl (fun c7 => absurd c7 ((nI_ge (by omega) (by omega)))) (fun _ => ?_)
    refine x_aload_n (pc' := 11) rfl rfl rfl ?_
    refine x_iload_n (pc' := 12) rfl rfl rfl ?_
    refine x_cV1i (d := 2) (pc' := 15) rfl rfl sX2_50 gX2_digitAt (hS.lt) ⟨Nat.le_of_ble_eq_true rfl, Nat.le_of_ble_eq_true rfl⟩ (Nat.le_of_ble_eq_true rfl) ⟨Nat.le_of_ble_eq_true rfl, Nat.le_of_ble_eq_true rfl⟩ ?_
    refine l_digit hS hL (by omega) ⟨_, rfl, ?_⟩
    rw [if_pos hd]
    refine x_bipush (pc' := 17) rfl rfl bipush_m9 ?_
    refine x_icmp_eq (tgt := 59) (pc' := 20) rfl rfl rfl (fun c17 => absurd c17 ((fun q => by have h2 := nI_pos (n := q_t L ℓ i - 48) (by omega); rw [q] at h2; exact h2 (by decide)))) (fun _ => ?_)
    refine x_aload_n (pc' := 21) rfl rfl rfl ?_
    refine x_aload_n (pc' := 22) rfl rfl rfl ?_
    refine x_iload_n (pc' := 23) rfl rfl rfl ?_
    refine x_cV1i (d := 2) (pc' := 26) rfl rfl sX2_50 gX2_digitAt (hS.lt) ⟨Nat.le_of_ble_eq_true rfl, Nat.le_of_ble_eq_true rfl⟩ (Nat.le_of_ble_eq_true rfl) ⟨Nat.le_of_ble_eq_true rfl, Nat.le_of_ble_eq_true rfl⟩ ?_
    refine l_digit hS hL (by omega) ⟨_, rfl, ?_⟩
    rw [if_pos hd]
    refine x_cV1i (d := 2) (pc' := 29) rfl rfl sX2_81 gX3_canMove (hT.1) ⟨Nat.le_of_ble_eq_true rfl, Nat.le_of_ble_eq_true rfl⟩ (Nat.le_of_ble_eq_true rfl) ⟨Nat.le_of_ble_eq_true rfl, Nat.le_of_ble_eq_true rfl⟩ ?_
    refine w_can hT hC.2.1 hok (by decide) (by omega) (fun d2 => ⟨_, rfl, ?_⟩) (fun d2 => ⟨_, rfl, ?_⟩)
    · refine x_if_eq (tgt := 42) (pc' := 32) rfl rfl rfl (fun c29 => absurd c29 ((by decide))) (fun _ => ?_)
      refine x_aload_n (pc' := 33) rfl rfl rfl ?_
      refine x_get (pc' := 36) rfl rfl rfl (hT.1) rfl ?_
      refine x_eqi hC.2.2.1 ?_
      refine x_sipush (pc' := 39) rfl rfl sipush_999 ?_
      by_cases d3 : G.2 = 999
      · rw [if_neg (fun q => q.2 d3)] at hR
        refine x_icmp_lt (tgt := 44) (pc' := 42) rfl rfl rfl (fun q => absurd q (by rw [d3]; decide)) (fun _ => ?_)
        refine x_iconst (pc' := 43) rfl rfl iconst_0 ?_
        exact x_ireturn rfl rfl rfl (Nat.le_of_ble_eq_true rfl) (Nat.le_of_ble_eq_true rfl) (k0 hR.symm _ _ hC.1 hF)
      · rw [if_pos ⟨d2, d3⟩] at hR
        refine x_icmp_lt (tgt := 44) (pc' := 42) rfl rfl rfl (fun _ => ?_) (fun q => absurd (nI_lt (b := 999) (by omega) (by decide)) q)
        refine x_aload_n (pc' := 45) rfl rfl rfl ?_
        refine x_aload_n (pc' := 46) rfl rfl rfl ?_
        refine x_iload_n (pc' := 47) rfl rfl rfl ?_
        refine x_cV1i (d := 2) (pc' := 50) rfl rfl sX2_50 gX2_digitAt (hS.lt) ⟨Nat.le_of_ble_eq_true rfl, Nat.le_of_ble_eq_true rfl⟩ (Nat.le_of_ble_eq_true rfl) ⟨Nat.le_of_ble_eq_true rfl, Nat.le_of_ble_eq_true rfl⟩ ?_
        refine l_digit hS hL (by omega) ⟨_, rfl, ?_⟩
        rw [if_pos hd]
        refine x_cV1v (d := 4) (pc' := 53) rfl rfl sX2_87 gX3_makeMove (hT.1) ⟨Nat.le_of_ble_eq_true rfl, Nat.le_of_ble_eq_true rfl⟩ (Nat.le_of_ble_eq_true rfl) ⟨Nat.le_of_ble_eq_true rfl, Nat.le_of_ble_eq_true rfl⟩ ?_
        refine w_move hT hC.2.1 hok (by decide) d2.2.1 (fun f1 T1 hT1 g1 g4 g5 g6 g7 g8 hF1 => ⟨rfl, ?_⟩)
        refine x_iinc (pc' := 56) (lv' := [(3, _), (0, _), (1, _), (2, _)]) rfl rfl (Nat.le_of_ble_eq_true rfl) rfl (nI_1 i) rfl ?_
        refine x_goto (tgt := 2) rfl rfl ?_
        refine ih (i + 1) _ _ T1 (by omega) (by omega) hR ⟨hS.tt (j := 2) (by decide) hT1 hF1, g1, ?_, g_mv_ok hok (by decide) (by decide) d2.2.1, by show G.2 + 1 ≤ 999; omega⟩ (hF.trans (c_fr0 (j := 2) (by decide) hF1))
        rw [g4, hC.2.2.1]
        exact nI_1 _
    · rw [if_neg (fun q => d2 q.1)] at hR
      refine x_if_eq (tgt := 42) (pc' := 32) rfl rfl rfl (fun _ => ?_) (fun c29 => absurd (rfl) c29)
      refine x_iconst (pc' := 43) rfl rfl iconst_0 ?_
      exact x_ireturn rfl rfl rfl (Nat.le_of_ble_eq_true rfl) (Nat.le_of_ble_eq_true rfl) (k0 hR.symm _ _ hC.1 hF)
theorem l_makeMoves {s e : Nat} {S0 : x_S} {G : q_G × Nat} (hC : c_tb z f S0 T G) (hL : q_L S0 L ℓ) (he : e < L) (hse : s ≤ e) (h59 : q_t L ℓ e = 59) (hdg : ∀ j, s ≤ j → j < e → q_dg (q_t L ℓ j)) (k1 : ∀ G', q_ms2 (q_t L ℓ) (e - s) s G = some G' → ∀ (f' : x_H) (T' : x_T), c_tb z f' S0 T' G' → x_fr (fun q => 59 ≤ q) f f' → post (some (.int 1)) f') (k0 : q_ms2 (q_t L ℓ) (e - s) s G = none → ∀ (f' : x_H) (T' : x_T), c_tx z f' S0 T' → x_fr (fun q => 59 ≤ q) f f' → post (some (.int 0)) f') : Y E 5 mX2_makeMoves [.ref 17, .int (nI s), .ref 9] z f 0 0 post := by
  refine Y.intro gX2_makeMoves (lv := [(0, .ref 17), (1, .int (nI s)), (2, .ref 9)]) rfl (Nat.le_of_ble_eq_true rfl) ?_
  refine x_iload_n (pc' := 1) rfl rfl rfl ?_
  refine x_istore_n (pc' := 2) (lv' := [(3, _), (0, _), (1, _), (2, _)]) rfl rfl (Nat.le_of_ble_eq_true rfl) rfl ?_
  exact l_mksL hL he h59 hdg f _ k1 k0 (e - s) s G f T (by omega) (Nat.le_refl _) rfl hC x_fr.rf
theorem c_tx_i {S0 : x_S} {f' : x_H} {U : x_T} (h : c_tx z f S0 T) (hU : x_t z f' 9 U) (hF : x_fr (x_ot 9) f f') : c_tx z f' S0 U := h.tt (j := 2) (by decide) hU hF
theorem l_apply {s : Nat} {S0 : x_S} {G : q_G × Nat} (hC : c_tb z f S0 T G) (hL : q_L S0 L ℓ) (hs : s < L) (hsk : q_sk (q_t L ℓ) s = none) (h1 : ∀ G', q_do (q_t L ℓ) s G = some G' → ∀ (f' : x_H) (T' : x_T), c_tb z f' S0 T' G' → x_fr (fun q => 59 ≤ q) f f' → post (some (.int 1)) f') (h0 : q_do (q_t L ℓ) s G = none → ∀ (f' : x_H) (T' : x_T), c_tx z f' S0 T' → x_fr (fun q => 59 ≤ q) f f' → post (some (.int 0)) f') : Y E 6 mX2_apply [.ref 17, .int (nI s), .ref 9] z f 0 0 post := by
  refine Y.intro gX2_apply (lv := [(0, .ref 17), (1, .int (nI s)), (2, .ref 9)]) rfl (Nat.le_of_ble_eq_true rfl) ?_
  obtain ⟨s1, s2, s3, s4⟩ := q_sk_no hsk
  obtain ⟨n1, n2, n3, n4⟩ := q_dn_is hsk
  have hdg := q_sk_dg hsk
  have hL96 := hL.2.1
  have hok := hC.2.2.2.1
  have hn9 := hok.1
  have hm := hC.2.2.2.2
  have hel := q_ed_lt hL.2.2.2 hsk
  have hT := c_tb_t hC
  obtain ⟨t1, t2, t3, t4, t5, t6, t7⟩ := hC.2.1
  have hS : x_Sys z f (S0.1, x_ut S0.2.1 2 T, S0.2.2.1, S0.2.2.2) := hC.1
  rcases q_md_in s1 with h98 | h99 | h102 | h108 | h116 | h115
  ·
    refine x_aload_n (pc' := 1) rfl rfl rfl ?_
    refine x_iload_n (pc' := 2) rfl rfl rfl ?_
    refine x_iconst (pc' := 3) rfl rfl iconst_1 ?_
    refine x_iadd (pc' := 4) rfl rfl ?_
    refine x_eqi (nI_1 _) ?_
    refine x_cV1i (d := 2) (pc' := 7) rfl rfl sX2_50 gX2_digitAt (hS.lt) ⟨Nat.le_of_ble_eq_true rfl, Nat.le_of_ble_eq_true rfl⟩ (Nat.le_of_ble_eq_true rfl) ⟨Nat.le_of_ble_eq_true rfl, Nat.le_of_ble_eq_true rfl⟩ ?_
    refine l_digit hS hL (by omega) ⟨_, rfl, ?_⟩
    refine x_istore_n (pc' := 8) (lv' := [(3, _), (0, _), (1, _), (2, _)]) rfl rfl (Nat.le_of_ble_eq_true rfl) rfl ?_
    refine x_aload_n (pc' := 9) rfl rfl rfl ?_
    refine x_iload_n (pc' := 10) rfl rfl rfl ?_
    refine x_iconst (pc' := 11) rfl rfl iconst_2 ?_
    refine x_iadd (pc' := 12) rfl rfl ?_
    refine x_eqi (show nI s + 2 = nI (s + 2) from nI_add s 2) ?_
    refine x_cV1i (d := 2) (pc' := 15) rfl rfl sX2_50 gX2_digitAt (hS.lt) ⟨Nat.le_of_ble_eq_true rfl, Nat.le_of_ble_eq_true rfl⟩ (Nat.le_of_ble_eq_true rfl) ⟨Nat.le_of_ble_eq_true rfl, Nat.le_of_ble_eq_true rfl⟩ ?_
    refine l_digit hS hL (by omega) ⟨_, rfl, ?_⟩
    refine x_istore (pc' := 17) (lv' := [(4, _), (3, _), (0, _), (1, _), (2, _)]) rfl rfl (Nat.le_of_ble_eq_true rfl) rfl ?_
    refine x_aload_n (pc' := 18) rfl rfl rfl ?_
    refine x_iload_n (pc' := 19) rfl rfl rfl ?_
    refine x_cV1i (d := 1) (pc' := 22) rfl rfl sX2_34 gX2_letterAt (hS.lt) ⟨Nat.le_of_ble_eq_true rfl, Nat.le_of_ble_eq_true rfl⟩ (Nat.le_of_ble_eq_true rfl) ⟨Nat.le_of_ble_eq_true rfl, Nat.le_of_ble_eq_true rfl⟩ ?_
    refine l_at hS hL (by omega) ⟨_, rfl, ?_⟩
    refine x_eqi (show q_cI (q_t L ℓ s) = 98 from by rw [h98]; decide) ?_
    refine x_lookup (off := 50) (tgt := 72) rfl (by decide) (by decide) rfl ?_
    refine x_aload_n (pc' := 73) rfl rfl rfl ?_
    refine x_iload_n (pc' := 74) rfl rfl rfl ?_
    refine x_aload_n (pc' := 75) rfl rfl rfl ?_
    refine x_cV2i (d := 3) (pc' := 78) rfl rfl sX2_53 gX2_addBowl (hS.lt) ⟨Nat.le_of_ble_eq_true rfl, Nat.le_of_ble_eq_true rfl⟩ (Nat.le_of_ble_eq_true rfl) ⟨Nat.le_of_ble_eq_true rfl, Nat.le_of_ble_eq_true rfl⟩ ?_
    refine l_addBowl hC hL (by omega) h98 hsk (fun G' e1 f1 T1 hC1 hF1 => ⟨_, rfl, ?_⟩) (fun e0 => ⟨_, rfl, ?_⟩)
    · exact x_ireturn rfl rfl rfl (Nat.le_of_ble_eq_true rfl) (Nat.le_of_ble_eq_true rfl) (h1 _ e1 _ _ hC1 hF1)
    · exact x_ireturn rfl rfl rfl (Nat.le_of_ble_eq_true rfl) (Nat.le_of_ble_eq_true rfl) (h0 e0 _ _ hC.1 x_fr.rf)
  · have hdn := n2 h99
    have hp0 : q_p0 (q_t L ℓ) s = s + 1 := if_neg (by omega)
    have hed : q_ed (q_t L ℓ) s = s + 3 := by unfold q_ed; rw [hp0, hdn]
    have hd1 := hdg (s + 1) (by omega) (by omega)
    have hd2 := hdg (s + 2) (by omega) (by omega)
    have hv9 : q_t L ℓ (s + 1) - 48 ≤ 9 := by have := hd1.2; omega
    have hw9 : q_t L ℓ (s + 2) - 48 ≤ 9 := by have := hd2.2; omega
    have hdo : q_do (q_t L ℓ) s G = if q_t L ℓ (s + 1) - 48 < g_n G.1 ∧ q_t L ℓ (s + 2) - 48 < g_n G.1 ∧ ¬ q_t L ℓ (s + 1) - 48 = q_t L ℓ (s + 2) - 48 then some (g_sw G.1 (q_t L ℓ (s + 1) - 48) (q_t L ℓ (s + 2) - 48), G.2) else none := by
      unfold q_do
      rw [if_neg (by omega), if_neg (by omega), if_pos h99]
    have hkk : ∀ G', q_do (q_t L ℓ) s G = some G' → g_ok 99 G'.1 ∧ G'.2 ≤ 999 := fun G' e => q_do_ok hsk hok hm e
    rw [hdo] at h1 h0 hkk
    clear hdo
    refine x_aload_n (pc' := 1) rfl rfl rfl ?_
    refine x_iload_n (pc' := 2) rfl rfl rfl ?_
    refine x_iconst (pc' := 3) rfl rfl iconst_1 ?_
    refine x_iadd (pc' := 4) rfl rfl ?_
    refine x_eqi (nI_1 _) ?_
    refine x_cV1i (d := 2) (pc' := 7) rfl rfl sX2_50 gX2_digitAt (hS.lt) ⟨Nat.le_of_ble_eq_true rfl, Nat.le_of_ble_eq_true rfl⟩ (Nat.le_of_ble_eq_true rfl) ⟨Nat.le_of_ble_eq_true rfl, Nat.le_of_ble_eq_true rfl⟩ ?_
    refine l_digit hS hL (by omega) ⟨_, rfl, ?_⟩
    rw [if_pos hd1]
    refine x_istore_n (pc' := 8) (lv' := [(3, _), (0, _), (1, _), (2, _)]) rfl rfl (Nat.le_of_ble_eq_true rfl) rfl ?_
    refine x_aload_n (pc' := 9) rfl rfl rfl ?_
    refine x_iload_n (pc' := 10) rfl rfl rfl ?_
    refine x_iconst (pc' := 11) rfl rfl iconst_2 ?_
    refine x_iadd (pc' := 12) rfl rfl ?_
    refine x_eqi (show nI s + 2 = nI (s + 2) from nI_add s 2) ?_
    refine x_cV1i (d := 2) (pc' := 15) rfl rfl sX2_50 gX2_digitAt (hS.lt) ⟨Nat.le_of_ble_eq_true rfl, Nat.le_of_ble_eq_true rfl⟩ (Nat.le_of_ble_eq_true rfl) ⟨Nat.le_of_ble_eq_true rfl, Nat.le_of_ble_eq_true rfl⟩ ?_
    refine l_digit hS hL (by omega) ⟨_, rfl, ?_⟩
    rw [if_pos hd2]
    refine x_istore (pc' := 17) (lv' := [(4, _), (3, _), (0, _), (1, _), (2, _)]) rfl rfl (Nat.le_of_ble_eq_true rfl) rfl ?_
    refine x_aload_n (pc' := 18) rfl rfl rfl ?_
    refine x_iload_n (pc' := 19) rfl rfl rfl ?_
    refine x_cV1i (d := 1) (pc' := 22) rfl rfl sX2_34 gX2_letterAt (hS.lt) ⟨Nat.le_of_ble_eq_true rfl, Nat.le_of_ble_eq_true rfl⟩ (Nat.le_of_ble_eq_true rfl) ⟨Nat.le_of_ble_eq_true rfl, Nat.le_of_ble_eq_true rfl⟩ ?_
    refine l_at hS hL (by omega) ⟨_, rfl, ?_⟩
    refine x_eqi (show q_cI (q_t L ℓ s) = 99 from by rw [h99]; decide) ?_
    generalize hv : q_t L ℓ (s + 1) - 48 = v at *
    generalize hw : q_t L ℓ (s + 2) - 48 = w at *
    refine x_lookup (off := 105) (tgt := 127) rfl (by decide) (by decide) rfl ?_
    refine x_aload_n (pc' := 128) rfl rfl rfl ?_
    refine x_iload_n (pc' := 129) rfl rfl rfl ?_
    refine x_iload (pc' := 131) rfl rfl rfl ?_
    refine x_cV2v (d := 3) (pc' := 134) rfl rfl sX2_67 gX3_swapBeans (hT.1) ⟨Nat.le_of_ble_eq_true rfl, Nat.le_of_ble_eq_true rfl⟩ (Nat.le_of_ble_eq_true rfl) ⟨Nat.le_of_ble_eq_true rfl, Nat.le_of_ble_eq_true rfl⟩ ?_
    refine w_swap (v := v) (w := w) hT t4 hn9 (by omega) (by omega) (fun f9 T9 hT9 e9 hF9 => ⟨rfl, ?_⟩)
    have hX9 : c_tx z f9 S0 T9 := c_tx_i hC.1 hT9 hF9
    have hF : x_fr (fun q => 59 ≤ q) f f9 := c_fr0 (j := 2) (by decide) hF9
    have hn9' : T9.2.2.2 0 = nI (g_n G.1) := by rw [e9.1]; exact t4
    refine x_iload_n (pc' := 135) rfl rfl rfl ?_
    refine x_iload (pc' := 137) rfl rfl rfl ?_
    by_cases d1 : v = w
    · rw [if_neg (fun q => q.2.2 d1)] at h0
      refine x_icmp_eq (tgt := 161) (pc' := 140) rfl rfl rfl (fun _ => ?_) (fun q => absurd (by rw [d1]) q)
      refine x_iconst (pc' := 162) rfl rfl iconst_0 ?_
      exact x_ireturn rfl rfl rfl (Nat.le_of_ble_eq_true rfl) (Nat.le_of_ble_eq_true rfl) (h0 rfl _ _ hX9 hF)
    · refine x_icmp_eq (tgt := 161) (pc' := 140) rfl rfl rfl (fun q => absurd ((nI_eq (by omega) (by omega)).mp q) d1) (fun _ => ?_)
      refine x_aload_n (pc' := 141) rfl rfl rfl ?_
      refine x_iload_n (pc' := 142) rfl rfl rfl ?_
      refine x_cV1i (d := 1) (pc' := 145) rfl rfl sX2_71 gX3_has (hT9.1) ⟨Nat.le_of_ble_eq_true rfl, Nat.le_of_ble_eq_true rfl⟩ (Nat.le_of_ble_eq_true rfl) ⟨Nat.le_of_ble_eq_true rfl, Nat.le_of_ble_eq_true rfl⟩ ?_
      refine w_has hT9 (fun q => ⟨_, rfl, ?_⟩) (fun q => ⟨_, rfl, ?_⟩)
      · have d2 : v < g_n G.1 := by have h9 := q.2.1; rw [hn9'] at h9; exact (nI_ltI (by omega) (by omega)).mp h9
        refine x_if_eq (tgt := 161) (pc' := 148) rfl rfl rfl (fun c145 => absurd c145 ((by decide))) (fun _ => ?_)
        refine x_aload_n (pc' := 149) rfl rfl rfl ?_
        refine x_iload (pc' := 151) rfl rfl rfl ?_
        refine x_cV1i (d := 1) (pc' := 154) rfl rfl sX2_71 gX3_has (hT9.1) ⟨Nat.le_of_ble_eq_true rfl, Nat.le_of_ble_eq_true rfl⟩ (Nat.le_of_ble_eq_true rfl) ⟨Nat.le_of_ble_eq_true rfl, Nat.le_of_ble_eq_true rfl⟩ ?_
        refine w_has hT9 (fun q => ⟨_, rfl, ?_⟩) (fun q => ⟨_, rfl, ?_⟩)
        · have d3 : w < g_n G.1 := by have h9 := q.2.1; rw [hn9'] at h9; exact (nI_ltI (by omega) (by omega)).mp h9
          refine x_if_eq (tgt := 161) (pc' := 157) rfl rfl rfl (fun c154 => absurd c154 ((by decide))) (fun _ => ?_)
          refine x_iconst (pc' := 158) rfl rfl iconst_1 ?_
          refine x_goto (tgt := 162) rfl rfl ?_
          have e10 : (if v < g_n G.1 ∧ w < g_n G.1 ∧ ¬ v = w then some (g_sw G.1 v w, G.2) else none) = some (g_sw G.1 v w, G.2) := if_pos ⟨d2, d3, d1⟩
          refine x_ireturn rfl rfl rfl (Nat.le_of_ble_eq_true rfl) (Nat.le_of_ble_eq_true rfl) (h1 _ e10 _ _ ⟨hX9, ?_, by rw [e9.1]; exact hC.2.2.1, (hkk _ e10).1, (hkk _ e10).2⟩ hF)
          rw [e9.2 d2 d3]
          refine ⟨t1, ?_, t3, t4, t5, t6, t7⟩
          show upd (upd T.2.1 v (T.2.1 w)) w (T.2.1 v) = _
          rw [t2, q_up_I, q_up_I]
          rfl
        · rw [if_neg (fun k => q (t_has_nI hn9' hn9 k.2.1))] at h0
          refine x_if_eq (tgt := 161) (pc' := 157) rfl rfl rfl (fun _ => ?_) (fun c154 => absurd (rfl) c154)
          refine x_iconst (pc' := 162) rfl rfl iconst_0 ?_
          exact x_ireturn rfl rfl rfl (Nat.le_of_ble_eq_true rfl) (Nat.le_of_ble_eq_true rfl) (h0 rfl _ _ hX9 hF)
      · rw [if_neg (fun k => q (t_has_nI hn9' hn9 k.1))] at h0
        refine x_if_eq (tgt := 161) (pc' := 148) rfl rfl rfl (fun _ => ?_) (fun c145 => absurd (rfl) c145)
        refine x_iconst (pc' := 162) rfl rfl iconst_0 ?_
        exact x_ireturn rfl rfl rfl (Nat.le_of_ble_eq_true rfl) (Nat.le_of_ble_eq_true rfl) (h0 rfl _ _ hX9 hF)
  · have hdn := n3 (by omega)
    have hp0 : q_p0 (q_t L ℓ) s = s + 1 := if_neg (by omega)
    have hed : q_ed (q_t L ℓ) s = s + 2 := by unfold q_ed; rw [hp0, hdn]
    have hd1 := hdg (s + 1) (by omega) (by omega)
    have hv9 : q_t L ℓ (s + 1) - 48 ≤ 9 := by have := hd1.2; omega
    have hdo : q_do (q_t L ℓ) s G = if q_t L ℓ (s + 1) - 48 = 0 then none else some ((G.1.1, G.1.2.1, G.1.2.2.1, g_n G.1, q_t L ℓ (s + 1) - 48, g_l G.1, g_t G.1), G.2) := by
      unfold q_do
      rw [if_neg (by omega), if_neg (by omega), if_neg (by omega), if_pos h102]
    have hkk : ∀ G', q_do (q_t L ℓ) s G = some G' → g_ok 99 G'.1 ∧ G'.2 ≤ 999 := fun G' e => q_do_ok hsk hok hm e
    rw [hdo] at h1 h0 hkk
    clear hdo
    refine x_aload_n (pc' := 1) rfl rfl rfl ?_
    refine x_iload_n (pc' := 2) rfl rfl rfl ?_
    refine x_iconst (pc' := 3) rfl rfl iconst_1 ?_
    refine x_iadd (pc' := 4) rfl rfl ?_
    refine x_eqi (nI_1 _) ?_
    refine x_cV1i (d := 2) (pc' := 7) rfl rfl sX2_50 gX2_digitAt (hS.lt) ⟨Nat.le_of_ble_eq_true rfl, Nat.le_of_ble_eq_true rfl⟩ (Nat.le_of_ble_eq_true rfl) ⟨Nat.le_of_ble_eq_true rfl, Nat.le_of_ble_eq_true rfl⟩ ?_
    refine l_digit hS hL (by omega) ⟨_, rfl, ?_⟩
    rw [if_pos hd1]
    refine x_istore_n (pc' := 8) (lv' := [(3, _), (0, _), (1, _), (2, _)]) rfl rfl (Nat.le_of_ble_eq_true rfl) rfl ?_
    refine x_aload_n (pc' := 9) rfl rfl rfl ?_
    refine x_iload_n (pc' := 10) rfl rfl rfl ?_
    refine x_iconst (pc' := 11) rfl rfl iconst_2 ?_
    refine x_iadd (pc' := 12) rfl rfl ?_
    refine x_eqi (show nI s + 2 = nI (s + 2) from nI_add s 2) ?_
    refine x_cV1i (d := 2) (pc' := 15) rfl rfl sX2_50 gX2_digitAt (hS.lt) ⟨Nat.le_of_ble_eq_true rfl, Nat.le_of_ble_eq_true rfl⟩ (Nat.le_of_ble_eq_true rfl) ⟨Nat.le_of_ble_eq_true rfl, Nat.le_of_ble_eq_true rfl⟩ ?_
    refine l_digit hS hL (by omega) ⟨_, rfl, ?_⟩
    refine x_istore (pc' := 17) (lv' := [(4, _), (3, _), (0, _), (1, _), (2, _)]) rfl rfl (Nat.le_of_ble_eq_true rfl) rfl ?_
    refine x_aload_n (pc' := 18) rfl rfl rfl ?_
    refine x_iload_n (pc' := 19) rfl rfl rfl ?_
    refine x_cV1i (d := 1) (pc' := 22) rfl rfl sX2_34 gX2_letterAt (hS.lt) ⟨Nat.le_of_ble_eq_true rfl, Nat.le_of_ble_eq_true rfl⟩ (Nat.le_of_ble_eq_true rfl) ⟨Nat.le_of_ble_eq_true rfl, Nat.le_of_ble_eq_true rfl⟩ ?_
    refine l_at hS hL (by omega) ⟨_, rfl, ?_⟩
    refine x_eqi (show q_cI (q_t L ℓ s) = 102 from by rw [h102]; decide) ?_
    generalize hv : q_t L ℓ (s + 1) - 48 = v at *
    refine x_lookup (off := 57) (tgt := 79) rfl (by decide) (by decide) rfl ?_
    refine x_aload_n (pc' := 80) rfl rfl rfl ?_
    refine x_iload_n (pc' := 81) rfl rfl rfl ?_
    refine x_put (pc' := 84) rfl rfl rfl (hT.1) (Nat.le_of_ble_eq_true rfl) rfl rfl rfl rfl (fun f1 e1 => ?_)
    have hT9 := hT.num 1 e1 (x_tFs1 _ _ _)
    have hF9 := (x_fr.rf (P := x_ot 9)).up e1 (x_ot_in (by omega) (by omega))
    have hX9 := c_tx_i hC.1 hT9 hF9
    have hF : x_fr (fun q => 59 ≤ q) f f1 := c_fr0 (j := 2) (by decide) hF9
    refine x_iload_n (pc' := 85) rfl rfl rfl ?_
    refine x_iconst (pc' := 86) rfl rfl iconst_1 ?_
    by_cases d1 : v = 0
    · rw [if_pos d1] at h0
      refine x_icmp_lt (tgt := 93) (pc' := 89) rfl rfl rfl (fun _ => ?_) (fun q => absurd (nI_lt (a := v) (b := 1) (by omega) (by decide)) q)
      refine x_iconst (pc' := 94) rfl rfl iconst_0 ?_
      exact x_ireturn rfl rfl rfl (Nat.le_of_ble_eq_true rfl) (Nat.le_of_ble_eq_true rfl) (h0 rfl _ _ hX9 hF)
    · refine x_icmp_lt (tgt := 93) (pc' := 89) rfl rfl rfl (fun q => absurd q (nI_nlt (a := v) (b := 1) (by omega) (by omega))) (fun _ => ?_)
      refine x_iconst (pc' := 90) rfl rfl iconst_1 ?_
      refine x_goto (tgt := 94) rfl rfl ?_
      have e10 : (if v = 0 then none else some ((G.1.1, G.1.2.1, G.1.2.2.1, g_n G.1, v, g_l G.1, g_t G.1), G.2)) = some ((G.1.1, G.1.2.1, G.1.2.2.1, g_n G.1, v, g_l G.1, g_t G.1), G.2) := if_neg d1
      exact x_ireturn rfl rfl rfl (Nat.le_of_ble_eq_true rfl) (Nat.le_of_ble_eq_true rfl) (h1 _ e10 _ _ ⟨hX9, ⟨t1, t2, t3, t4, rfl, t6, t7⟩, hC.2.2.1, (hkk _ e10).1, (hkk _ e10).2⟩ hF)
  · have hdn := n3 (by omega)
    have hp0 : q_p0 (q_t L ℓ) s = s + 1 := if_neg (by omega)
    have hed : q_ed (q_t L ℓ) s = s + 2 := by unfold q_ed; rw [hp0, hdn]
    have hd1 := hdg (s + 1) (by omega) (by omega)
    have hv9 : q_t L ℓ (s + 1) - 48 ≤ 9 := by have := hd1.2; omega
    have hdo : q_do (q_t L ℓ) s G = if 1 < q_t L ℓ (s + 1) - 48 then none else some ((G.1.1, G.1.2.1, G.1.2.2.1, g_n G.1, g_f G.1, q_t L ℓ (s + 1) - 48, g_t G.1), G.2) := by
      unfold q_do
      rw [if_neg (by omega), if_neg (by omega), if_neg (by omega), if_neg (by omega), if_pos h108]
    have hkk : ∀ G', q_do (q_t L ℓ) s G = some G' → g_ok 99 G'.1 ∧ G'.2 ≤ 999 := fun G' e => q_do_ok hsk hok hm e
    rw [hdo] at h1 h0 hkk
    clear hdo
    refine x_aload_n (pc' := 1) rfl rfl rfl ?_
    refine x_iload_n (pc' := 2) rfl rfl rfl ?_
    refine x_iconst (pc' := 3) rfl rfl iconst_1 ?_
    refine x_iadd (pc' := 4) rfl rfl ?_
    refine x_eqi (nI_1 _) ?_
    refine x_cV1i (d := 2) (pc' := 7) rfl rfl sX2_50 gX2_digitAt (hS.lt) ⟨Nat.le_of_ble_eq_true rfl, Nat.le_of_ble_eq_true rfl⟩ (Nat.le_of_ble_eq_true rfl) ⟨Nat.le_of_ble_eq_true rfl, Nat.le_of_ble_eq_true rfl⟩ ?_
    refine l_digit hS hL (by omega) ⟨_, rfl, ?_⟩
    rw [if_pos hd1]
    refine x_istore_n (pc' := 8) (lv' := [(3, _), (0, _), (1, _), (2, _)]) rfl rfl (Nat.le_of_ble_eq_true rfl) rfl ?_
    refine x_aload_n (pc' := 9) rfl rfl rfl ?_
    refine x_iload_n (pc' := 10) rfl rfl rfl ?_
    refine x_iconst (pc' := 11) rfl rfl iconst_2 ?_
    refine x_iadd (pc' := 12) rfl rfl ?_
    refine x_eqi (show nI s + 2 = nI (s + 2) from nI_add s 2) ?_
    refine x_cV1i (d := 2) (pc' := 15) rfl rfl sX2_50 gX2_digitAt (hS.lt) ⟨Nat.le_of_ble_eq_true rfl, Nat.le_of_ble_eq_true rfl⟩ (Nat.le_of_ble_eq_true rfl) ⟨Nat.le_of_ble_eq_true rfl, Nat.le_of_ble_eq_true rfl⟩ ?_
    refine l_digit hS hL (by omega) ⟨_, rfl, ?_⟩
    refine x_istore (pc' := 17) (lv' := [(4, _), (3, _), (0, _), (1, _), (2, _)]) rfl rfl (Nat.le_of_ble_eq_true rfl) rfl ?_
    refine x_aload_n (pc' := 18) rfl rfl rfl ?_
    refine x_iload_n (pc' := 19) rfl rfl rfl ?_
    refine x_cV1i (d := 1) (pc' := 22) rfl rfl sX2_34 gX2_letterAt (hS.lt) ⟨Nat.le_of_ble_eq_true rfl, Nat.le_of_ble_eq_true rfl⟩ (Nat.le_of_ble_eq_true rfl) ⟨Nat.le_of_ble_eq_true rfl, Nat.le_of_ble_eq_true rfl⟩ ?_
    refine l_at hS hL (by omega) ⟨_, rfl, ?_⟩
    refine x_eqi (show q_cI (q_t L ℓ s) = 108 from by rw [h108]; decide) ?_
    generalize hv : q_t L ℓ (s + 1) - 48 = v at *
    refine x_lookup (off := 73) (tgt := 95) rfl (by decide) (by decide) rfl ?_
    refine x_aload_n (pc' := 96) rfl rfl rfl ?_
    refine x_iload_n (pc' := 97) rfl rfl rfl ?_
    refine x_put (pc' := 100) rfl rfl rfl (hT.1) (Nat.le_of_ble_eq_true rfl) rfl rfl rfl rfl (fun f1 e1 => ?_)
    have hT9 := hT.num 2 e1 (x_tFs2 _ _ _)
    have hF9 := (x_fr.rf (P := x_ot 9)).up e1 (x_ot_in (by omega) (by omega))
    have hX9 := c_tx_i hC.1 hT9 hF9
    have hF : x_fr (fun q => 59 ≤ q) f f1 := c_fr0 (j := 2) (by decide) hF9
    refine x_iload_n (pc' := 101) rfl rfl rfl ?_
    refine x_iconst (pc' := 102) rfl rfl iconst_1 ?_
    by_cases d1 : 1 < v
    · rw [if_pos d1] at h0
      refine x_icmp_gt (tgt := 109) (pc' := 105) rfl rfl rfl (fun _ => ?_) (fun q => absurd (nI_lt (a := 1) d1 (by omega)) q)
      refine x_iconst (pc' := 110) rfl rfl iconst_0 ?_
      exact x_ireturn rfl rfl rfl (Nat.le_of_ble_eq_true rfl) (Nat.le_of_ble_eq_true rfl) (h0 rfl _ _ hX9 hF)
    · refine x_icmp_gt (tgt := 109) (pc' := 105) rfl rfl rfl (fun q => absurd q (nI_nlt (a := 1) (by omega) (by omega))) (fun _ => ?_)
      refine x_iconst (pc' := 106) rfl rfl iconst_1 ?_
      refine x_goto (tgt := 110) rfl rfl ?_
      have e10 : (if 1 < v then none else some ((G.1.1, G.1.2.1, G.1.2.2.1, g_n G.1, g_f G.1, v, g_t G.1), G.2)) = some ((G.1.1, G.1.2.1, G.1.2.2.1, g_n G.1, g_f G.1, v, g_t G.1), G.2) := if_neg d1
      exact x_ireturn rfl rfl rfl (Nat.le_of_ble_eq_true rfl) (Nat.le_of_ble_eq_true rfl) (h1 _ e10 _ _ ⟨hX9, ⟨t1, t2, t3, t4, t5, rfl, t7⟩, hC.2.2.1, (hkk _ e10).1, (hkk _ e10).2⟩ hF)
  · have hdn := n3 (by omega)
    have hp0 : q_p0 (q_t L ℓ) s = s + 1 := if_neg (by omega)
    have hed : q_ed (q_t L ℓ) s = s + 2 := by unfold q_ed; rw [hp0, hdn]
    have hd1 := hdg (s + 1) (by omega) (by omega)
    have hv9 : q_t L ℓ (s + 1) - 48 ≤ 9 := by have := hd1.2; omega
    have hdo : q_do (q_t L ℓ) s G = if 1 < q_t L ℓ (s + 1) - 48 then none else some ((G.1.1, G.1.2.1, G.1.2.2.1, g_n G.1, g_f G.1, g_l G.1, q_t L ℓ (s + 1) - 48), G.2) := by
      unfold q_do
      rw [if_neg (by omega), if_neg (by omega), if_neg (by omega), if_neg (by omega), if_neg (by omega)]
    have hkk : ∀ G', q_do (q_t L ℓ) s G = some G' → g_ok 99 G'.1 ∧ G'.2 ≤ 999 := fun G' e => q_do_ok hsk hok hm e
    rw [hdo] at h1 h0 hkk
    clear hdo
    refine x_aload_n (pc' := 1) rfl rfl rfl ?_
    refine x_iload_n (pc' := 2) rfl rfl rfl ?_
    refine x_iconst (pc' := 3) rfl rfl iconst_1 ?_
    refine x_iadd (pc' := 4) rfl rfl ?_
    refine x_eqi (nI_1 _) ?_
    refine x_cV1i (d := 2) (pc' := 7) rfl rfl sX2_50 gX2_digitAt (hS.lt) ⟨Nat.le_of_ble_eq_true rfl, Nat.le_of_ble_eq_true rfl⟩ (Nat.le_of_ble_eq_true rfl) ⟨Nat.le_of_ble_eq_true rfl, Nat.le_of_ble_eq_true rfl⟩ ?_
    refine l_digit hS hL (by omega) ⟨_, rfl, ?_⟩
    rw [if_pos hd1]
    refine x_istore_n (pc' := 8) (lv' := [(3, _), (0, _), (1, _), (2, _)]) rfl rfl (Nat.le_of_ble_eq_true rfl) rfl ?_
    refine x_aload_n (pc' := 9) rfl rfl rfl ?_
    refine x_iload_n (pc' := 10) rfl rfl rfl ?_
    refine x_iconst (pc' := 11) rfl rfl iconst_2 ?_
    refine x_iadd (pc' := 12) rfl rfl ?_
    refine x_eqi (show nI s + 2 = nI (s + 2) from nI_add s 2) ?_
    refine x_cV1i (d := 2) (pc' := 15) rfl rfl sX2_50 gX2_digitAt (hS.lt) ⟨Nat.le_of_ble_eq_true rfl, Nat.le_of_ble_eq_true rfl⟩ (Nat.le_of_ble_eq_true rfl) ⟨Nat.le_of_ble_eq_true rfl, Nat.le_of_ble_eq_true rfl⟩ ?_
    refine l_digit hS hL (by omega) ⟨_, rfl, ?_⟩
    refine x_istore (pc' := 17) (lv' := [(4, _), (3, _), (0, _), (1, _), (2, _)]) rfl rfl (Nat.le_of_ble_eq_true rfl) rfl ?_
    refine x_aload_n (pc' := 18) rfl rfl rfl ?_
    refine x_iload_n (pc' := 19) rfl rfl rfl ?_
    refine x_cV1i (d := 1) (pc' := 22) rfl rfl sX2_34 gX2_letterAt (hS.lt) ⟨Nat.le_of_ble_eq_true rfl, Nat.le_of_ble_eq_true rfl⟩ (Nat.le_of_ble_eq_true rfl) ⟨Nat.le_of_ble_eq_true rfl, Nat.le_of_ble_eq_true rfl⟩ ?_
    refine l_at hS hL (by omega) ⟨_, rfl, ?_⟩
    refine x_eqi (show q_cI (q_t L ℓ s) = 116 from by rw [h116]; decide) ?_
    generalize hv : q_t L ℓ (s + 1) - 48 = v at *
    refine x_lookup (off := 89) (tgt := 111) rfl (by decide) (by decide) rfl ?_
    refine x_aload_n (pc' := 112) rfl rfl rfl ?_
    refine x_iload_n (pc' := 113) rfl rfl rfl ?_
    refine x_put (pc' := 116) rfl rfl rfl (hT.1) (Nat.le_of_ble_eq_true rfl) rfl rfl rfl rfl (fun f1 e1 => ?_)
    have hT9 := hT.num 3 e1 (x_tFs3 _ _ _)
    have hF9 := (x_fr.rf (P := x_ot 9)).up e1 (x_ot_in (by omega) (by omega))
    have hX9 := c_tx_i hC.1 hT9 hF9
    have hF : x_fr (fun q => 59 ≤ q) f f1 := c_fr0 (j := 2) (by decide) hF9
    refine x_iload_n (pc' := 117) rfl rfl rfl ?_
    refine x_iconst (pc' := 118) rfl rfl iconst_1 ?_
    by_cases d1 : 1 < v
    · rw [if_pos d1] at h0
      refine x_icmp_gt (tgt := 125) (pc' := 121) rfl rfl rfl (fun _ => ?_) (fun q => absurd (nI_lt (a := 1) d1 (by omega)) q)
      refine x_iconst (pc' := 126) rfl rfl iconst_0 ?_
      exact x_ireturn rfl rfl rfl (Nat.le_of_ble_eq_true rfl) (Nat.le_of_ble_eq_true rfl) (h0 rfl _ _ hX9 hF)
    · refine x_icmp_gt (tgt := 125) (pc' := 121) rfl rfl rfl (fun q => absurd q (nI_nlt (a := 1) (by omega) (by omega))) (fun _ => ?_)
      refine x_iconst (pc' := 122) rfl rfl iconst_1 ?_
      refine x_goto (tgt := 126) rfl rfl ?_
      have e10 : (if 1 < v then none else some ((G.1.1, G.1.2.1, G.1.2.2.1, g_n G.1, g_f G.1, g_l G.1, v), G.2)) = some ((G.1.1, G.1.2.1, G.1.2.2.1, g_n G.1, g_f G.1, g_l G.1, v), G.2) := if_neg d1
      exact x_ireturn rfl rfl rfl (Nat.le_of_ble_eq_true rfl) (Nat.le_of_ble_eq_true rfl) (h1 _ e10 _ _ ⟨hX9, ⟨t1, t2, t3, t4, t5, t6, rfl⟩, hC.2.2.1, (hkk _ e10).1, (hkk _ e10).2⟩ hF)
  · have hdn := n4 h115
    have hp0 : q_p0 (q_t L ℓ) s = s + 1 := if_neg (by omega)
    have hed : q_ed (q_t L ℓ) s = s + 1 + q_dn (q_t L ℓ) s := by unfold q_ed; rw [hp0]
    have hdo : q_do (q_t L ℓ) s G = q_ms2 (q_t L ℓ) (q_ed (q_t L ℓ) s - (s + 1)) (s + 1) G := by
      unfold q_do
      rw [if_neg (by omega), if_pos h115, hed, show s + 1 + q_dn (q_t L ℓ) s - (s + 1) = q_dn (q_t L ℓ) s by omega]
    rw [hdo] at h1 h0
    refine x_aload_n (pc' := 1) rfl rfl rfl ?_
    refine x_iload_n (pc' := 2) rfl rfl rfl ?_
    refine x_iconst (pc' := 3) rfl rfl iconst_1 ?_
    refine x_iadd (pc' := 4) rfl rfl ?_
    refine x_eqi (nI_1 _) ?_
    refine x_cV1i (d := 2) (pc' := 7) rfl rfl sX2_50 gX2_digitAt (hS.lt) ⟨Nat.le_of_ble_eq_true rfl, Nat.le_of_ble_eq_true rfl⟩ (Nat.le_of_ble_eq_true rfl) ⟨Nat.le_of_ble_eq_true rfl, Nat.le_of_ble_eq_true rfl⟩ ?_
    refine l_digit hS hL (by omega) ⟨_, rfl, ?_⟩
    refine x_istore_n (pc' := 8) (lv' := [(3, _), (0, _), (1, _), (2, _)]) rfl rfl (Nat.le_of_ble_eq_true rfl) rfl ?_
    refine x_aload_n (pc' := 9) rfl rfl rfl ?_
    refine x_iload_n (pc' := 10) rfl rfl rfl ?_
    refine x_iconst (pc' := 11) rfl rfl iconst_2 ?_
    refine x_iadd (pc' := 12) rfl rfl ?_
    refine x_eqi (show nI s + 2 = nI (s + 2) from nI_add s 2) ?_
    refine x_cV1i (d := 2) (pc' := 15) rfl rfl sX2_50 gX2_digitAt (hS.lt) ⟨Nat.le_of_ble_eq_true rfl, Nat.le_of_ble_eq_true rfl⟩ (Nat.le_of_ble_eq_true rfl) ⟨Nat.le_of_ble_eq_true rfl, Nat.le_of_ble_eq_true rfl⟩ ?_
    refine l_digit hS hL (by omega) ⟨_, rfl, ?_⟩
    refine x_istore (pc' := 17) (lv' := [(4, _), (3, _), (0, _), (1, _), (2, _)]) rfl rfl (Nat.le_of_ble_eq_true rfl) rfl ?_
    refine x_aload_n (pc' := 18) rfl rfl rfl ?_
    refine x_iload_n (pc' := 19) rfl rfl rfl ?_
    refine x_cV1i (d := 1) (pc' := 22) rfl rfl sX2_34 gX2_letterAt (hS.lt) ⟨Nat.le_of_ble_eq_true rfl, Nat.le_of_ble_eq_true rfl⟩ (Nat.le_of_ble_eq_true rfl) ⟨Nat.le_of_ble_eq_true rfl, Nat.le_of_ble_eq_true rfl⟩ ?_
    refine l_at hS hL (by omega) ⟨_, rfl, ?_⟩
    refine x_eqi (show q_cI (q_t L ℓ s) = 115 from by rw [h115]; decide) ?_
    refine x_lookup (off := 141) (tgt := 163) rfl (by decide) (by decide) rfl ?_
    refine x_aload_n (pc' := 164) rfl rfl rfl ?_
    refine x_iload_n (pc' := 165) rfl rfl rfl ?_
    refine x_iconst (pc' := 166) rfl rfl iconst_1 ?_
    refine x_iadd (pc' := 167) rfl rfl ?_
    refine x_eqi (nI_1 _) ?_
    refine x_aload_n (pc' := 168) rfl rfl rfl ?_
    refine x_cV2i (d := 5) (pc' := 171) rfl rfl sX2_75 gX2_makeMoves (hS.lt) ⟨Nat.le_of_ble_eq_true rfl, Nat.le_of_ble_eq_true rfl⟩ (Nat.le_of_ble_eq_true rfl) ⟨Nat.le_of_ble_eq_true rfl, Nat.le_of_ble_eq_true rfl⟩ ?_
    refine l_makeMoves (s := s + 1) (e := q_ed (q_t L ℓ) s) hC hL hel (by omega) s4 (fun j hj => hdg j (by omega)) (fun G' e9 f9 T9 hC9 hF9 => ⟨_, rfl, ?_⟩) (fun e9 f9 T9 hX9 hF9 => ⟨_, rfl, ?_⟩)
    · exact x_ireturn rfl rfl rfl (Nat.le_of_ble_eq_true rfl) (Nat.le_of_ble_eq_true rfl) (h1 _ e9 _ _ hC9 hF9)
    · exact x_ireturn rfl rfl rfl (Nat.le_of_ble_eq_true rfl) (Nat.le_of_ble_eq_true rfl) (h0 e9 _ _ hX9 hF9)
end GC
