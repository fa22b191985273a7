/-! The class seeks the fewest moves that empty a bowl. -/
def g_rg (g : q_G) (β : Nat → Nat) : q_G := (g_κ g, fun b => if b < g_n g then β b else g_β g b, g.2.2)
theorem g_rg_ok {g : q_G} {β : Nat → Nat} (h : g_ok 99 g) (hβ : ∀ b, β b ≤ 99) : g_ok 99 (g_rg g β) := by
  obtain ⟨a1, a2, a3, a4, a5, a6, a7, a8, a9⟩ := h
  refine ⟨a1, a2, a3, a4, a5, fun b => ?_, a7, fun i hi => ⟨(a8 i hi).1, ?_⟩, a9⟩
  · show (if b < g_n g then β b else g_β g b) ≤ 99
    split
    · exact hβ b
    · exact a6 b
  · show (if i < g_n g then β i else g_β g i) = 0
    rw [if_neg (by omega)]
    exact (a8 i hi).2
theorem g_rg_id (g : q_G) : g_rg g (g_β g) = g := by
  have e : (fun b => if b < g_n g then g_β g b else g_β g b) = g_β g := by
    funext b
    split <;> rfl
  unfold g_rg
  rw [e]
def q_g1 (w d i : Nat) (gi : q_G) (b : Nat) (K : q_K) : q_K := if g_can gi b then (if g_β (g_mv gi b) w = 0 then (K.1, K.2.1, K.2.2.1, K.2.2.2.1, nI d, if d = 1 then nI b else K.2.1 i) else if d < 5 then q_kp (g_n gi) (g_β (g_mv gi b)) (if d = 1 then nI b else K.2.1 i) 16384 (q_hs (lN (q_eb (g_β (g_mv gi b)) 0 (g_n gi)))) K else K) else K
def q_go (w d i : Nat) (gi : q_G) : Nat → Nat → q_K → q_K
  | 0, _, K => K
  | m + 1, b, K => if K.2.2.2.2.1 = -9 then q_go w d i gi m (b + 1) (q_g1 w d i gi b K) else K
def q_li (w d : Nat) (g : q_G) : Nat → Nat → q_K → q_K
  | 0, _, K => K
  | m + 1, i, K => if K.2.2.2.2.1 = -9 then q_li w d g m (i + 1) (q_go w d i (g_rg g (K.1 i)) (g_n g) 0 K) else K
def q_dp (w : Nat) (g : q_G) : Nat → Nat → Nat → q_K → q_K
  | 0, _, _, K => K
  | m + 1, d, l, K => if K.2.2.2.2.1 = -9 then q_dp w g m (d + 1) K.2.2.2.1 (q_li w d g (K.2.2.2.1 - l) l K) else K
def q_K1 (g : q_G) : q_K := q_kp (g_n g) (g_β g) (-9) 16384 (q_hs (lN (q_eb (g_β g) 0 (g_n g)))) (fun _ _ => 0, fun _ => 0, fun _ => 0, 0, -9, -9)
def q_sek (w : Nat) (g : q_G) : Int32 × Int32 := if g_β g w = 0 then (0, -9) else (q_dp w g 5 1 0 (q_K1 g)).2.2.2.2
theorem q_g1_ok {w d i b : Nat} {gi : q_G} {K : q_K} (hg : g_ok 99 gi) (h : e_ok K) : e_ok (q_g1 w d i gi b K) ∧ K.2.2.2.1 ≤ (q_g1 w d i gi b K).2.2.2.1 ∧ (∀ p, p < K.2.2.2.1 → (q_g1 w d i gi b K).1 p = K.1 p ∧ (q_g1 w d i gi b K).2.1 p = K.2.1 p) := by
  unfold q_g1
  split
  · rename_i hc
    split
    · exact ⟨h, Nat.le_refl _, fun _ _ => ⟨rfl, rfl⟩⟩
    · split
      · have h2 := e_ok_kp (n := g_n gi) (fm := if d = 1 then nI b else K.2.1 i) (fun j => (g_mv_ok hg (by decide) (by decide) hc.2.1).2.2.2.2.2.1 j) 16384 (q_hs (lN (q_eb (g_β (g_mv gi b)) 0 (g_n gi)))) K h
        exact ⟨h2.1, h2.2.1, h2.2.2.1⟩
      · exact ⟨h, Nat.le_refl _, fun _ _ => ⟨rfl, rfl⟩⟩
  · exact ⟨h, Nat.le_refl _, fun _ _ => ⟨rfl, rfl⟩⟩
theorem q_go_ok {w d i : Nat} {gi : q_G} (hg : g_ok 99 gi) : ∀ (m b : Nat) (K : q_K), e_ok K → e_ok (q_go w d i gi m b K) ∧ K.2.2.2.1 ≤ (q_go w d i gi m b K).2.2.2.1 ∧ (∀ p, p < K.2.2.2.1 → (q_go w d i gi m b K).1 p = K.1 p ∧ (q_go w d i gi m b K).2.1 p = K.2.1 p)
  | 0, _, K, h => ⟨h, Nat.le_refl _, fun _ _ => ⟨rfl, rfl⟩⟩
  | m + 1, b, K, h => by
    unfold q_go
    split
    · obtain ⟨h1, h2, h3⟩ := q_g1_ok (w := w) (d := d) (i := i) (b := b) hg h
      obtain ⟨k1, k2, k3⟩ := q_go_ok (w := w) (d := d) (i := i) hg m (b + 1) _ h1
      exact ⟨k1, Nat.le_trans h2 k2, fun p hp => ⟨(k3 p (by omega)).1.trans (h3 p hp).1, (k3 p (by omega)).2.trans (h3 p hp).2⟩⟩
    · exact ⟨h, Nat.le_refl _, fun _ _ => ⟨rfl, rfl⟩⟩
section SE
variable {E : x_E} {z : Nat} {f f' : x_H} {S S0 : x_S} {A : q_A} {post : Option Value → x_H → Prop} {g gi : q_G} {C n w d i : Nat} {a b : Int32} {K : q_K}
theorem x_Sys.arrf {j : Nat} {l : Nat → Int32} (h : x_Sys z f S) (hj : j < 7) (ha : x_a z f' (x_ap j) (x_an j, .inl l)) (hf : x_fr (fun q => q ≠ x_ap j) f f') : x_Sys z f' (S.1, S.2.1, x_ua S.2.2.1 j l, S.2.2.2) := by
  obtain ⟨h1, h2, h3, h4, h5, h6, h7, h8, h9⟩ := h
  obtain ⟨p1, p2, p3, p4, p5, p6, p7, p8, p9⟩ := x_pos1 j hj
  refine ⟨h1.fr hf p4, fun i hi => (h2 i hi).fr hf (fun a ha => ?_), fun i hi => ?_, fun i hi => (h4 i hi).fr hf (p3 i hi), h5.fr hf p5, h6.fr hf p6, h7.fr hf p7, h8.fr hf p8, h9.fr hf p9⟩
  · have := p1 i hi
    show _ ≠ _
    omega
  · by_cases hij : i = j
    · subst hij
      simp only [x_ua, if_pos]
      exact ha
    · simp only [x_ua, if_neg hij]
      exact (h3 i hi).fr hf (p2 i hi hij)
theorem w_fillIL {r n : Nat} {v : Int32} (hn : n < 2 ^ 31) (h : ∀ f' : x_H, x_a z f' r (n, .inl (fun _ => v)) → x_fr (fun q => q ≠ r) f f' → post none f') : ∀ (k i : Nat) (g : x_H) (a : Nat → Int32), i + k = n → x_a z g r (n, .inl a) → (∀ j, j < i → a j = v) → x_fr (fun q => q ≠ r) f g → X E (x_rm 1 0 0) mJ7_fill_53178 (x_QM E z 0 0 post) 5 [(2, .int (nI i)), (3, .int (nI n)), (0, .ref r), (1, .int v)] [] z g 0 0 := by
  intro k
  induction k with
  | zero =>
    intro i g a hi ha hv hF
    have hi2 : i = n := by omega
    subst hi2
    refine x_iload_n (pc' := 6) rfl rfl rfl ?_
    refine x_iload_n (pc' := 7) rfl rfl rfl ?_
    refine x_icmp_ge (tgt := 20) (pc' := 10) rfl rfl rfl (fun _ => ?_) (fun c7 => absurd ((Int32.le_refl _)) c7)
    refine x_eqA ha (g' := fun _ => v) hv (fun f1 e1 => ?_)
    exact x_return rfl rfl (Nat.le_refl _) (Nat.le_refl _) (h _ (x_a.s e1 ha.1) (hF.up e1 (fun q => q rfl)))
  | succ k ih =>
    intro i g a hi ha hv hF
    refine x_iload_n (pc' := 6) rfl rfl rfl ?_
    refine x_iload_n (pc' := 7) rfl rfl rfl ?_
    refine x_icmp_ge (tgt := 20) (pc' := 10) rfl rfl rfl (fun c7 => absurd c7 ((Int32.not_le.mpr (nI_lt (by omega) hn)))) (fun _ => ?_)
    refine x_aload_n (pc' := 11) rfl rfl rfl ?_
    refine x_iload_n (pc' := 12) rfl rfl rfl ?_
    refine x_iload_n (pc' := 13) rfl rfl rfl ?_
    refine x_iastore (pc' := 14) rfl rfl (ha) (vp_in_nI (by omega) hn) (fun f1 e1 => ?_)
    refine x_iinc (pc' := 17) (lv' := [(2, _), (3, _), (0, _), (1, _)]) rfl rfl (Nat.le_of_ble_eq_true rfl) rfl (nI_1 i) rfl ?_
    refine x_goto (tgt := 5) rfl rfl ?_
    refine ih (i + 1) _ _ (by omega) (x_a.s e1 ha.1) ?_ (hF.up e1 (fun q => q rfl))
    intro j hj
    rw [nI_clamp (by omega)]
    unfold upd
    by_cases hji : j = i
    · rw [if_pos hji]
    · rw [if_neg hji]
      exact hv j (by omega)
theorem w_fillI {r n : Nat} {v : Int32} {a : Nat → Int32} (hn : n < 2 ^ 31) (ha : x_a z f r (n, .inl a)) (h : ∀ f' : x_H, x_a z f' r (n, .inl (fun _ => v)) → x_fr (fun q => q ≠ r) f f' → post none f') : Y E 1 mJ7_fill_53178 [.ref r, .int v] z f 0 0 post := by
  refine Y.intro gJ7_fill_53178 (lv := [(0, .ref r), (1, .int v)]) rfl (Nat.le_of_ble_eq_true rfl) ?_
  refine x_iconst (pc' := 1) rfl rfl iconst_0 ?_
  refine x_istore_n (pc' := 2) (lv' := [(2, _), (0, _), (1, _)]) rfl rfl (Nat.le_of_ble_eq_true rfl) rfl ?_
  refine x_aload_n (pc' := 3) rfl rfl rfl ?_
  refine x_alen (pc' := 4) rfl rfl (ha) ?_
  refine x_istore_n (pc' := 5) (lv' := [(3, _), (2, _), (0, _), (1, _)]) rfl rfl (Nat.le_of_ble_eq_true rfl) rfl ?_
  refine x_lvp [1, 0, 2, 3] rfl ?_
  exact w_fillIL hn h n 0 _ a (by omega) ha (fun j hj => absurd hj (Nat.not_lt_zero j)) x_fr.rf
theorem c_goL (hw : w < g_n gi) (hd : d ≤ 5) (hg : g_ok 99 gi) (hi5 : i < 7381) (f0 : x_H) (S0 : x_S) (R : q_K) (h : ∀ (f' : x_H) (S' : x_S), x_Sys z f' S' → e_is S' R (g_n gi) → c_ek S0 S' → t_is (S'.2.1 4) gi → x_fr (fun q => 59 ≤ q) f0 f' → post none f') : ∀ (m b : Nat) (K : q_K) (f : x_H) (S : x_S), b + m = g_n gi → q_go w d i gi m b K = R → x_Sys z f S → e_is S K (g_n gi) → e_ok K → i < K.2.2.2.1 → c_ek S0 S → t_is (S.2.1 4) gi → x_fr (fun q => 59 ≤ q) f0 f → X E (x_rm 5 0 0) mX1_goOnFrom (x_QM E z 0 0 post) 28 [(4, .int (nI b)), (0, .ref 42), (1, .int (nI i)), (2, .int (nI w)), (3, .int (nI d))] [] z f 0 0 := by
  have hn9 := hg.1
  intro m
  induction m with
  | zero =>
    intro b K f S hb hR hS hK ho hi hc ht hF
    have hb2 : b = g_n gi := by omega
    subst hb2
    have hR2 : K = R := hR
    subst hR2
    refine x_iload (pc' := 30) rfl rfl rfl ?_
    refine x_aload_n (pc' := 31) rfl rfl rfl ?_
    refine x_get (pc' := 34) rfl rfl rfl (hS.em) rfl ?_
    refine x_get (pc' := 37) rfl rfl rfl ((hS.2.1 4 (by decide)).1) rfl ?_
    refine x_eqi ht.2.2.2.1 ?_
    refine x_icmp_ge (tgt := 148) (pc' := 40) rfl rfl rfl (fun _ => ?_) (fun c37 => absurd ((Int32.le_refl _)) c37)
    exact x_return rfl rfl (Nat.le_of_ble_eq_true rfl) (Nat.le_of_ble_eq_true rfl) (h _ _ hS hK hc ht hF)
  | succ m ih =>
    intro b K f S hb hR hS hK ho hi hc ht hF
    obtain ⟨k1, k2, k3, k4, k5, k6⟩ := id hK
    unfold q_go at hR
    have hT4 : x_t z f 46 (S.2.1 4) := hS.2.1 4 (by decide)
    have hT5 : x_t z f 50 (S.2.1 5) := hS.2.1 5 (by decide)
    refine x_iload (pc' := 30) rfl rfl rfl ?_
    refine x_aload_n (pc' := 31) rfl rfl rfl ?_
    refine x_get (pc' := 34) rfl rfl rfl (hS.em) rfl ?_
    refine x_get (pc' := 37) rfl rfl rfl (hT4.1) rfl ?_
    refine x_eqi ht.2.2.2.1 ?_
    refine x_icmp_ge (tgt := 148) (pc' := 40) rfl rfl rfl (fun c37 => absurd c37 ((nI_ge (by omega) (by omega)))) (fun _ => ?_)
    refine x_aload_n (pc' := 41) rfl rfl rfl ?_
    refine x_get (pc' := 44) rfl rfl rfl (hS.em) rfl ?_
    refine x_eqi k2 ?_
    refine x_bipush (pc' := 46) rfl rfl bipush_m9 ?_
    by_cases d0 : K.2.2.2.2.1 = -9
    · rw [if_pos d0] at hR
      refine x_icmp_ne (tgt := 148) (pc' := 49) rfl rfl rfl (fun q => absurd d0 q) (fun _ => ?_)
      obtain ⟨og1, og2, og3⟩ := q_g1_ok (w := w) (d := d) (i := i) (b := b) hg ho
      have h9 := fun f S a1 a2 a3 a4 a5 => ih (b + 1) _ f S (by omega) hR a1 a2 og1 (by omega) a3 a4 a5
      refine x_aload_n (pc' := 50) rfl rfl rfl ?_
      refine x_get (pc' := 53) rfl rfl rfl (hS.em) rfl ?_
      refine x_iload (pc' := 55) rfl rfl rfl ?_
      refine x_cV1i (d := 2) (pc' := 58) rfl rfl sX1_73 gX3_canMove (hT4.1) ⟨Nat.le_of_ble_eq_true rfl, Nat.le_of_ble_eq_true rfl⟩ (Nat.le_of_ble_eq_true rfl) ⟨Nat.le_of_ble_eq_true rfl, Nat.le_of_ble_eq_true rfl⟩ ?_
      refine w_can hT4 ht hg (by decide) (by omega) (fun d2 => ⟨_, rfl, ?_⟩) (fun d2 => ⟨_, rfl, ?_⟩)
      · refine x_if_eq (tgt := 142) (pc' := 61) rfl rfl rfl (fun c58 => absurd c58 ((by decide))) (fun _ => ?_)
        refine x_aload_n (pc' := 62) rfl rfl rfl ?_
        refine x_get (pc' := 65) rfl rfl rfl (hS.em) rfl ?_
        refine x_aload_n (pc' := 66) rfl rfl rfl ?_
        refine x_get (pc' := 69) rfl rfl rfl (hS.em) rfl ?_
        refine x_cV1v (d := 1) (pc' := 72) rfl rfl sX1_52 gX3_copyFrom (hT5.1) ⟨Nat.le_of_ble_eq_true rfl, Nat.le_of_ble_eq_true rfl⟩ (Nat.le_of_ble_eq_true rfl) ⟨Nat.le_of_ble_eq_true rfl, Nat.le_of_ble_eq_true rfl⟩ ?_
        refine w_copyFrom hT5 hT4 (by decide) (fun f1 hT1 hF1 => ⟨rfl, ?_⟩)
        have hS1 := hS.tab 5 (by decide) hT1 hF1
        have hF1' := hF.trans (c_fr0 (j := 5) (by decide) hF1)
        refine x_aload_n (pc' := 73) rfl rfl rfl ?_
        refine x_get (pc' := 76) rfl rfl rfl (hS1.em) rfl ?_
        refine x_iload (pc' := 78) rfl rfl rfl ?_
        refine x_cV1v (d := 4) (pc' := 81) rfl rfl sX1_77 gX3_makeMove (hT1.1) ⟨Nat.le_of_ble_eq_true rfl, Nat.le_of_ble_eq_true rfl⟩ (Nat.le_of_ble_eq_true rfl) ⟨Nat.le_of_ble_eq_true rfl, Nat.le_of_ble_eq_true rfl⟩ ?_
        refine w_move hT1 (x_cp_is ht) hg (by decide) d2.2.1 (fun f2 T2 hT2 g2 u4 u5 u6 u7 u8 hF2 => ⟨rfl, ?_⟩)
        have hS2 := hS1.tt (j := 5) (by decide) hT2 hF2
        have hF2' := hF1'.trans (c_fr0 (j := 5) (by decide) hF2)
        have ok2 := g_mv_ok hg (by decide) (by decide) d2.2.1
        have hc2 : c_ek S0 (S.1, x_ut S.2.1 5 T2, S.2.2.1, S.2.2.2) := hc.trans ⟨fun _ _ => rfl, fun j a b => if_neg b, fun _ _ _ => rfl, fun _ _ => rfl⟩
        have ht2 : t_is (x_ut S.2.1 5 T2 4) gi := ht
        refine x_iload_n (pc' := 82) rfl rfl rfl ?_
        refine x_iconst (pc' := 83) rfl rfl iconst_1 ?_
        have K142 : ∀ (f' : x_H) (S' : x_S) (fm : Int32), x_Sys z f' S' → e_is S' (q_g1 w d i gi b K) (g_n gi) → c_ek S0 S' → t_is (S'.2.1 4) gi → x_fr (fun q => 59 ≤ q) f0 f' → X E (x_rm 5 0 0) mX1_goOnFrom (x_QM E z 0 0 post) 142 [(5, .int fm), (4, .int (nI b)), (0, .ref 42), (1, .int (nI i)), (2, .int (nI w)), (3, .int (nI d))] [] z f' 0 0 := by
          intro f9 S9 fm a1 a2 a3 a4 a5
          refine x_iinc (pc' := 145) (lv' := [(4, _), (5, _), (0, _), (1, _), (2, _), (3, _)]) rfl rfl (Nat.le_of_ble_eq_true rfl) rfl (nI_1 b) rfl ?_
          refine x_goto (tgt := 28) rfl rfl ?_
          refine x_lvp [0, 2, 3, 4, 5] rfl ?_
          exact h9 f9 S9 a1 a2 a3 a4 a5
        have K99 : X E (x_rm 5 0 0) mX1_goOnFrom (x_QM E z 0 0 post) 99 [(5, .int (if d = 1 then nI b else K.2.1 i)), (4, .int (nI b)), (0, .ref 42), (1, .int (nI i)), (2, .int (nI w)), (3, .int (nI d))] [] z f2 0 0 := by
          refine x_aload_n (pc' := 100) rfl rfl rfl ?_
          refine x_get (pc' := 103) rfl rfl rfl (hS2.em) rfl ?_
          refine x_iload_n (pc' := 104) rfl rfl rfl ?_
          refine x_cV1i (d := 2) (pc' := 107) rfl rfl sX1_42 gX3_beansOf (hT2.1) ⟨Nat.le_of_ble_eq_true rfl, Nat.le_of_ble_eq_true rfl⟩ (Nat.le_of_ble_eq_true rfl) ⟨Nat.le_of_ble_eq_true rfl, Nat.le_of_ble_eq_true rfl⟩ ?_
          refine w_beansOf hT2 (fun q => ⟨_, rfl, ?_⟩) (fun q => absurd (t_has_nI (show T2.2.2.2 0 = nI (g_n gi) from g2.2.2.2.1) hn9 hw) q)
          refine x_eqi (show T2.2.1 (nI w).toNatClampNeg = nI (g_β (g_mv gi b) w) from by rw [nI_clamp (by omega), g2.2.1]) ?_
          have hβw := ok2.2.2.2.2.2.1 w
          by_cases d3 : g_β (g_mv gi b) w = 0
          · have e1 : q_g1 w d i gi b K = (K.1, K.2.1, K.2.2.1, K.2.2.2.1, nI d, if d = 1 then nI b else K.2.1 i) := (if_pos d2).trans (if_pos d3)
            rw [e1] at K142
            refine x_if_ne (tgt := 124) (pc' := 110) rfl rfl rfl (fun q => absurd (by rw [d3]; rfl) q) (fun _ => ?_)
            refine x_aload_n (pc' := 111) rfl rfl rfl ?_
            refine x_iload_n (pc' := 112) rfl rfl rfl ?_
            refine x_put (pc' := 115) rfl rfl rfl (hS2.em) (Nat.le_of_ble_eq_true rfl) rfl rfl rfl rfl (fun f1 e1 => ?_)
            have hS3 := hS2.numE e1 (x_eFs4 _ _) (by decide)
            have hF3 := hF2'.up e1 (by decide)
            refine x_aload_n (pc' := 116) rfl rfl rfl ?_
            refine x_iload (pc' := 118) rfl rfl rfl ?_
            refine x_put (pc' := 121) rfl rfl rfl (hS3.em) (Nat.le_of_ble_eq_true rfl) rfl rfl rfl rfl (fun f2 e2 => ?_)
            have hS4 := hS3.numE e2 (x_eFs5 _ _) (by decide)
            have hF4 := hF3.up e2 (by decide)
            refine x_goto (tgt := 142) rfl rfl ?_
            exact K142 _ _ _ hS4 ⟨k1, rfl, rfl, k4, k5, k6⟩ (hc2.trans ⟨fun i hi => (pk_un (by omega)).trans (pk_un (by omega)), fun _ _ _ => rfl, fun _ _ _ => rfl, fun _ _ => rfl⟩) ht2 hF4
          · refine x_if_ne (tgt := 124) (pc' := 110) rfl rfl rfl (fun _ => ?_) (fun q => absurd q (nI_ne0 (by omega) (by omega)))
            refine x_iload_n (pc' := 125) rfl rfl rfl ?_
            refine x_iconst (pc' := 126) rfl rfl iconst_5 ?_
            by_cases d4 : d < 5
            · have e1 : q_g1 w d i gi b K = q_kp (g_n gi) (g_β (g_mv gi b)) (if d = 1 then nI b else K.2.1 i) 16384 (q_hs (lN (q_eb (g_β (g_mv gi b)) 0 (g_n gi)))) K := (if_pos d2).trans ((if_neg d3).trans (if_pos d4))
              rw [e1] at K142
              refine x_icmp_ge (tgt := 142) (pc' := 129) rfl rfl rfl (fun q => absurd q (nI_ge (b := 5) d4 (by decide))) (fun _ => ?_)
              refine x_aload_n (pc' := 130) rfl rfl rfl ?_
              refine x_aload_n (pc' := 131) rfl rfl rfl ?_
              refine x_get (pc' := 134) rfl rfl rfl (hS2.em) rfl ?_
              refine x_cV0l (d := 3) (pc' := 137) rfl rfl sX1_56 gX3_beansInOne (hT2.1) ⟨Nat.le_of_ble_eq_true rfl, Nat.le_of_ble_eq_true rfl⟩ (Nat.le_of_ble_eq_true rfl) ⟨Nat.le_of_ble_eq_true rfl, Nat.le_of_ble_eq_true rfl⟩ ?_
              refine w_bio hT2 g2.2.2.2.1 hn9 g2.2.1 (fun j => Nat.le_trans (ok2.2.2.2.2.2.1 j) (by decide)) ⟨_, rfl, ?_⟩
              refine x_iload (pc' := 139) rfl rfl rfl ?_
              refine x_cV2v (d := 1) (pc' := 142) rfl rfl sX1_60 gX1_keep (hS2.em) ⟨Nat.le_of_ble_eq_true rfl, Nat.le_of_ble_eq_true rfl⟩ (Nat.le_of_ble_eq_true rfl) ⟨Nat.le_of_ble_eq_true rfl, Nat.le_of_ble_eq_true rfl⟩ ?_
              refine c_keep hn9 (fun j => ok2.2.2.2.2.2.1 j) hS2 (show e_is (S.1, x_ut S.2.1 5 T2, S.2.2.1, S.2.2.2) K (g_n gi) from hK) ho (fun f3 S3 hS3 hK3 hc3 hT3 hF3 => ⟨rfl, ?_⟩)
              exact K142 _ _ _ hS3 hK3 (hc2.trans hc3) (by rw [hT3]; exact ht2) (hF2'.trans hF3)
            · have e1 : q_g1 w d i gi b K = K := (if_pos d2).trans ((if_neg d3).trans (if_neg d4))
              rw [e1] at K142
              refine x_icmp_ge (tgt := 142) (pc' := 129) rfl rfl rfl (fun _ => ?_) (fun q => absurd (nI_le (a := 5) (by omega) (by omega)) q)
              exact K142 _ _ _ hS2 hK hc2 ht2 hF2'
        by_cases d1 : d = 1
        · rw [if_pos d1] at K99
          refine x_icmp_ne (tgt := 91) (pc' := 86) rfl rfl rfl (fun q => absurd (by rw [d1]; rfl) q) (fun _ => ?_)
          refine x_iload (pc' := 88) rfl rfl rfl ?_
          refine x_goto (tgt := 97) rfl rfl ?_
          refine x_istore (pc' := 99) (lv' := [(5, _), (4, _), (0, _), (1, _), (2, _), (3, _)]) rfl rfl (Nat.le_of_ble_eq_true rfl) rfl ?_
          exact K99
        · rw [if_neg d1] at K99
          refine x_icmp_ne (tgt := 91) (pc' := 86) rfl rfl rfl (fun _ => ?_) (fun q => absurd ((nI_eq (b := 1) (by omega) (by decide)).mp q) d1)
          refine x_aload_n (pc' := 92) rfl rfl rfl ?_
          refine x_get (pc' := 95) rfl rfl rfl (hS2.em) rfl ?_
          refine x_iload_n (pc' := 96) rfl rfl rfl ?_
          refine x_iaload (pc' := 97) rfl rfl (hS2.2.2.1 2 (by decide)) (vp_in_nI (n := i) (N := 7381) hi5 (by decide)) ?_
          refine x_eqi (show S.2.2.1 2 (nI i).toNatClampNeg = K.2.1 i from by rw [nI_clamp (by omega)]; exact k4 i hi) ?_
          refine x_istore (pc' := 99) (lv' := [(5, _), (4, _), (0, _), (1, _), (2, _), (3, _)]) rfl rfl (Nat.le_of_ble_eq_true rfl) rfl ?_
          exact K99
      · rw [show q_g1 w d i gi b K = K from if_neg d2] at h9
        refine x_if_eq (tgt := 142) (pc' := 61) rfl rfl rfl (fun _ => ?_) (fun c58 => absurd (rfl) c58)
        refine x_iinc (pc' := 145) (lv' := [(4, _), (0, _), (1, _), (2, _), (3, _)]) rfl rfl (Nat.le_of_ble_eq_true rfl) rfl (nI_1 b) rfl ?_
        refine x_goto (tgt := 28) rfl rfl ?_
        exact h9 f S hS hK hc ht hF
    · rw [if_neg d0] at hR
      subst hR
      refine x_icmp_ne (tgt := 148) (pc' := 49) rfl rfl rfl (fun _ => ?_) (fun q => absurd q d0)
      exact x_return rfl rfl (Nat.le_of_ble_eq_true rfl) (Nat.le_of_ble_eq_true rfl) (h _ _ hS hK hc ht hF)
theorem c_go (hw : w < g_n g) (hd : d ≤ 5) (hg : g_ok 99 g) (hS : x_Sys z f S) (hK : e_is S K (g_n g)) (ho : e_ok K) (hi : i < K.2.2.2.1) (γ : Nat → Nat) (ht : t_is (S.2.1 4) (g_rg g γ)) (h : ∀ (f' : x_H) (S' : x_S), x_Sys z f' S' → e_is S' (q_go w d i (g_rg g (K.1 i)) (g_n g) 0 K) (g_n g) → c_ek S S' → t_is (S'.2.1 4) (g_rg g (K.1 i)) → x_fr (fun q => 59 ≤ q) f f' → post none f') : Y E 5 mX1_goOnFrom [.ref 42, .int (nI i), .int (nI w), .int (nI d)] z f 0 0 post := by
  refine Y.intro gX1_goOnFrom (lv := [(0, .ref 42), (1, .int (nI i)), (2, .int (nI w)), (3, .int (nI d))]) rfl (Nat.le_of_ble_eq_true rfl) ?_
  obtain ⟨k1, k2, k3, k4, k5, k6⟩ := id hK
  obtain ⟨o1, o2, o3⟩ := id ho
  have hn9 := hg.1
  have hT4 : x_t z f 46 (S.2.1 4) := hS.2.1 4 (by decide)
  have hgi := g_rg_ok hg (o2 i hi)
  refine x_iload_n (pc' := 1) rfl rfl rfl ?_
  refine x_if_lt (tgt := 11) (pc' := 4) rfl rfl rfl (fun c1 => absurd c1 ((nI_pos (by omega)))) (fun _ => ?_)
  refine x_iload_n (pc' := 5) rfl rfl rfl ?_
  refine x_sipush (pc' := 8) rfl rfl sipush_7381 ?_
  refine x_icmp_lt (tgt := 12) (pc' := 11) rfl rfl rfl (fun _ => ?_) (fun c8 => absurd ((nI_lt (b := 7381) (by omega) (by decide))) c8)
  refine x_aload_n (pc' := 13) rfl rfl rfl ?_
  refine x_get (pc' := 16) rfl rfl rfl (hS.em) rfl ?_
  refine x_aload_n (pc' := 17) rfl rfl rfl ?_
  refine x_get (pc' := 20) rfl rfl rfl (hS.em) rfl ?_
  refine x_iload_n (pc' := 21) rfl rfl rfl ?_
  refine x_laload (pc' := 22) rfl rfl (hS.2.2.2.1 0 (by decide)) (vp_in_nI (n := i) (N := 7381) (by omega) (by decide)) ?_
  refine x_eql (show S.2.2.2 0 (nI i).toNatClampNeg = lN (q_eb (K.1 i) 0 (g_n g)) from by rw [nI_clamp (by omega)]; exact k6 i hi) ?_
  refine x_cV1v (d := 3) (pc' := 25) rfl rfl sX1_68 gX3_layFrom (hT4.1) ⟨Nat.le_of_ble_eq_true rfl, Nat.le_of_ble_eq_true rfl⟩ (Nat.le_of_ble_eq_true rfl) ⟨Nat.le_of_ble_eq_true rfl, Nat.le_of_ble_eq_true rfl⟩ ?_
  refine w_lf hT4 ht.2.2.2.1 hn9 (fun j => Nat.le_trans (o2 i hi j) (by decide)) (fun f1 hT1 hF1 => ⟨rfl, ?_⟩)
  have hS1 := hS.tab 4 (by decide) hT1 hF1
  have hF1' : x_fr (fun q => 59 ≤ q) f f1 := c_fr0 (j := 4) (by decide) hF1
  refine x_iconst (pc' := 26) rfl rfl iconst_0 ?_
  refine x_istore (pc' := 28) (lv' := [(4, _), (0, _), (1, _), (2, _), (3, _)]) rfl rfl (Nat.le_of_ble_eq_true rfl) rfl ?_
  refine c_goL (gi := g_rg g (K.1 i)) (i := i) hw hd hgi (by omega) f S _ h (g_n g) 0 K f1 _ (by show 0 + g_n g = g_n g; omega) rfl hS1 hK ho hi ⟨fun _ _ => rfl, fun j a b => if_neg a, fun _ _ _ => rfl, fun _ _ => rfl⟩ ⟨ht.1, ?_, ht.2.2⟩ hF1'
  show (fun b => if b < g_n g then nI (K.1 i b) else (S.2.1 4).2.1 b) = fun b => nI (if b < g_n g then K.1 i b else g_β g b)
  funext b
  by_cases db : b < g_n g
  · rw [if_pos db, if_pos db]
  · rw [if_neg db, if_neg db, ht.2.1]
    show nI (if b < g_n g then γ b else g_β g b) = nI (g_β g b)
    rw [if_neg db]
theorem c_skI {l : Nat} {v : Int32} (hw : w < g_n g) (hd : d ≤ 5) (hg : g_ok 99 g) (f0 : x_H) (S0 : x_S) (e : Nat) (R : q_K) (h : ∀ (f' : x_H) (S' : x_S) (v : Int32), x_Sys z f' S' → e_is S' R (g_n g) → e_ok R → e ≤ R.2.2.2.1 → c_ek S0 S' → (∃ γ, t_is (S'.2.1 4) (g_rg g γ)) → x_fr (fun q => 59 ≤ q) f0 f' → X E (x_rm 6 0 0) mX1_seek (x_QM E z 0 0 post) 126 [(6, .int v), (5, .int (nI e)), (4, .int (nI d)), (3, .int (nI l)), (0, .ref 42), (1, .ref 1), (2, .int (nI w))] [] z f' 0 0) : ∀ (m i : Nat) (K : q_K) (f : x_H) (S : x_S), i + m = e → q_li w d g m i K = R → x_Sys z f S → e_is S K (g_n g) → e_ok K → e ≤ K.2.2.2.1 → c_ek S0 S → (∃ γ, t_is (S.2.1 4) (g_rg g γ)) → x_fr (fun q => 59 ≤ q) f0 f → X E (x_rm 6 0 0) mX1_seek (x_QM E z 0 0 post) 95 [(6, .int (nI i)), (5, .int (nI e)), (4, .int (nI d)), (3, .int (nI l)), (0, .ref 42), (1, .ref 1), (2, .int (nI w))] [] z f 0 0 := by
  intro m
  induction m with
  | zero =>
    intro i K f S hi hR hS hK ho he hc ht hF
    have hi2 : i = e := by omega
    subst hi2
    have hR2 : K = R := hR
    subst hR2
    refine x_iload (pc' := 97) rfl rfl rfl ?_
    refine x_iload (pc' := 99) rfl rfl rfl ?_
    refine x_icmp_ge (tgt := 126) (pc' := 102) rfl rfl rfl (fun _ => ?_) (fun c99 => absurd ((Int32.le_refl _)) c99)
    exact h _ _ _ hS hK ho he hc ht hF
  | succ m ih =>
    intro i K f S hi hR hS hK ho he hc ht hF
    obtain ⟨k1, k2, k3, k4, k5, k6⟩ := id hK
    have o1 := ho.1
    unfold q_li at hR
    obtain ⟨γ, hγ⟩ := ht
    refine x_iload (pc' := 97) rfl rfl rfl ?_
    refine x_iload (pc' := 99) rfl rfl rfl ?_
    refine x_icmp_ge (tgt := 126) (pc' := 102) rfl rfl rfl (fun c99 => absurd c99 ((nI_ge (by omega) (by omega)))) (fun _ => ?_)
    refine x_aload_n (pc' := 103) rfl rfl rfl ?_
    refine x_get (pc' := 106) rfl rfl rfl (hS.em) rfl ?_
    refine x_eqi k2 ?_
    refine x_bipush (pc' := 108) rfl rfl bipush_m9 ?_
    by_cases d0 : K.2.2.2.2.1 = -9
    · rw [if_pos d0] at hR
      refine x_icmp_ne (tgt := 126) (pc' := 111) rfl rfl rfl (fun q => absurd d0 q) (fun _ => ?_)
      refine x_aload_n (pc' := 112) rfl rfl rfl ?_
      refine x_iload (pc' := 114) rfl rfl rfl ?_
      refine x_iload_n (pc' := 115) rfl rfl rfl ?_
      refine x_iload (pc' := 117) rfl rfl rfl ?_
      refine x_cV3v (d := 5) (pc' := 120) rfl rfl sX1_64 gX1_goOnFrom (hS.em) ⟨Nat.le_of_ble_eq_true rfl, Nat.le_of_ble_eq_true rfl⟩ (Nat.le_of_ble_eq_true rfl) ⟨Nat.le_of_ble_eq_true rfl, Nat.le_of_ble_eq_true rfl⟩ ?_
      refine c_go hw hd hg hS hK ho (by omega) γ hγ (fun f1 S1 hS1 hK1 hc1 ht1 hF1 => ⟨rfl, ?_⟩)
      obtain ⟨og1, og2, og3⟩ := q_go_ok (w := w) (d := d) (i := i) (g_rg_ok hg (ho.2.1 i (by omega))) (g_n g) 0 K ho
      refine x_iinc (pc' := 123) (lv' := [(6, _), (5, _), (4, _), (3, _), (0, _), (1, _), (2, _)]) rfl rfl (Nat.le_of_ble_eq_true rfl) rfl (nI_1 i) rfl ?_
      refine x_goto (tgt := 95) rfl rfl ?_
      exact ih (i + 1) _ f1 S1 (by omega) hR hS1 hK1 og1 (by omega) (hc.trans hc1) ⟨_, ht1⟩ (hF.trans hF1)
    · rw [if_neg d0] at hR
      subst hR
      refine x_icmp_ne (tgt := 126) (pc' := 111) rfl rfl rfl (fun _ => ?_) (fun q => absurd q d0)
      exact h _ _ _ hS hK ho he hc ⟨γ, hγ⟩ hF
theorem c_skD (hw : w < g_n g) (hg : g_ok 99 g) (f0 : x_H) (S0 : x_S) (R : q_K) (h : ∀ (f' : x_H) (S' : x_S), x_Sys z f' S' → e_is S' R (g_n g) → c_ek S0 S' → x_fr (fun q => 59 ≤ q) f0 f' → post none f') : ∀ (m d l : Nat) (K : q_K) (f : x_H) (S : x_S), d + m = 6 → q_dp w g m d l K = R → x_Sys z f S → e_is S K (g_n g) → e_ok K → l ≤ K.2.2.2.1 → c_ek S0 S → (∃ γ, t_is (S.2.1 4) (g_rg g γ)) → x_fr (fun q => 59 ≤ q) f0 f → X E (x_rm 6 0 0) mX1_seek (x_QM E z 0 0 post) 71 [(4, .int (nI d)), (3, .int (nI l)), (0, .ref 42), (1, .ref 1), (2, .int (nI w))] [] z f 0 0 := by
  intro m
  induction m with
  | zero =>
    intro d l K f S hd hR hS hK ho hl hc ht hF
    have hd2 : d = 6 := by omega
    subst hd2
    have hR2 : K = R := hR
    subst hR2
    refine x_iload (pc' := 73) rfl rfl rfl ?_
    refine x_iconst (pc' := 74) rfl rfl iconst_5 ?_
    refine x_icmp_gt (tgt := 135) (pc' := 77) rfl rfl rfl (fun _ => ?_) (fun c74 => absurd ((by decide : (5 : Int32) < nI 6)) c74)
    exact x_return rfl rfl (Nat.le_of_ble_eq_true rfl) (Nat.le_of_ble_eq_true rfl) (h _ _ hS hK hc hF)
  | succ m ih =>
    intro d l K f S hd hR hS hK ho hl hc ht hF
    obtain ⟨k1, k2, k3, k4, k5, k6⟩ := id hK
    have o1 := ho.1
    unfold q_dp at hR
    refine x_iload (pc' := 73) rfl rfl rfl ?_
    refine x_iconst (pc' := 74) rfl rfl iconst_5 ?_
    refine x_icmp_gt (tgt := 135) (pc' := 77) rfl rfl rfl (fun c74 => absurd c74 ((nI_nlt (a := 5) (b := d) (by omega) (by decide)))) (fun _ => ?_)
    refine x_aload_n (pc' := 78) rfl rfl rfl ?_
    refine x_get (pc' := 81) rfl rfl rfl (hS.em) rfl ?_
    refine x_eqi k2 ?_
    refine x_bipush (pc' := 83) rfl rfl bipush_m9 ?_
    by_cases d0 : K.2.2.2.2.1 = -9
    · rw [if_pos d0] at hR
      refine x_icmp_ne (tgt := 135) (pc' := 86) rfl rfl rfl (fun q => absurd d0 q) (fun _ => ?_)
      refine x_aload_n (pc' := 87) rfl rfl rfl ?_
      refine x_get (pc' := 90) rfl rfl rfl (hS.em) rfl ?_
      refine x_eqi k1 ?_
      refine x_istore (pc' := 92) (lv' := [(5, _), (4, _), (3, _), (0, _), (1, _), (2, _)]) rfl rfl (Nat.le_of_ble_eq_true rfl) rfl ?_
      refine x_iload_n (pc' := 93) rfl rfl rfl ?_
      refine x_istore (pc' := 95) (lv' := [(6, _), (5, _), (4, _), (3, _), (0, _), (1, _), (2, _)]) rfl rfl (Nat.le_of_ble_eq_true rfl) rfl ?_
      refine c_skI (l := l) (v := 0) (d := d) hw (by omega) hg f S K.2.2.2.1 _ (fun f1 S1 v1 hS1 hK1 ho1 he1 hc1 ht1 hF1 => ?_) (K.2.2.2.1 - l) l K f S (by omega) rfl hS hK ho (Nat.le_refl _) c_ek.rf ht x_fr.rf
      refine x_iload (pc' := 128) rfl rfl rfl ?_
      refine x_istore_n (pc' := 129) (lv' := [(3, _), (6, _), (5, _), (4, _), (0, _), (1, _), (2, _)]) rfl rfl (Nat.le_of_ble_eq_true rfl) rfl ?_
      refine x_iinc (pc' := 132) (lv' := [(4, _), (3, _), (6, _), (5, _), (0, _), (1, _), (2, _)]) rfl rfl (Nat.le_of_ble_eq_true rfl) rfl (nI_1 d) rfl ?_
      refine x_goto (tgt := 71) rfl rfl ?_
      refine x_lvp [0, 1, 4, 5, 6] rfl ?_
      exact ih (d + 1) K.2.2.2.1 _ f1 S1 (by omega) hR hS1 hK1 ho1 he1 (hc.trans hc1) ht1 (hF.trans hF1)
    · rw [if_neg d0] at hR
      subst hR
      refine x_icmp_ne (tgt := 135) (pc' := 86) rfl rfl rfl (fun _ => ?_) (fun q => absurd q d0)
      exact x_return rfl rfl (Nat.le_of_ble_eq_true rfl) (Nat.le_of_ble_eq_true rfl) (h _ _ hS hK hc hF)
theorem c_seek (hw : w < g_n g) (hg : g_ok 99 g) (hS : x_Sys z f S) (ht : t_is (S.2.1 0) g) (h : ∀ (f' : x_H) (S' : x_S), x_Sys z f' S' → S'.1 4 = (q_sek w g).1 → S'.1 5 = (q_sek w g).2 → c_ek S S' → x_fr (fun q => 59 ≤ q) f f' → post none f') : Y E 6 mX1_seek [.ref 42, .ref 1, .int (nI w)] z f 0 0 post := by
  refine Y.intro gX1_seek (lv := [(0, .ref 42), (1, .ref 1), (2, .int (nI w))]) rfl (Nat.le_of_ble_eq_true rfl) ?_
  have hn9 := hg.1
  have hβ := hg.2.2.2.2.2.1
  have hβw := hβ w
  have hcl : (nI w).toNatClampNeg = w := nI_clamp (by omega)
  have ew : (S.2.1 0).2.1 (nI w).toNatClampNeg = nI (g_β g w) := by rw [hcl, ht.2.1]
  unfold q_sek at h
  refine x_aload_n (pc' := 1) rfl rfl rfl ?_
  refine x_bipush (pc' := 3) rfl rfl bipush_m9 ?_
  refine x_put (pc' := 6) rfl rfl rfl (hS.em) (Nat.le_of_ble_eq_true rfl) rfl rfl rfl rfl (fun f1 e1 => ?_)
  have hS1 := hS.numE e1 (x_eFs5 _ _) (by decide)
  have hF1 : x_fr (fun q => 59 ≤ q) f f1 := (x_fr.rf (P := fun q => 59 ≤ q)).up e1 (by decide)
  have hT1 : x_t z f1 1 (S.2.1 0) := hS1.2.1 0 (by decide)
  refine x_aload_n (pc' := 7) rfl rfl rfl ?_
  refine x_aload_n (pc' := 8) rfl rfl rfl ?_
  refine x_iload_n (pc' := 9) rfl rfl rfl ?_
  refine x_cV1i (d := 2) (pc' := 12) rfl rfl sX1_42 gX3_beansOf (hT1.1) ⟨Nat.le_of_ble_eq_true rfl, Nat.le_of_ble_eq_true rfl⟩ (Nat.le_of_ble_eq_true rfl) ⟨Nat.le_of_ble_eq_true rfl, Nat.le_of_ble_eq_true rfl⟩ ?_
  refine w_beansOf hT1 (fun q => ⟨_, rfl, ?_⟩) (fun q => absurd (t_has_nI ht.2.2.2.1 hn9 hw) q)
  refine x_eqi ew ?_
  by_cases d0 : g_β g w = 0
  · rw [if_pos d0] at h
    refine x_if_ne (tgt := 19) (pc' := 15) rfl rfl rfl (fun q => absurd (by rw [d0]; rfl) q) (fun _ => ?_)
    refine x_iconst (pc' := 16) rfl rfl iconst_0 ?_
    refine x_goto (tgt := 21) rfl rfl ?_
    refine x_put (pc' := 24) rfl rfl rfl (hS1.em) (Nat.le_of_ble_eq_true rfl) rfl rfl rfl rfl (fun f2 e2 => ?_)
    have hS2 := hS1.numE e2 (x_eFs4 _ _) (by decide)
    have hF2 := hF1.up e2 (by decide)
    refine x_aload_n (pc' := 25) rfl rfl rfl ?_
    refine x_get (pc' := 28) rfl rfl rfl (hS2.em) rfl ?_
    refine x_eqi (show upd (upd S.1 5 (-9)) 4 0 4 = 0 from rfl) ?_
    refine x_if_ne (tgt := 32) (pc' := 31) rfl rfl rfl (fun c28 => absurd (rfl) c28) (fun _ => ?_)
    exact x_return rfl rfl (Nat.le_of_ble_eq_true rfl) (Nat.le_of_ble_eq_true rfl) (h _ _ hS2 rfl rfl ⟨fun i hi => (pk_un (by omega)).trans (pk_un (by omega)), fun _ _ _ => rfl, fun _ _ _ => rfl, fun _ _ => rfl⟩ hF2)
  · rw [if_neg d0] at h
    refine x_if_ne (tgt := 19) (pc' := 15) rfl rfl rfl (fun _ => ?_) (fun q => absurd q (nI_ne0 (by omega) (by omega)))
    refine x_bipush (pc' := 21) rfl rfl bipush_m9 ?_
    refine x_put (pc' := 24) rfl rfl rfl (hS1.em) (Nat.le_of_ble_eq_true rfl) rfl rfl rfl rfl (fun f3 e3 => ?_)
    have hS2 := hS1.numE e3 (x_eFs4 _ _) (by decide)
    have hF2 := hF1.up e3 (by decide)
    refine x_aload_n (pc' := 25) rfl rfl rfl ?_
    refine x_get (pc' := 28) rfl rfl rfl (hS2.em) rfl ?_
    refine x_eqi (show upd (upd S.1 5 (-9)) 4 (-9) 4 = -9 from rfl) ?_
    refine x_if_ne (tgt := 32) (pc' := 31) rfl rfl rfl (fun _ => ?_) (fun c28 => absurd c28 ((by decide)))
    refine x_aload_n (pc' := 33) rfl rfl rfl ?_
    refine x_iconst (pc' := 34) rfl rfl iconst_0 ?_
    refine x_put (pc' := 37) rfl rfl rfl (hS2.em) (Nat.le_of_ble_eq_true rfl) rfl rfl rfl rfl (fun f4 e4 => ?_)
    have hS3 := hS2.numE e4 (x_eFs3 _ _) (by decide)
    have hF3 := hF2.up e4 (by decide)
    refine x_aload_n (pc' := 38) rfl rfl rfl ?_
    refine x_get (pc' := 41) rfl rfl rfl (hS3.em) rfl ?_
    refine x_iconst (pc' := 42) rfl rfl iconst_0 ?_
    refine x_cS2v (d := 1) (pc' := 45) rfl rfl sX1_46 gJ7_fill_53178 ⟨Nat.le_of_ble_eq_true rfl, Nat.le_of_ble_eq_true rfl⟩ (Nat.le_of_ble_eq_true rfl) ⟨Nat.le_of_ble_eq_true rfl, Nat.le_of_ble_eq_true rfl⟩ ?_
    refine w_fillI (by decide) (hS3.2.2.1 3 (by decide)) (fun f4 ha4 hF4 => ⟨rfl, ?_⟩)
    have hS4 := hS3.arrf (j := 3) (by decide) ha4 hF4
    have hF4' := hF3.trans (hF4.mono (fun q hq => by have : 59 ≤ q := hq; show q ≠ 45; omega))
    have hT04 : x_t z f4 1 (S.2.1 0) := hS4.2.1 0 (by decide)
    have hT44 : x_t z f4 46 (S.2.1 4) := hS4.2.1 4 (by decide)
    refine x_aload_n (pc' := 46) rfl rfl rfl ?_
    refine x_get (pc' := 49) rfl rfl rfl (hS4.em) rfl ?_
    refine x_aload_n (pc' := 50) rfl rfl rfl ?_
    refine x_cV1v (d := 1) (pc' := 53) rfl rfl sX1_52 gX3_copyFrom (hT44.1) ⟨Nat.le_of_ble_eq_true rfl, Nat.le_of_ble_eq_true rfl⟩ (Nat.le_of_ble_eq_true rfl) ⟨Nat.le_of_ble_eq_true rfl, Nat.le_of_ble_eq_true rfl⟩ ?_
    refine w_copyFrom hT44 hT04 (by decide) (fun f5 hT5 hF5 => ⟨rfl, ?_⟩)
    have hS5 := hS4.tab 4 (by decide) hT5 hF5
    have hF5' := hF4'.trans (c_fr0 (j := 4) (by decide) hF5)
    have t5 := x_cp_is (T := S.2.1 4) ht
    refine x_aload_n (pc' := 54) rfl rfl rfl ?_
    refine x_aload_n (pc' := 55) rfl rfl rfl ?_
    refine x_get (pc' := 58) rfl rfl rfl (hS5.em) rfl ?_
    refine x_cV0l (d := 3) (pc' := 61) rfl rfl sX1_56 gX3_beansInOne (hT5.1) ⟨Nat.le_of_ble_eq_true rfl, Nat.le_of_ble_eq_true rfl⟩ (Nat.le_of_ble_eq_true rfl) ⟨Nat.le_of_ble_eq_true rfl, Nat.le_of_ble_eq_true rfl⟩ ?_
    refine w_bio hT5 t5.2.2.2.1 hn9 t5.2.1 (fun j => Nat.le_trans (hβ j) (by decide)) ⟨_, rfl, ?_⟩
    refine x_bipush (pc' := 63) rfl rfl bipush_m9 ?_
    refine x_cV2v (d := 1) (pc' := 66) rfl rfl sX1_60 gX1_keep (hS5.em) ⟨Nat.le_of_ble_eq_true rfl, Nat.le_of_ble_eq_true rfl⟩ (Nat.le_of_ble_eq_true rfl) ⟨Nat.le_of_ble_eq_true rfl, Nat.le_of_ble_eq_true rfl⟩ ?_
    refine c_keep (K := (fun _ _ => 0, fun _ => 0, fun _ => 0, 0, -9, -9)) hn9 hβ hS5 ⟨rfl, rfl, rfl, fun p hp => absurd hp (Nat.not_lt_zero p), rfl, fun p hp => absurd hp (Nat.not_lt_zero p)⟩ ⟨Nat.zero_le _, fun p hp => absurd hp (Nat.not_lt_zero p), fun _ => Nat.le_refl _⟩ (fun f6 S6 hS6 hK6 hc6 hT6 hF6 => ⟨rfl, ?_⟩)
    refine x_iconst (pc' := 67) rfl rfl iconst_0 ?_
    refine x_istore_n (pc' := 68) (lv' := [(3, _), (0, _), (1, _), (2, _)]) rfl rfl (Nat.le_of_ble_eq_true rfl) rfl ?_
    refine x_iconst (pc' := 69) rfl rfl iconst_1 ?_
    refine x_istore (pc' := 71) (lv' := [(4, _), (3, _), (0, _), (1, _), (2, _)]) rfl rfl (Nat.le_of_ble_eq_true rfl) rfl ?_
    have hok6 := e_ok_kp (n := g_n g) (fm := -9) hβ 16384 (q_hs (lN (q_eb (g_β g) 0 (g_n g)))) (fun _ _ => 0, fun _ => 0, fun _ => 0, 0, -9, -9) ⟨Nat.zero_le _, fun p hp => absurd hp (Nat.not_lt_zero p), fun _ => Nat.le_refl _⟩
    have hc06 : c_ek S S6 := (show c_ek S (upd (upd (upd S.1 5 (-9)) 4 (-9)) 3 0, x_ut S.2.1 4 (x_cp (S.2.1 4) (S.2.1 0)), x_ua S.2.2.1 3 (fun _ => 0), S.2.2.2) from ⟨fun i hi => (pk_un (by omega)).trans ((pk_un (by omega)).trans (pk_un (by omega))), fun j a b => if_neg a, fun j a b => if_neg b, fun _ _ => rfl⟩).trans hc6
    exact c_skD hw hg f S (q_dp w g 5 1 0 (q_K1 g)) (fun f' S' b1 b2 b3 b4 => h f' S' b1 b2.2.1 b2.2.2.1 b3 b4) 5 1 0 (q_K1 g) f6 S6 (by decide) rfl hS6 hK6 hok6.1 (Nat.zero_le _) hc06 ⟨g_β g, by rw [g_rg_id, hT6]; exact t5⟩ (hF5'.trans hF6)
def s_teC (A : q_A) (a b : Int32) : q_A × Int32 := if q_in (g_n (a_g A)) a then (if b < 0 ∨ 1 < b then (s_no A 2, -2) else (A, if b = 0 then (q_sek a.toNatClampNeg (a_g A)).1 else (q_sek a.toNatClampNeg (a_g A)).2)) else (s_no A 1, -1)
theorem c_toEmpty (hS : x_Sys z f S) (hA : c_is S A) (ho : a_ok A) (h : c_ends z f post (s_teC A a b)) : Y E 9 mX5_toEmpty [.ref 0, .int a, .int b] z f 0 0 post := by
  refine Y.intro gX5_toEmpty (lv := [(0, .ref 0), (1, .int a), (2, .int b)]) rfl (Nat.le_of_ble_eq_true rfl) ?_
  refine x_aload_n (pc' := 1) rfl rfl rfl ?_
  refine x_get (pc' := 4) rfl rfl rfl (hS.1) rfl ?_
  refine x_iload_n (pc' := 5) rfl rfl rfl ?_
  refine x_cV1i (d := 1) (pc' := 8) rfl rfl sX5_90 gX3_has ((hS.2.1 0 (by decide)).1) ⟨Nat.le_of_ble_eq_true rfl, Nat.le_of_ble_eq_true rfl⟩ (Nat.le_of_ble_eq_true rfl) ⟨Nat.le_of_ble_eq_true rfl, Nat.le_of_ble_eq_true rfl⟩ ?_
  refine c_has hS hA ho (fun d1 => ⟨_, rfl, ?_⟩) (fun d1 => ⟨_, rfl, ?_⟩)
  · rw [show s_teC A a b = _ from if_pos d1] at h
    refine x_if_ne (tgt := 17) (pc' := 11) rfl rfl rfl (fun _ => ?_) (fun c8 => absurd c8 ((by decide)))
    refine x_iload_n (pc' := 18) rfl rfl rfl ?_
    by_cases d2 : b < 0 ∨ 1 < b
    · rw [if_pos d2] at h
      rcases d2 with d2 | d2
      · refine x_if_lt (tgt := 26) (pc' := 21) rfl rfl rfl (fun _ => ?_) (fun q => absurd d2 q)
        refine x_aload_n (pc' := 27) rfl rfl rfl ?_
        refine x_bipush (pc' := 29) rfl rfl bipush_m2 ?_
        refine x_cV1i (d := 1) (pc' := 32) rfl rfl sX5_68 gX5_refuse (hS.1) ⟨Nat.le_of_ble_eq_true rfl, Nat.le_of_ble_eq_true rfl⟩ (Nat.le_of_ble_eq_true rfl) ⟨Nat.le_of_ble_eq_true rfl, Nat.le_of_ble_eq_true rfl⟩ ?_
        refine c_refuse (k := 2) (by decide) (by decide) hS hA (fun f1 S1 hS1 hA1 hF1 => ⟨_, rfl, ?_⟩)
        exact x_ireturn rfl rfl rfl (Nat.le_of_ble_eq_true rfl) (Nat.le_of_ble_eq_true rfl) (h _ _ hS1 hA1 hF1)
      · refine x_if_lt (tgt := 26) (pc' := 21) rfl rfl rfl (fun _ => ?_) (fun _ => ?_)
        · refine x_aload_n (pc' := 27) rfl rfl rfl ?_
          refine x_bipush (pc' := 29) rfl rfl bipush_m2 ?_
          refine x_cV1i (d := 1) (pc' := 32) rfl rfl sX5_68 gX5_refuse (hS.1) ⟨Nat.le_of_ble_eq_true rfl, Nat.le_of_ble_eq_true rfl⟩ (Nat.le_of_ble_eq_true rfl) ⟨Nat.le_of_ble_eq_true rfl, Nat.le_of_ble_eq_true rfl⟩ ?_
          refine c_refuse (k := 2) (by decide) (by decide) hS hA (fun f1 S1 hS1 hA1 hF1 => ⟨_, rfl, ?_⟩)
          exact x_ireturn rfl rfl rfl (Nat.le_of_ble_eq_true rfl) (Nat.le_of_ble_eq_true rfl) (h _ _ hS1 hA1 hF1)
        · refine x_iload_n (pc' := 22) rfl rfl rfl ?_
          refine x_iconst (pc' := 23) rfl rfl iconst_1 ?_
          refine x_icmp_le (tgt := 33) (pc' := 26) rfl rfl rfl (fun c23 => absurd c23 ((Int32.not_le.mpr d2))) (fun _ => ?_)
          refine x_aload_n (pc' := 27) rfl rfl rfl ?_
          refine x_bipush (pc' := 29) rfl rfl bipush_m2 ?_
          refine x_cV1i (d := 1) (pc' := 32) rfl rfl sX5_68 gX5_refuse (hS.1) ⟨Nat.le_of_ble_eq_true rfl, Nat.le_of_ble_eq_true rfl⟩ (Nat.le_of_ble_eq_true rfl) ⟨Nat.le_of_ble_eq_true rfl, Nat.le_of_ble_eq_true rfl⟩ ?_
          refine c_refuse (k := 2) (by decide) (by decide) hS hA (fun f1 S1 hS1 hA1 hF1 => ⟨_, rfl, ?_⟩)
          exact x_ireturn rfl rfl rfl (Nat.le_of_ble_eq_true rfl) (Nat.le_of_ble_eq_true rfl) (h _ _ hS1 hA1 hF1)
    · rw [if_neg d2] at h
      refine x_if_lt (tgt := 26) (pc' := 21) rfl rfl rfl (fun q => absurd (Or.inl q) d2) (fun _ => ?_)
      obtain ⟨k, hk, hk2, rfl, hcl⟩ := q_in_k d1
      rw [hcl] at h
      refine x_iload_n (pc' := 22) rfl rfl rfl ?_
      refine x_iconst (pc' := 23) rfl rfl iconst_1 ?_
      refine x_icmp_le (tgt := 33) (pc' := 26) rfl rfl rfl (fun _ => ?_) (fun c23 => absurd ((Int32.not_lt.mp (fun q => d2 (Or.inr q)))) c23)
      refine x_aload_n (pc' := 34) rfl rfl rfl ?_
      refine x_get (pc' := 37) rfl rfl rfl (hS.1) rfl ?_
      refine x_aload_n (pc' := 38) rfl rfl rfl ?_
      refine x_get (pc' := 41) rfl rfl rfl (hS.1) rfl ?_
      refine x_iload_n (pc' := 42) rfl rfl rfl ?_
      refine x_cV2v (d := 6) (pc' := 45) rfl rfl sX5_169 gX1_seek (hS.em) ⟨Nat.le_of_ble_eq_true rfl, Nat.le_of_ble_eq_true rfl⟩ (Nat.le_of_ble_eq_true rfl) ⟨Nat.le_of_ble_eq_true rfl, Nat.le_of_ble_eq_true rfl⟩ ?_
      refine c_seek hk ho.1 hS hA.1 (fun f1 S1 hS1 e4 e5 hc1 hF1 => ⟨rfl, ?_⟩)
      refine x_iload_n (pc' := 46) rfl rfl rfl ?_
      refine x_if_ne (tgt := 59) (pc' := 49) rfl rfl rfl (fun c46 => ?_) (fun c46 => ?_)
      · rw [if_neg c46] at h
        refine x_aload_n (pc' := 60) rfl rfl rfl ?_
        refine x_get (pc' := 63) rfl rfl rfl (hS1.1) rfl ?_
        refine x_get (pc' := 66) rfl rfl rfl (hS1.em) rfl ?_
        refine x_eqi e5 ?_
        exact x_ireturn rfl rfl rfl (Nat.le_of_ble_eq_true rfl) (Nat.le_of_ble_eq_true rfl) (h _ _ hS1 (hA.sc hc1.sc) hF1)
      · rw [if_pos c46] at h
        refine x_aload_n (pc' := 50) rfl rfl rfl ?_
        refine x_get (pc' := 53) rfl rfl rfl (hS1.1) rfl ?_
        refine x_get (pc' := 56) rfl rfl rfl (hS1.em) rfl ?_
        refine x_eqi e4 ?_
        refine x_goto (tgt := 66) rfl rfl ?_
        exact x_ireturn rfl rfl rfl (Nat.le_of_ble_eq_true rfl) (Nat.le_of_ble_eq_true rfl) (h _ _ hS1 (hA.sc hc1.sc) hF1)
  · rw [show s_teC A a b = _ from if_neg d1] at h
    refine x_if_ne (tgt := 17) (pc' := 11) rfl rfl rfl (fun c8 => absurd (rfl) c8) (fun _ => ?_)
    refine x_aload_n (pc' := 12) rfl rfl rfl ?_
    refine x_iconst (pc' := 13) rfl rfl iconst_m1 ?_
    refine x_cV1i (d := 1) (pc' := 16) rfl rfl sX5_68 gX5_refuse (hS.1) ⟨Nat.le_of_ble_eq_true rfl, Nat.le_of_ble_eq_true rfl⟩ (Nat.le_of_ble_eq_true rfl) ⟨Nat.le_of_ble_eq_true rfl, Nat.le_of_ble_eq_true rfl⟩ ?_
    refine c_refuse (k := 1) (by decide) (by decide) hS hA (fun f1 S1 hS1 hA1 hF1 => ⟨_, rfl, ?_⟩)
    exact x_ireturn rfl rfl rfl (Nat.le_of_ble_eq_true rfl) (Nat.le_of_ble_eq_true rfl) (h _ _ hS1 hA1 hF1)
end SE
