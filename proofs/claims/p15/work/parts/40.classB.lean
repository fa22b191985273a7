/-! The class's calls that make moves in mind; the picture; counts. -/
theorem i_tab {b : Int32} {n : Nat} (h : ∀ k : Nat, k ≤ n → b ≠ nI k) : b.toInt < 0 ∨ (n : Int) < b.toInt := x_tab_out (fun q h1 h2 => by
  obtain ⟨k, rfl⟩ : ∃ k : Nat, q = k := ⟨q.toNat, by omega⟩
  exact h k (by omega))
/-- the row is played: made, state -/
def q_plays (rf : Nat → Nat) : Nat → Nat → q_G → Nat × q_G
  | 0, i, g => (i, g)
  | k + 1, i, g => if g_can g (rf i) then q_plays rf k (i + 1) (g_mv g (rf i)) else (i, g)
theorem q_plays_ok {rf : Nat → Nat} {C : Nat} (hC : 99 ≤ C) (hC2 : C ≤ 100) : ∀ (k i : Nat) (g : q_G), g_ok C g → g_ok C (q_plays rf k i g).2 ∧ i ≤ (q_plays rf k i g).1 ∧ (q_plays rf k i g).1 ≤ i + k
  | 0, i, g, h => ⟨h, Nat.le_refl _, Nat.le_refl _⟩
  | k + 1, i, g, h => by
    unfold q_plays
    split
    · rename_i hc
      have h2 := q_plays_ok hC hC2 (rf := rf) k (i + 1) (g_mv g (rf i)) (g_mv_ok h hC hC2 hc.2.1)
      exact ⟨h2.1, by omega, by omega⟩
    · exact ⟨h, Nat.le_refl _, by omega⟩
def g_flip (g : q_G) : q_G := (g.1, g.2.1, g.2.2.1, g_n g, g_f g, g_l g, 1 - g_t g)
theorem g_flip_ok {C : Nat} {g : q_G} (h : g_ok C g) : g_ok C (g_flip g) := ⟨h.1, h.2.1, h.2.2.1, (by show 1 - g_t g ≤ 1; omega), h.2.2.2.2⟩
def q_z (z : Int32) : Int32 := z * 1664525 + 1013904223
def q_zb (z : Int32) (n : Nat) : Nat := z.toBitVec.toNat % 2 ^ 31 / 256 % n
/-- a game by lot -/
def q_lot : Nat → Int32 → q_G → Int32 × q_G
  | 0, z, g => (z, g)
  | k + 1, z, g => q_lot k (q_z z) (if g_can g (q_zb (q_z z) (g_n g)) then g_mv g (q_zb (q_z z) (g_n g)) else g_flip g)
def q_lotN (z : Int32) (n : Nat) : Nat := q_zb z n
section CB
variable {E : x_E} {z : Nat} {f : x_H} {S : x_S} {A : q_A} {post : Option Value → x_H → Prop} {a b : Int32}
theorem c_tr {T : x_T} (h : c_is S A) : c_is (S.1, x_ut S.2.1 2 T, S.2.2.1, S.2.2.2) A := h.sc (c_sc.tab (by decide) (by decide))
theorem c_by (hS : x_Sys z f S) (hA : c_is S A) (ho : a_ok A) (h : c_ends z f post (s_by A a b)) : Y E 9 mX5_by [.ref 0, .int a, .int b] z f 0 0 post := by
  refine Y.intro gX5_by (lv := [(0, .ref 0), (1, .int a), (2, .int b)]) rfl (Nat.le_of_ble_eq_true rfl) ?_
  obtain ⟨b1, b2, b3, b4, b5, b6, b7, b8⟩ := id hA
  have hT := hS.2.1 0 (by decide)
  by_cases d1 : q_in (g_n (a_g A)) a
  · obtain ⟨k, hk, hk2, rfl, hcl⟩ := q_in_k d1
    have hhas := t_has_nI (T := S.2.1 0) b1.2.2.2.1 ho.1.1 hk
    rw [show s_by A (nI k) b = _ from if_pos d1, hcl] at h
    by_cases e0 : b < 0
    · rw [if_pos (Or.inl e0)] at h
      refine x_aload_n (pc' := 1) rfl rfl rfl ?_
      refine x_get (pc' := 4) rfl rfl rfl (hS.1) rfl ?_
      refine x_iload_n (pc' := 5) rfl rfl rfl ?_
      refine x_cV1i (d := 1) (pc' := 8) rfl rfl sX5_90 gX3_has (hT.1) ⟨Nat.le_of_ble_eq_true rfl, Nat.le_of_ble_eq_true rfl⟩ (Nat.le_of_ble_eq_true rfl) ⟨Nat.le_of_ble_eq_true rfl, Nat.le_of_ble_eq_true rfl⟩ ?_
      refine w_has hT (fun _ => ⟨_, rfl, ?_⟩) (fun g => absurd hhas g)
      refine x_if_ne (tgt := 17) (pc' := 11) rfl rfl rfl (fun _ => ?_) (fun c8 => absurd c8 ((by decide)))
      refine x_iload_n (pc' := 18) rfl rfl rfl ?_
      refine x_if_lt (tgt := 26) (pc' := 21) rfl rfl rfl (fun _ => ?_) (fun c18 => absurd (e0) c18)
      refine x_aload_n (pc' := 27) rfl rfl rfl ?_
      refine x_bipush (pc' := 29) rfl rfl bipush_m2 ?_
      refine x_cV1i (d := 1) (pc' := 32) rfl rfl sX5_68 gX5_refuse (hS.1) ⟨Nat.le_of_ble_eq_true rfl, Nat.le_of_ble_eq_true rfl⟩ (Nat.le_of_ble_eq_true rfl) ⟨Nat.le_of_ble_eq_true rfl, Nat.le_of_ble_eq_true rfl⟩ ?_
      refine c_refuse (k := 2) (by decide) (by decide) hS hA (fun f1 S1 hS1 hA1 hF1 => ⟨_, rfl, ?_⟩)
      exact x_ireturn rfl rfl rfl (Nat.le_of_ble_eq_true rfl) (Nat.le_of_ble_eq_true rfl) (h _ _ hS1 hA1 hF1)
    by_cases e4 : 4 < b
    · rw [if_pos (Or.inr e4)] at h
      refine x_aload_n (pc' := 1) rfl rfl rfl ?_
      refine x_get (pc' := 4) rfl rfl rfl (hS.1) rfl ?_
      refine x_iload_n (pc' := 5) rfl rfl rfl ?_
      refine x_cV1i (d := 1) (pc' := 8) rfl rfl sX5_90 gX3_has (hT.1) ⟨Nat.le_of_ble_eq_true rfl, Nat.le_of_ble_eq_true rfl⟩ (Nat.le_of_ble_eq_true rfl) ⟨Nat.le_of_ble_eq_true rfl, Nat.le_of_ble_eq_true rfl⟩ ?_
      refine w_has hT (fun _ => ⟨_, rfl, ?_⟩) (fun g => absurd hhas g)
      refine x_if_ne (tgt := 17) (pc' := 11) rfl rfl rfl (fun _ => ?_) (fun c8 => absurd c8 ((by decide)))
      refine x_iload_n (pc' := 18) rfl rfl rfl ?_
      refine x_if_lt (tgt := 26) (pc' := 21) rfl rfl rfl (fun c18 => absurd c18 (e0)) (fun _ => ?_)
      refine x_iload_n (pc' := 22) rfl rfl rfl ?_
      refine x_iconst (pc' := 23) rfl rfl iconst_4 ?_
      refine x_icmp_le (tgt := 33) (pc' := 26) rfl rfl rfl (fun c23 => absurd c23 (Int32.not_le.mpr e4)) (fun _ => ?_)
      refine x_aload_n (pc' := 27) rfl rfl rfl ?_
      refine x_bipush (pc' := 29) rfl rfl bipush_m2 ?_
      refine x_cV1i (d := 1) (pc' := 32) rfl rfl sX5_68 gX5_refuse (hS.1) ⟨Nat.le_of_ble_eq_true rfl, Nat.le_of_ble_eq_true rfl⟩ (Nat.le_of_ble_eq_true rfl) ⟨Nat.le_of_ble_eq_true rfl, Nat.le_of_ble_eq_true rfl⟩ ?_
      refine c_refuse (k := 2) (by decide) (by decide) hS hA (fun f1 S1 hS1 hA1 hF1 => ⟨_, rfl, ?_⟩)
      exact x_ireturn rfl rfl rfl (Nat.le_of_ble_eq_true rfl) (Nat.le_of_ble_eq_true rfl) (h _ _ hS1 hA1 hF1)
    rw [if_neg (fun q => q.elim e0 e4)] at h
    obtain ⟨kb, hkb, rfl⟩ := nI_of2 (n := 4) (M := 4) rfl e0 (Int32.not_lt.mp e4)
    have hkb5 : kb = 0 ∨ kb = 1 ∨ kb = 2 ∨ kb = 3 ∨ kb = 4 := by omega
    refine x_aload_n (pc' := 1) rfl rfl rfl ?_
    refine x_get (pc' := 4) rfl rfl rfl (hS.1) rfl ?_
    refine x_iload_n (pc' := 5) rfl rfl rfl ?_
    refine x_cV1i (d := 1) (pc' := 8) rfl rfl sX5_90 gX3_has (hT.1) ⟨Nat.le_of_ble_eq_true rfl, Nat.le_of_ble_eq_true rfl⟩ (Nat.le_of_ble_eq_true rfl) ⟨Nat.le_of_ble_eq_true rfl, Nat.le_of_ble_eq_true rfl⟩ ?_
    refine w_has hT (fun _ => ⟨_, rfl, ?_⟩) (fun g => absurd hhas g)
    refine x_if_ne (tgt := 17) (pc' := 11) rfl rfl rfl (fun _ => ?_) (fun c8 => absurd c8 ((by decide)))
    refine x_iload_n (pc' := 18) rfl rfl rfl ?_
    refine x_if_lt (tgt := 26) (pc' := 21) rfl rfl rfl (fun c18 => absurd c18 (e0)) (fun _ => ?_)
    refine x_iload_n (pc' := 22) rfl rfl rfl ?_
    refine x_iconst (pc' := 23) rfl rfl iconst_4 ?_
    refine x_icmp_le (tgt := 33) (pc' := 26) rfl rfl rfl (fun _ => ?_) (fun c23 => absurd (Int32.not_lt.mp e4) c23)
    refine x_aload_n (pc' := 34) rfl rfl rfl ?_
    refine x_iload_n (pc' := 35) rfl rfl rfl ?_
    refine x_cV1i (d := 5) (pc' := 38) rfl rfl sX5_131 gX5_tryMove (hS.1) ⟨Nat.le_of_ble_eq_true rfl, Nat.le_of_ble_eq_true rfl⟩ (Nat.le_of_ble_eq_true rfl) ⟨Nat.le_of_ble_eq_true rfl, Nat.le_of_ble_eq_true rfl⟩ ?_
    refine c_tryMove hS hA ho hk2 (fun d2 f1 T1 hS1 g1 g5 g6 g7 g8 hF1 => ⟨_, rfl, ?_⟩) (fun d2 => ⟨_, rfl, ?_⟩)
    · have hT1 : x_t z f1 9 T1 := hS1.2.1 2 (by decide)
      have hA1 := c_tr (T := T1) hA
      rw [if_pos ⟨d2.1, d2.2.2⟩] at h
      rcases hkb5 with rfl | rfl | rfl | rfl | rfl
      · rw [if_pos (by decide)] at h
        refine x_if_ne (tgt := 48) (pc' := 41) rfl rfl rfl (fun _ => ?_) (fun c38 => absurd c38 ((by decide)))
        refine x_iload_n (pc' := 49) rfl rfl rfl ?_
        refine x_tableIn (tgt := 80) rfl (by decide) (by decide) rfl rfl ?_
        refine x_aload_n (pc' := 81) rfl rfl rfl ?_
        refine x_get (pc' := 84) rfl rfl rfl (hS1.1) rfl ?_
        refine x_get (pc' := 87) rfl rfl rfl (hT1.1) rfl ?_
        exact x_ireturn rfl rfl rfl (Nat.le_of_ble_eq_true rfl) (Nat.le_of_ble_eq_true rfl) (by rw [g5]; exact h _ _ hS1 hA1 hF1)
      · rw [if_neg (by decide), if_pos (by decide)] at h
        refine x_if_ne (tgt := 48) (pc' := 41) rfl rfl rfl (fun _ => ?_) (fun c38 => absurd c38 ((by decide)))
        refine x_iload_n (pc' := 49) rfl rfl rfl ?_
        refine x_tableIn (tgt := 88) rfl (by decide) (by decide) rfl rfl ?_
        refine x_aload_n (pc' := 89) rfl rfl rfl ?_
        refine x_get (pc' := 92) rfl rfl rfl (hS1.1) rfl ?_
        refine x_get (pc' := 95) rfl rfl rfl (hT1.1) rfl ?_
        exact x_ireturn rfl rfl rfl (Nat.le_of_ble_eq_true rfl) (Nat.le_of_ble_eq_true rfl) (by rw [g6]; exact h _ _ hS1 hA1 hF1)
      · rw [if_neg (by decide), if_neg (by decide), if_pos (by decide)] at h
        refine x_if_ne (tgt := 48) (pc' := 41) rfl rfl rfl (fun _ => ?_) (fun c38 => absurd c38 ((by decide)))
        refine x_iload_n (pc' := 49) rfl rfl rfl ?_
        refine x_tableIn (tgt := 96) rfl (by decide) (by decide) rfl rfl ?_
        refine x_aload_n (pc' := 97) rfl rfl rfl ?_
        refine x_get (pc' := 100) rfl rfl rfl (hS1.1) rfl ?_
        refine x_get (pc' := 103) rfl rfl rfl (hT1.1) rfl ?_
        exact x_ireturn rfl rfl rfl (Nat.le_of_ble_eq_true rfl) (Nat.le_of_ble_eq_true rfl) (by rw [g7]; exact h _ _ hS1 hA1 hF1)
      · rw [if_neg (by decide), if_neg (by decide), if_neg (by decide), if_pos (by decide)] at h
        refine x_if_ne (tgt := 48) (pc' := 41) rfl rfl rfl (fun _ => ?_) (fun c38 => absurd c38 ((by decide)))
        refine x_iload_n (pc' := 49) rfl rfl rfl ?_
        refine x_tableIn (tgt := 104) rfl (by decide) (by decide) rfl rfl ?_
        refine x_aload_n (pc' := 105) rfl rfl rfl ?_
        refine x_get (pc' := 108) rfl rfl rfl (hS1.1) rfl ?_
        refine x_get (pc' := 111) rfl rfl rfl (hT1.1) rfl ?_
        exact x_ireturn rfl rfl rfl (Nat.le_of_ble_eq_true rfl) (Nat.le_of_ble_eq_true rfl) (by rw [g8]; exact h _ _ hS1 hA1 hF1)
      · rw [if_neg (by decide), if_neg (by decide), if_neg (by decide), if_neg (by decide)] at h
        refine x_if_ne (tgt := 48) (pc' := 41) rfl rfl rfl (fun _ => ?_) (fun c38 => absurd c38 ((by decide)))
        refine x_iload_n (pc' := 49) rfl rfl rfl ?_
        refine x_tableOut (tgt := 112) rfl ((by decide)) rfl ?_
        refine x_aload_n (pc' := 113) rfl rfl rfl ?_
        refine x_get (pc' := 116) rfl rfl rfl (hS1.1) rfl ?_
        refine x_cV0i (d := 3) (pc' := 119) rfl rfl sX5_143 gX3_allBeans (hT1.1) ⟨Nat.le_of_ble_eq_true rfl, Nat.le_of_ble_eq_true rfl⟩ (Nat.le_of_ble_eq_true rfl) ⟨Nat.le_of_ble_eq_true rfl, Nat.le_of_ble_eq_true rfl⟩ ?_
        refine w_allBeans hT1 g1.2.2.2.1 ho.1.1 ⟨_, rfl, ?_⟩
        refine x_eqi (show x_sum T1.2.1 (g_n (g_mv (a_g A) k)) = nI (q_sum (g_β (g_mv (a_g A) k)) (g_n (a_g A))) from by rw [g1.2.1, q_sum_I]; rfl) ?_
        exact x_ireturn rfl rfl rfl (Nat.le_of_ble_eq_true rfl) (Nat.le_of_ble_eq_true rfl) (h _ _ hS1 hA1 hF1)
    · rw [if_neg (fun q => d2 ⟨q.1, hk, q.2⟩)] at h
      refine x_if_ne (tgt := 48) (pc' := 41) rfl rfl rfl (fun c38 => absurd ((by decide)) c38) (fun _ => ?_)
      refine x_aload_n (pc' := 42) rfl rfl rfl ?_
      refine x_bipush (pc' := 44) rfl rfl bipush_m3 ?_
      refine x_cV1i (d := 1) (pc' := 47) rfl rfl sX5_68 gX5_refuse (hS.1) ⟨Nat.le_of_ble_eq_true rfl, Nat.le_of_ble_eq_true rfl⟩ (Nat.le_of_ble_eq_true rfl) ⟨Nat.le_of_ble_eq_true rfl, Nat.le_of_ble_eq_true rfl⟩ ?_
      refine c_refuse (k := 3) (by decide) (by decide) hS hA (fun f1 S1 hS1 hA1 hF1 => ⟨_, rfl, ?_⟩)
      exact x_ireturn rfl rfl rfl (Nat.le_of_ble_eq_true rfl) (Nat.le_of_ble_eq_true rfl) (h _ _ hS1 hA1 hF1)
  · rw [show s_by A a b = _ from if_neg d1] at h
    refine x_aload_n (pc' := 1) rfl rfl rfl ?_
    refine x_get (pc' := 4) rfl rfl rfl (hS.1) rfl ?_
    refine x_iload_n (pc' := 5) rfl rfl rfl ?_
    refine x_cV1i (d := 1) (pc' := 8) rfl rfl sX5_90 gX3_has (hT.1) ⟨Nat.le_of_ble_eq_true rfl, Nat.le_of_ble_eq_true rfl⟩ (Nat.le_of_ble_eq_true rfl) ⟨Nat.le_of_ble_eq_true rfl, Nat.le_of_ble_eq_true rfl⟩ ?_
    refine c_has hS hA ho (fun g => absurd g d1) (fun g => ⟨_, rfl, ?_⟩)
    refine x_if_ne (tgt := 17) (pc' := 11) rfl rfl rfl (fun c8 => absurd ((by decide)) c8) (fun _ => ?_)
    refine x_aload_n (pc' := 12) rfl rfl rfl ?_
    refine x_iconst (pc' := 13) rfl rfl iconst_m1 ?_
    refine x_cV1i (d := 1) (pc' := 16) rfl rfl sX5_68 gX5_refuse (hS.1) ⟨Nat.le_of_ble_eq_true rfl, Nat.le_of_ble_eq_true rfl⟩ (Nat.le_of_ble_eq_true rfl) ⟨Nat.le_of_ble_eq_true rfl, Nat.le_of_ble_eq_true rfl⟩ ?_
    refine c_refuse (k := 1) (by decide) (by decide) hS hA (fun f1 S1 hS1 hA1 hF1 => ⟨_, rfl, ?_⟩)
    exact x_ireturn rfl rfl rfl (Nat.le_of_ble_eq_true rfl) (Nat.le_of_ble_eq_true rfl) (h _ _ hS1 hA1 hF1)
theorem c_behind (hS : x_Sys z f S) (hA : c_is S A) (ho : a_ok A) (h : c_ends z f post (s_behind A a b)) : Y E 9 mX5_behind [.ref 0, .int a, .int b] z f 0 0 post := by
  refine Y.intro gX5_behind (lv := [(0, .ref 0), (1, .int a), (2, .int b)]) rfl (Nat.le_of_ble_eq_true rfl) ?_
  obtain ⟨b1, b2, b3, b4, b5, b6, b7, b8⟩ := id hA
  have hT := hS.2.1 0 (by decide)
  by_cases d1 : q_in (g_n (a_g A)) a
  · obtain ⟨k, hk, hk2, rfl, hcl⟩ := q_in_k d1
    have hhas := t_has_nI (T := S.2.1 0) b1.2.2.2.1 ho.1.1 hk
    by_cases d2 : q_in (g_n (a_g A)) b
    · obtain ⟨k', hk', hk2', rfl, hcl'⟩ := q_in_k d2
      have hhas' := t_has_nI (T := S.2.1 0) b1.2.2.2.1 ho.1.1 hk'
      rw [show s_behind A (nI k) (nI k') = _ from if_pos ⟨d1, d2⟩, hcl, hcl'] at h
      refine x_aload_n (pc' := 1) rfl rfl rfl ?_
      refine x_get (pc' := 4) rfl rfl rfl (hS.1) rfl ?_
      refine x_iload_n (pc' := 5) rfl rfl rfl ?_
      refine x_cV1i (d := 1) (pc' := 8) rfl rfl sX5_90 gX3_has (hT.1) ⟨Nat.le_of_ble_eq_true rfl, Nat.le_of_ble_eq_true rfl⟩ (Nat.le_of_ble_eq_true rfl) ⟨Nat.le_of_ble_eq_true rfl, Nat.le_of_ble_eq_true rfl⟩ ?_
      refine w_has hT (fun _ => ⟨_, rfl, ?_⟩) (fun g => absurd hhas g)
      refine x_if_eq (tgt := 22) (pc' := 11) rfl rfl rfl (fun c8 => absurd c8 ((by decide))) (fun _ => ?_)
      refine x_aload_n (pc' := 12) rfl rfl rfl ?_
      refine x_get (pc' := 15) rfl rfl rfl (hS.1) rfl ?_
      refine x_iload_n (pc' := 16) rfl rfl rfl ?_
      refine x_cV1i (d := 1) (pc' := 19) rfl rfl sX5_90 gX3_has (hT.1) ⟨Nat.le_of_ble_eq_true rfl, Nat.le_of_ble_eq_true rfl⟩ (Nat.le_of_ble_eq_true rfl) ⟨Nat.le_of_ble_eq_true rfl, Nat.le_of_ble_eq_true rfl⟩ ?_
      refine w_has hT (fun _ => ⟨_, rfl, ?_⟩) (fun g => absurd hhas' g)
      refine x_if_ne (tgt := 28) (pc' := 22) rfl rfl rfl (fun _ => ?_) (fun c19 => absurd c19 ((by decide)))
      refine x_aload_n (pc' := 29) rfl rfl rfl ?_
      refine x_iload_n (pc' := 30) rfl rfl rfl ?_
      refine x_cV1i (d := 5) (pc' := 33) rfl rfl sX5_131 gX5_tryMove (hS.1) ⟨Nat.le_of_ble_eq_true rfl, Nat.le_of_ble_eq_true rfl⟩ (Nat.le_of_ble_eq_true rfl) ⟨Nat.le_of_ble_eq_true rfl, Nat.le_of_ble_eq_true rfl⟩ ?_
      refine c_tryMove hS hA ho hk2 (fun d2 f1 T1 hS1 g1 g5 g6 g7 g8 hF1 => ⟨_, rfl, ?_⟩) (fun d2 => ⟨_, rfl, ?_⟩)
      · have hT1 : x_t z f1 9 T1 := hS1.2.1 2 (by decide)
        rw [if_pos ⟨d2.1, d2.2.2⟩] at h
        refine x_if_eq (tgt := 47) (pc' := 36) rfl rfl rfl (fun c33 => absurd c33 ((by decide))) (fun _ => ?_)
        refine x_aload_n (pc' := 37) rfl rfl rfl ?_
        refine x_get (pc' := 40) rfl rfl rfl (hS1.1) rfl ?_
        refine x_iload_n (pc' := 41) rfl rfl rfl ?_
        refine x_cV1i (d := 2) (pc' := 44) rfl rfl sX5_96 gX3_beansOf (hT1.1) ⟨Nat.le_of_ble_eq_true rfl, Nat.le_of_ble_eq_true rfl⟩ (Nat.le_of_ble_eq_true rfl) ⟨Nat.le_of_ble_eq_true rfl, Nat.le_of_ble_eq_true rfl⟩ ?_
        refine w_beansOf hT1 (fun g => ⟨_, rfl, ?_⟩) (fun g => absurd (t_has_nI (T := T1) (n := g_n (a_g A)) g1.2.2.2.1 ho.1.1 hk') g)
        refine x_eqi (show T1.2.1 (nI k').toNatClampNeg = nI (g_β (g_mv (a_g A) k) k') from by rw [hcl', g1.2.1]) ?_
        refine x_goto (tgt := 53) rfl rfl ?_
        exact x_ireturn rfl rfl rfl (Nat.le_of_ble_eq_true rfl) (Nat.le_of_ble_eq_true rfl) (h _ _ hS1 (c_tr hA) hF1)
      · rw [if_neg (fun q => d2 ⟨q.1, hk, q.2⟩)] at h
        refine x_if_eq (tgt := 47) (pc' := 36) rfl rfl rfl (fun _ => ?_) (fun c33 => absurd ((by decide)) c33)
        refine x_aload_n (pc' := 48) rfl rfl rfl ?_
        refine x_bipush (pc' := 50) rfl rfl bipush_m3 ?_
        refine x_cV1i (d := 1) (pc' := 53) rfl rfl sX5_68 gX5_refuse (hS.1) ⟨Nat.le_of_ble_eq_true rfl, Nat.le_of_ble_eq_true rfl⟩ (Nat.le_of_ble_eq_true rfl) ⟨Nat.le_of_ble_eq_true rfl, Nat.le_of_ble_eq_true rfl⟩ ?_
        refine c_refuse (k := 3) (by decide) (by decide) hS hA (fun f1 S1 hS1 hA1 hF1 => ⟨_, rfl, ?_⟩)
        exact x_ireturn rfl rfl rfl (Nat.le_of_ble_eq_true rfl) (Nat.le_of_ble_eq_true rfl) (h _ _ hS1 hA1 hF1)
    · rw [show s_behind A (nI k) b = _ from if_neg (fun q => d2 q.2)] at h
      refine x_aload_n (pc' := 1) rfl rfl rfl ?_
      refine x_get (pc' := 4) rfl rfl rfl (hS.1) rfl ?_
      refine x_iload_n (pc' := 5) rfl rfl rfl ?_
      refine x_cV1i (d := 1) (pc' := 8) rfl rfl sX5_90 gX3_has (hT.1) ⟨Nat.le_of_ble_eq_true rfl, Nat.le_of_ble_eq_true rfl⟩ (Nat.le_of_ble_eq_true rfl) ⟨Nat.le_of_ble_eq_true rfl, Nat.le_of_ble_eq_true rfl⟩ ?_
      refine w_has hT (fun _ => ⟨_, rfl, ?_⟩) (fun g => absurd hhas g)
      refine x_if_eq (tgt := 22) (pc' := 11) rfl rfl rfl (fun c8 => absurd c8 ((by decide))) (fun _ => ?_)
      refine x_aload_n (pc' := 12) rfl rfl rfl ?_
      refine x_get (pc' := 15) rfl rfl rfl (hS.1) rfl ?_
      refine x_iload_n (pc' := 16) rfl rfl rfl ?_
      refine x_cV1i (d := 1) (pc' := 19) rfl rfl sX5_90 gX3_has (hT.1) ⟨Nat.le_of_ble_eq_true rfl, Nat.le_of_ble_eq_true rfl⟩ (Nat.le_of_ble_eq_true rfl) ⟨Nat.le_of_ble_eq_true rfl, Nat.le_of_ble_eq_true rfl⟩ ?_
      refine c_has hS hA ho (fun g => absurd g d2) (fun g => ⟨_, rfl, ?_⟩)
      refine x_if_ne (tgt := 28) (pc' := 22) rfl rfl rfl (fun c19 => absurd ((by decide)) c19) (fun _ => ?_)
      refine x_aload_n (pc' := 23) rfl rfl rfl ?_
      refine x_iconst (pc' := 24) rfl rfl iconst_m1 ?_
      refine x_cV1i (d := 1) (pc' := 27) rfl rfl sX5_68 gX5_refuse (hS.1) ⟨Nat.le_of_ble_eq_true rfl, Nat.le_of_ble_eq_true rfl⟩ (Nat.le_of_ble_eq_true rfl) ⟨Nat.le_of_ble_eq_true rfl, Nat.le_of_ble_eq_true rfl⟩ ?_
      refine c_refuse (k := 1) (by decide) (by decide) hS hA (fun f1 S1 hS1 hA1 hF1 => ⟨_, rfl, ?_⟩)
      exact x_ireturn rfl rfl rfl (Nat.le_of_ble_eq_true rfl) (Nat.le_of_ble_eq_true rfl) (h _ _ hS1 hA1 hF1)
  · rw [show s_behind A a b = _ from if_neg (fun q => d1 q.1)] at h
    refine x_aload_n (pc' := 1) rfl rfl rfl ?_
    refine x_get (pc' := 4) rfl rfl rfl (hS.1) rfl ?_
    refine x_iload_n (pc' := 5) rfl rfl rfl ?_
    refine x_cV1i (d := 1) (pc' := 8) rfl rfl sX5_90 gX3_has (hT.1) ⟨Nat.le_of_ble_eq_true rfl, Nat.le_of_ble_eq_true rfl⟩ (Nat.le_of_ble_eq_true rfl) ⟨Nat.le_of_ble_eq_true rfl, Nat.le_of_ble_eq_true rfl⟩ ?_
    refine c_has hS hA ho (fun g => absurd g d1) (fun g => ⟨_, rfl, ?_⟩)
    refine x_if_eq (tgt := 22) (pc' := 11) rfl rfl rfl (fun _ => ?_) (fun c8 => absurd ((by decide)) c8)
    refine x_aload_n (pc' := 23) rfl rfl rfl ?_
    refine x_iconst (pc' := 24) rfl rfl iconst_m1 ?_
    refine x_cV1i (d := 1) (pc' := 27) rfl rfl sX5_68 gX5_refuse (hS.1) ⟨Nat.le_of_ble_eq_true rfl, Nat.le_of_ble_eq_true rfl⟩ (Nat.le_of_ble_eq_true rfl) ⟨Nat.le_of_ble_eq_true rfl, Nat.le_of_ble_eq_true rfl⟩ ?_
    refine c_refuse (k := 1) (by decide) (by decide) hS hA (fun f1 S1 hS1 hA1 hF1 => ⟨_, rfl, ?_⟩)
    exact x_ireturn rfl rfl rfl (Nat.le_of_ble_eq_true rfl) (Nat.le_of_ble_eq_true rfl) (h _ _ hS1 hA1 hF1)
/-- which bowls are empty -/
def q_bits (β : Nat → Nat) : Nat → Int32
  | 0 => 0
  | i + 1 => if β i = 0 then q_bits β i ||| ((1 : Int32) <<< (nI i &&& 31)) else q_bits β i
def s_empties (A : q_A) (a : Int32) : q_A × Int32 := if q_in (g_n (a_g A)) a then (if 2 ≤ g_n (a_g A) ∧ 0 < g_β (a_g A) a.toNatClampNeg then (A, q_bits (g_β (g_mv (a_g A) a.toNatClampNeg)) (g_n (a_g A))) else (s_no A 3, -3)) else (s_no A 1, -1)
theorem c_emptiesL {T : x_T} {n : Nat} {β : Nat → Nat} (hS : x_Sys z f S) (hT : x_t z f 9 T) (hn : T.2.2.2 0 = nI n) (hn9 : n ≤ 9) (hβ : T.2.1 = fun i => nI (β i)) (hβ5 : ∀ i, β i ≤ 100) (h : post (some (.int (q_bits β n))) f) : ∀ (k i : Nat), i + k = n → X E (x_rm 9 0 0) mX5_empties (x_QM E z 0 0 post) 36 [(3, .int (nI i)), (2, .int (q_bits β i)), (0, .ref 0), (1, .int a)] [] z f 0 0 := by
  intro k
  induction k with
  | zero =>
    intro i hi
    have hi2 : i = n := by omega
    subst hi2
    refine x_iload_n (pc' := 37) rfl rfl rfl ?_
    refine x_aload_n (pc' := 38) rfl rfl rfl ?_
    refine x_get (pc' := 41) rfl rfl rfl (hS.1) rfl ?_
    refine x_get (pc' := 44) rfl rfl rfl (hT.1) rfl ?_
    refine x_icmp_ge (tgt := 70) (pc' := 47) rfl rfl rfl (fun _ => ?_) (fun c44 => absurd ((by rw [hn]; exact Int32.le_refl _)) c44)
    refine x_iload_n (pc' := 71) rfl rfl rfl ?_
    exact x_ireturn rfl rfl rfl (Nat.le_of_ble_eq_true rfl) (Nat.le_of_ble_eq_true rfl) (h)
  | succ k ih =>
    intro i hi
    have hb := hβ5 i
    have e1 : q_bits β (i + 1) = if β i = 0 then q_bits β i ||| ((1 : Int32) <<< (nI i &&& 31)) else q_bits β i := rfl
    refine x_iload_n (pc' := 37) rfl rfl rfl ?_
    refine x_aload_n (pc' := 38) rfl rfl rfl ?_
    refine x_get (pc' := 41) rfl rfl rfl (hS.1) rfl ?_
    refine x_get (pc' := 44) rfl rfl rfl (hT.1) rfl ?_
    refine x_icmp_ge (tgt := 70) (pc' := 47) rfl rfl rfl (fun c44 => absurd c44 ((by rw [hn]; exact Int32.not_le.mpr (nI_lt (by omega) (by omega))))) (fun _ => ?_)
    refine x_aload_n (pc' := 48) rfl rfl rfl ?_
    refine x_get (pc' := 51) rfl rfl rfl (hS.1) rfl ?_
    refine x_iload_n (pc' := 52) rfl rfl rfl ?_
    refine x_cV1i (d := 2) (pc' := 55) rfl rfl sX5_96 gX3_beansOf (hT.1) ⟨Nat.le_of_ble_eq_true rfl, Nat.le_of_ble_eq_true rfl⟩ (Nat.le_of_ble_eq_true rfl) ⟨Nat.le_of_ble_eq_true rfl, Nat.le_of_ble_eq_true rfl⟩ ?_
    refine w_beansOf hT (fun g => ⟨_, rfl, ?_⟩) (fun g => absurd (t_has_nI hn hn9 (by omega)) g)
    refine x_eqi (show T.2.1 (nI i).toNatClampNeg = nI (β i) from by rw [nI_clamp (by omega), hβ]) ?_
    by_cases d : β i = 0
    · rw [if_pos d] at e1
      refine x_if_ne (tgt := 64) (pc' := 58) rfl rfl rfl (fun q => absurd (show nI (β i) = 0 by rw [d]; rfl) q) (fun _ => ?_)
      refine x_iload_n (pc' := 59) rfl rfl rfl ?_
      refine x_iconst (pc' := 60) rfl rfl iconst_1 ?_
      refine x_iload_n (pc' := 61) rfl rfl rfl ?_
      refine x_ishl (pc' := 62) rfl rfl ?_
      refine x_ior (pc' := 63) rfl rfl ?_
      refine x_istore_n (pc' := 64) (lv' := [(2, _), (3, _), (0, _), (1, _)]) rfl rfl (Nat.le_of_ble_eq_true rfl) rfl ?_
      refine x_iinc (pc' := 67) (lv' := [(3, _), (2, _), (0, _), (1, _)]) rfl rfl (Nat.le_of_ble_eq_true rfl) rfl (nI_1 i) rfl ?_
      refine x_goto (tgt := 36) rfl rfl ?_
      have h9 := ih (i + 1) (by omega)
      rw [e1] at h9
      exact h9
    · rw [if_neg d] at e1
      refine x_if_ne (tgt := 64) (pc' := 58) rfl rfl rfl (fun _ => ?_) (fun q => absurd q (nI_ne0 (by omega) (by omega)))
      refine x_iinc (pc' := 67) (lv' := [(3, _), (2, _), (0, _), (1, _)]) rfl rfl (Nat.le_of_ble_eq_true rfl) rfl (nI_1 i) rfl ?_
      refine x_goto (tgt := 36) rfl rfl ?_
      have h9 := ih (i + 1) (by omega)
      rw [e1] at h9
      exact h9
theorem c_empties (hS : x_Sys z f S) (hA : c_is S A) (ho : a_ok A) (h : c_ends z f post (s_empties A a)) : Y E 9 mX5_empties [.ref 0, .int a] z f 0 0 post := by
  refine Y.intro gX5_empties (lv := [(0, .ref 0), (1, .int a)]) rfl (Nat.le_of_ble_eq_true rfl) ?_
  obtain ⟨b1, b2, b3, b4, b5, b6, b7, b8⟩ := id hA
  have hT := hS.2.1 0 (by decide)
  by_cases d1 : q_in (g_n (a_g A)) a
  · obtain ⟨k, hk, hk2, rfl, hcl⟩ := q_in_k d1
    have hhas := t_has_nI (T := S.2.1 0) b1.2.2.2.1 ho.1.1 hk
    rw [show s_empties A (nI k) = _ from if_pos d1, hcl] at h
    refine x_aload_n (pc' := 1) rfl rfl rfl ?_
    refine x_get (pc' := 4) rfl rfl rfl (hS.1) rfl ?_
    refine x_iload_n (pc' := 5) rfl rfl rfl ?_
    refine x_cV1i (d := 1) (pc' := 8) rfl rfl sX5_90 gX3_has (hT.1) ⟨Nat.le_of_ble_eq_true rfl, Nat.le_of_ble_eq_true rfl⟩ (Nat.le_of_ble_eq_true rfl) ⟨Nat.le_of_ble_eq_true rfl, Nat.le_of_ble_eq_true rfl⟩ ?_
    refine w_has hT (fun _ => ⟨_, rfl, ?_⟩) (fun g => absurd hhas g)
    refine x_if_ne (tgt := 17) (pc' := 11) rfl rfl rfl (fun _ => ?_) (fun c8 => absurd c8 ((by decide)))
    refine x_aload_n (pc' := 18) rfl rfl rfl ?_
    refine x_iload_n (pc' := 19) rfl rfl rfl ?_
    refine x_cV1i (d := 5) (pc' := 22) rfl rfl sX5_131 gX5_tryMove (hS.1) ⟨Nat.le_of_ble_eq_true rfl, Nat.le_of_ble_eq_true rfl⟩ (Nat.le_of_ble_eq_true rfl) ⟨Nat.le_of_ble_eq_true rfl, Nat.le_of_ble_eq_true rfl⟩ ?_
    refine c_tryMove hS hA ho hk2 (fun d2 f1 T1 hS1 g1 g5 g6 g7 g8 hF1 => ⟨_, rfl, ?_⟩) (fun d2 => ⟨_, rfl, ?_⟩)
    · have hT1 : x_t z f1 9 T1 := hS1.2.1 2 (by decide)
      rw [if_pos ⟨d2.1, d2.2.2⟩] at h
      refine x_if_ne (tgt := 32) (pc' := 25) rfl rfl rfl (fun _ => ?_) (fun c22 => absurd c22 ((by decide)))
      refine x_iconst (pc' := 33) rfl rfl iconst_0 ?_
      refine x_istore_n (pc' := 34) (lv' := [(2, _), (0, _), (1, _)]) rfl rfl (Nat.le_of_ble_eq_true rfl) rfl ?_
      refine x_iconst (pc' := 35) rfl rfl iconst_0 ?_
      refine x_istore_n (pc' := 36) (lv' := [(3, _), (2, _), (0, _), (1, _)]) rfl rfl (Nat.le_of_ble_eq_true rfl) rfl ?_
      refine x_lvp [0, 1, 2, 3] rfl ?_
      exact c_emptiesL (n := g_n (a_g A)) (β := g_β (g_mv (a_g A) k)) hS1 hT1 g1.2.2.2.1 ho.1.1 g1.2.1 (fun i => (g_mv_ok (ho.1.mono (by decide : 99 ≤ 100)) (by decide) (by decide) d2.2.1).2.2.2.2.2.1 i) (h _ _ hS1 (c_tr hA) hF1) (g_n (a_g A)) 0 (by omega)
    · rw [if_neg (fun q => d2 ⟨q.1, hk, q.2⟩)] at h
      refine x_if_ne (tgt := 32) (pc' := 25) rfl rfl rfl (fun c22 => absurd ((by decide)) c22) (fun _ => ?_)
      refine x_aload_n (pc' := 26) rfl rfl rfl ?_
      refine x_bipush (pc' := 28) rfl rfl bipush_m3 ?_
      refine x_cV1i (d := 1) (pc' := 31) rfl rfl sX5_68 gX5_refuse (hS.1) ⟨Nat.le_of_ble_eq_true rfl, Nat.le_of_ble_eq_true rfl⟩ (Nat.le_of_ble_eq_true rfl) ⟨Nat.le_of_ble_eq_true rfl, Nat.le_of_ble_eq_true rfl⟩ ?_
      refine c_refuse (k := 3) (by decide) (by decide) hS hA (fun f1 S1 hS1 hA1 hF1 => ⟨_, rfl, ?_⟩)
      exact x_ireturn rfl rfl rfl (Nat.le_of_ble_eq_true rfl) (Nat.le_of_ble_eq_true rfl) (h _ _ hS1 hA1 hF1)
  · rw [show s_empties A a = _ from if_neg d1] at h
    refine x_aload_n (pc' := 1) rfl rfl rfl ?_
    refine x_get (pc' := 4) rfl rfl rfl (hS.1) rfl ?_
    refine x_iload_n (pc' := 5) rfl rfl rfl ?_
    refine x_cV1i (d := 1) (pc' := 8) rfl rfl sX5_90 gX3_has (hT.1) ⟨Nat.le_of_ble_eq_true rfl, Nat.le_of_ble_eq_true rfl⟩ (Nat.le_of_ble_eq_true rfl) ⟨Nat.le_of_ble_eq_true rfl, Nat.le_of_ble_eq_true rfl⟩ ?_
    refine c_has hS hA ho (fun g => absurd g d1) (fun g => ⟨_, rfl, ?_⟩)
    refine x_if_ne (tgt := 17) (pc' := 11) rfl rfl rfl (fun c8 => absurd ((by decide)) c8) (fun _ => ?_)
    refine x_aload_n (pc' := 12) rfl rfl rfl ?_
    refine x_iconst (pc' := 13) rfl rfl iconst_m1 ?_
    refine x_cV1i (d := 1) (pc' := 16) rfl rfl sX5_68 gX5_refuse (hS.1) ⟨Nat.le_of_ble_eq_true rfl, Nat.le_of_ble_eq_true rfl⟩ (Nat.le_of_ble_eq_true rfl) ⟨Nat.le_of_ble_eq_true rfl, Nat.le_of_ble_eq_true rfl⟩ ?_
    refine c_refuse (k := 1) (by decide) (by decide) hS hA (fun f1 S1 hS1 hA1 hF1 => ⟨_, rfl, ?_⟩)
    exact x_ireturn rfl rfl rfl (Nat.le_of_ble_eq_true rfl) (Nat.le_of_ble_eq_true rfl) (h _ _ hS1 hA1 hF1)
/-- the bowl that sows the most, how many -/
def q_lng (g : q_G) : Nat → Int32 × Nat
  | 0 => (-9, 0)
  | i + 1 => if g_can g i ∧ (q_lng g i).2 < (g_v g i).2.2.1 then (nI i, (g_v g i).2.2.1) else q_lng g i
theorem q_hands_s {κ : Nat → Nat} {n fu ln : Nat} : ∀ (k : Nat) (β : Nat → Nat) (b hs s : Nat) (l : Option Nat), b < n → (∀ i, β i ≤ 100) → (∀ p, l = some p → p < n) → (q_hands κ n fu ln k β b hs s l).2.2.1 ≤ s + 100 * k
  | 0, β, b, hs, s, l, hb, hβ, hl => Nat.le_refl _
  | k + 1, β, b, hs, s, l, hb, hβ, hl => by
    have h1 := q_hand_le (κ := κ) (n := n) (fu := fu) (ln := ln) (b := b) (l := l) (C := 100) (by decide) hβ
    have h2 := q_hand_l (κ := κ) (fu := fu) (ln := ln) hb hβ hl
    have h4 := h1.2
    rw [q_hands]
    split
    · rename_i hg
      obtain ⟨p, hp, hpn⟩ := h2.2 hg.1
      have h3 := q_hands_s (κ := κ) (fu := fu) (ln := ln) k (q_hand κ n fu ln β b l).1 ((q_hand κ n fu ln β b l).2.2.getD 0) (hs + 1) (s + (q_hand κ n fu ln β b l).2.1) (q_hand κ n fu ln β b l).2.2 (by rw [hp]; exact hpn) h1.1 h2.1
      omega
    · show s + (q_hand κ n fu ln β b l).2.1 ≤ _
      omega
theorem g_v_s {C : Nat} {g : q_G} {b : Nat} (h : g_ok C g) (hC2 : C ≤ 100) (hb : b < g_n g) : (g_v g b).2.2.1 ≤ 6000 := by
  unfold g_v q_mv
  split
  · have := q_hands_s (κ := g_κ g) (n := g_n g) (fu := g_f g) (ln := g_l g) 60 (g_β g) b 0 0 none hb (fun i => Nat.le_trans (h.2.2.2.2.2.1 i) hC2) (fun p hp => by cases hp)
    omega
  · exact Nat.zero_le _
theorem q_lng_le {C : Nat} {g : q_G} (h : g_ok C g) (hC2 : C ≤ 100) : ∀ i, (q_lng g i).2 ≤ 6000
  | 0 => Nat.zero_le _
  | i + 1 => by
    unfold q_lng
    split
    · rename_i hc
      exact g_v_s h hC2 hc.1.2.1
    · exact q_lng_le h hC2 i
theorem c_longestL (ho : a_ok A) (f0 : x_H) (h : c_ends z f0 post (A, (q_lng (a_g A) (g_n (a_g A))).1)) : ∀ (k i : Nat) (f : x_H) (S : x_S), i + k = g_n (a_g A) → x_Sys z f S → c_is S A → x_fr (fun q => 59 ≤ q) f0 f → X E (x_rm 9 0 0) mX5_longest (x_QM E z 0 0 post) 7 [(3, .int (nI i)), (2, .int (nI (q_lng (a_g A) i).2)), (1, .int (q_lng (a_g A) i).1), (0, .ref 0)] [] z f 0 0 := by
  intro k
  induction k with
  | zero =>
    intro i f S hi hS hA hF
    have hi2 : i = g_n (a_g A) := by omega
    subst hi2
    refine x_iload_n (pc' := 8) rfl rfl rfl ?_
    refine x_aload_n (pc' := 9) rfl rfl rfl ?_
    refine x_get (pc' := 12) rfl rfl rfl (hS.1) rfl ?_
    refine x_get (pc' := 15) rfl rfl rfl ((hS.2.1 0 (by decide)).1) rfl ?_
    refine x_icmp_ge (tgt := 53) (pc' := 18) rfl rfl rfl (fun _ => ?_) (fun c15 => absurd ((by rw [hA.1.2.2.2.1]; exact Int32.le_refl _)) c15)
    refine x_iload_n (pc' := 54) rfl rfl rfl ?_
    exact x_ireturn rfl rfl rfl (Nat.le_of_ble_eq_true rfl) (Nat.le_of_ble_eq_true rfl) (h _ _ hS hA hF)
  | succ k ih =>
    intro i f S hi hS hA hF
    have hn9 := ho.1.1
    have hq := q_lng_le ho.1 (by decide) i
    have e1 : q_lng (a_g A) (i + 1) = if g_can (a_g A) i ∧ (q_lng (a_g A) i).2 < (g_v (a_g A) i).2.2.1 then (nI i, (g_v (a_g A) i).2.2.1) else q_lng (a_g A) i := rfl
    refine x_iload_n (pc' := 8) rfl rfl rfl ?_
    refine x_aload_n (pc' := 9) rfl rfl rfl ?_
    refine x_get (pc' := 12) rfl rfl rfl (hS.1) rfl ?_
    refine x_get (pc' := 15) rfl rfl rfl ((hS.2.1 0 (by decide)).1) rfl ?_
    refine x_icmp_ge (tgt := 53) (pc' := 18) rfl rfl rfl (fun c15 => absurd c15 ((by rw [hA.1.2.2.2.1]; exact Int32.not_le.mpr (nI_lt (by omega) (by omega))))) (fun _ => ?_)
    refine x_aload_n (pc' := 19) rfl rfl rfl ?_
    refine x_iload_n (pc' := 20) rfl rfl rfl ?_
    refine x_cV1i (d := 5) (pc' := 23) rfl rfl sX5_131 gX5_tryMove (hS.1) ⟨Nat.le_of_ble_eq_true rfl, Nat.le_of_ble_eq_true rfl⟩ (Nat.le_of_ble_eq_true rfl) ⟨Nat.le_of_ble_eq_true rfl, Nat.le_of_ble_eq_true rfl⟩ ?_
    refine c_tryMove hS hA ho (by omega) (fun d2 f1 T1 hS1 g1 g5 g6 g7 g8 hF1 => ⟨_, rfl, ?_⟩) (fun d2 => ⟨_, rfl, ?_⟩)
    · have hT1 : x_t z f1 9 T1 := hS1.2.1 2 (by decide)
      have hs := g_v_s ho.1 (by decide) d2.2.1
      refine x_if_eq (tgt := 47) (pc' := 26) rfl rfl rfl (fun c23 => absurd c23 ((by decide))) (fun _ => ?_)
      refine x_aload_n (pc' := 27) rfl rfl rfl ?_
      refine x_get (pc' := 30) rfl rfl rfl (hS1.1) rfl ?_
      refine x_get (pc' := 33) rfl rfl rfl (hT1.1) rfl ?_
      refine x_eqi g7 ?_
      refine x_iload_n (pc' := 34) rfl rfl rfl ?_
      refine x_icmp_le (tgt := 47) (pc' := 37) rfl rfl rfl (fun c34 => ?_) (fun c34 => ?_)
      · rw [if_neg (fun q => Int32.not_lt.mpr c34 (nI_lt q.2 (by omega)))] at e1
        refine x_iinc (pc' := 50) (lv' := [(3, _), (2, _), (1, _), (0, _)]) rfl rfl (Nat.le_of_ble_eq_true rfl) rfl (nI_1 i) rfl ?_
        refine x_goto (tgt := 7) rfl rfl ?_
        have h9 := ih (i + 1) _ _ (by omega) hS1 (c_tr hA) (hF.trans hF1)
        rw [e1] at h9
        exact h9
      · rw [if_pos ⟨d2, (nI_ltI (by omega) (by omega)).mp (Int32.not_le.mp c34)⟩] at e1
        refine x_aload_n (pc' := 38) rfl rfl rfl ?_
        refine x_get (pc' := 41) rfl rfl rfl (hS1.1) rfl ?_
        refine x_get (pc' := 44) rfl rfl rfl (hT1.1) rfl ?_
        refine x_eqi g7 ?_
        refine x_istore_n (pc' := 45) (lv' := [(2, _), (3, _), (1, _), (0, _)]) rfl rfl (Nat.le_of_ble_eq_true rfl) rfl ?_
        refine x_iload_n (pc' := 46) rfl rfl rfl ?_
        refine x_istore_n (pc' := 47) (lv' := [(1, _), (2, _), (3, _), (0, _)]) rfl rfl (Nat.le_of_ble_eq_true rfl) rfl ?_
        refine x_iinc (pc' := 50) (lv' := [(3, _), (1, _), (2, _), (0, _)]) rfl rfl (Nat.le_of_ble_eq_true rfl) rfl (nI_1 i) rfl ?_
        refine x_goto (tgt := 7) rfl rfl ?_
        refine x_lvp [0, 2, 1, 3] rfl ?_
        have h9 := ih (i + 1) _ _ (by omega) hS1 (c_tr hA) (hF.trans hF1)
        rw [e1] at h9
        exact h9
    · rw [if_neg (fun q => d2 q.1)] at e1
      refine x_if_eq (tgt := 47) (pc' := 26) rfl rfl rfl (fun _ => ?_) (fun c23 => absurd ((by decide)) c23)
      refine x_iinc (pc' := 50) (lv' := [(3, _), (2, _), (1, _), (0, _)]) rfl rfl (Nat.le_of_ble_eq_true rfl) rfl (nI_1 i) rfl ?_
      refine x_goto (tgt := 7) rfl rfl ?_
      have h9 := ih (i + 1) _ _ (by omega) hS hA hF
      rw [e1] at h9
      exact h9
theorem c_longest (hS : x_Sys z f S) (hA : c_is S A) (ho : a_ok A) (h : c_ends z f post (A, (q_lng (a_g A) (g_n (a_g A))).1)) : Y E 9 mX5_longest [.ref 0] z f 0 0 post := by
  refine Y.intro gX5_longest (lv := [(0, .ref 0)]) rfl (Nat.le_of_ble_eq_true rfl) ?_
  refine x_bipush (pc' := 2) rfl rfl bipush_m9 ?_
  refine x_istore_n (pc' := 3) (lv' := [(1, _), (0, _)]) rfl rfl (Nat.le_of_ble_eq_true rfl) rfl ?_
  refine x_iconst (pc' := 4) rfl rfl iconst_0 ?_
  refine x_istore_n (pc' := 5) (lv' := [(2, _), (1, _), (0, _)]) rfl rfl (Nat.le_of_ble_eq_true rfl) rfl ?_
  refine x_iconst (pc' := 6) rfl rfl iconst_0 ?_
  refine x_istore_n (pc' := 7) (lv' := [(3, _), (2, _), (1, _), (0, _)]) rfl rfl (Nat.le_of_ble_eq_true rfl) rfl ?_
  exact c_longestL ho f h (g_n (a_g A)) 0 f S (by omega) hS hA x_fr.rf
/-- whether some bowl of the first i can be sown -/
def q_any (g : q_G) : Nat → Bool
  | 0 => false
  | i + 1 => q_any g i || decide (g_can g i)
theorem c_lostL (hS : x_Sys z f S) (hA : c_is S A) (ho : a_ok A) (h1 : post (some (.int 1)) f) (h0 : ∀ i, i < g_n (a_g A) → g_can (a_g A) i → post (some (.int 0)) f) : ∀ (k i : Nat), i + k = g_n (a_g A) → X E (x_rm 9 0 0) mX5_lost (x_QM E z 0 0 post) 2 [(1, .int (nI i)), (0, .ref 0)] [] z f 0 0 := by
  have hn9 := ho.1.1
  have hT := hS.2.1 0 (by decide)
  intro k
  induction k with
  | zero =>
    intro i hi
    refine x_iload_n (pc' := 3) rfl rfl rfl ?_
    refine x_aload_n (pc' := 4) rfl rfl rfl ?_
    refine x_get (pc' := 7) rfl rfl rfl (hS.1) rfl ?_
    refine x_get (pc' := 10) rfl rfl rfl (hT.1) rfl ?_
    refine x_icmp_ge (tgt := 32) (pc' := 13) rfl rfl rfl (fun _ => ?_) (fun c10 => absurd ((by rw [hA.1.2.2.2.1]; exact nI_le (by omega) (by omega))) c10)
    refine x_iconst (pc' := 33) rfl rfl iconst_1 ?_
    exact x_ireturn rfl rfl rfl (Nat.le_of_ble_eq_true rfl) (Nat.le_of_ble_eq_true rfl) (h1)
  | succ k ih =>
    intro i hi
    refine x_iload_n (pc' := 3) rfl rfl rfl ?_
    refine x_aload_n (pc' := 4) rfl rfl rfl ?_
    refine x_get (pc' := 7) rfl rfl rfl (hS.1) rfl ?_
    refine x_get (pc' := 10) rfl rfl rfl (hT.1) rfl ?_
    refine x_icmp_ge (tgt := 32) (pc' := 13) rfl rfl rfl (fun c10 => absurd c10 ((by rw [hA.1.2.2.2.1]; exact Int32.not_le.mpr (nI_lt (by omega) (by omega))))) (fun _ => ?_)
    refine x_aload_n (pc' := 14) rfl rfl rfl ?_
    refine x_get (pc' := 17) rfl rfl rfl (hS.1) rfl ?_
    refine x_iload_n (pc' := 18) rfl rfl rfl ?_
    refine x_cV1i (d := 2) (pc' := 21) rfl rfl sX5_118 gX3_canMove (hT.1) ⟨Nat.le_of_ble_eq_true rfl, Nat.le_of_ble_eq_true rfl⟩ (Nat.le_of_ble_eq_true rfl) ⟨Nat.le_of_ble_eq_true rfl, Nat.le_of_ble_eq_true rfl⟩ ?_
    refine w_can hT hA.1 ho.1 (by decide) (by omega) (fun d2 => ⟨_, rfl, ?_⟩) (fun d2 => ⟨_, rfl, ?_⟩)
    · refine x_if_eq (tgt := 26) (pc' := 24) rfl rfl rfl (fun c21 => absurd c21 (by decide)) (fun _ => ?_)
      refine x_iconst (pc' := 25) rfl rfl iconst_0 ?_
      exact x_ireturn rfl rfl rfl (Nat.le_of_ble_eq_true rfl) (Nat.le_of_ble_eq_true rfl) (h0 i (by omega) d2)
    · refine x_if_eq (tgt := 26) (pc' := 24) rfl rfl rfl (fun _ => ?_) (fun c21 => absurd (by decide) c21)
      refine x_iinc (pc' := 29) (lv' := [(1, _), (0, _)]) rfl rfl (Nat.le_of_ble_eq_true rfl) rfl (nI_1 i) rfl ?_
      refine x_goto (tgt := 2) rfl rfl ?_
      exact ih (i + 1) (by omega)
end CB
