/-! The class: best, worth, price, sold, change, fair. -/
abbrev q_gI (n : Nat) (g : q_G) : Int32 := (q_ab n g (-nI n) (nI n)).1
def c_gf (S S' : x_S) : Prop := S'.1 = S.1 ∧ (∀ j, j ≤ 5 → S'.2.1 j = S.2.1 j) ∧ (∀ j, j ≠ 1 → S'.2.2.1 j = S.2.2.1 j) ∧ S'.2.2.2 = S.2.2.2
theorem c_gf.rf {S : x_S} : c_gf S S := ⟨rfl, fun _ _ => rfl, fun _ _ => rfl, rfl⟩
theorem c_gf.trans {S S1 S2 : x_S} (h : c_gf S S1) (h2 : c_gf S1 S2) : c_gf S S2 := ⟨h2.1.trans h.1, fun j hj => (h2.2.1 j hj).trans (h.2.1 j hj), fun j hj => (h2.2.2.1 j hj).trans (h.2.2.1 j hj), h2.2.2.2.trans h.2.2.2⟩
theorem c_gf.sc {S S' : x_S} (h : c_gf S S') : c_sc S S' := ⟨h.2.1 0 (by decide), h.2.1 1 (by decide), by rw [h.1], by rw [h.1], by rw [h.1], h.2.2.1 0 (by decide), h.2.2.1 5 (by decide), h.2.2.1 6 (by decide)⟩
def s_bestC (A : q_A) (a : Int32) : q_A × Int32 := if a < 1 then (s_no A 4, -4) else if 4 < a then (s_no A 6, -6) else (A, (q_ab a.toNatClampNeg (a_g A) (-nI a.toNatClampNeg) (nI a.toNatClampNeg)).2)
def s_worthC (A : q_A) (a : Int32) : q_A × Int32 := if a < 1 then (s_no A 4, 1000000000 - (-4)) else if 4 < a then (s_no A 6, 1000000000 - (-6)) else (A, q_gI a.toNatClampNeg (a_g A))
def s_priceC (A : q_A) (a : Int32) : q_A × Int32 := if q_in (g_n (a_g A)) a then (A, q_gI 2 (g_bm (a_g A) a.toNatClampNeg (g_β (a_g A) a.toNatClampNeg + 1)) - q_gI 2 (a_g A)) else (s_no A 1, 1000000000 - (-1))
def s_soldC (A : q_A) (a : Int32) : q_A × Int32 := if q_in (g_n (a_g A)) a then (if g_β (a_g A) a.toNatClampNeg = 0 then (s_no A 3, 1000000000 - (-3)) else (A, q_gI 2 (g_bm (a_g A) a.toNatClampNeg (g_β (a_g A) a.toNatClampNeg - 1)) - q_gI 2 (a_g A))) else (s_no A 1, 1000000000 - (-1))
section CE
variable {E : x_E} {z : Nat} {f : x_H} {S S0 : x_S} {A : q_A} {post : Option Value → x_H → Prop} {g : q_G} {C : Nat} {a b : Int32}
theorem c_gainFor {n j : Nat} (hn : n ≤ 4) (hC : 99 ≤ C) (hC2 : C ≤ 100) (hj : j ≤ 5) (hS : x_Sys z f S) (ht : t_is (S.2.1 j) g) (hg : g_ok C g) (h : ∀ (f' : x_H) (S' : x_S), x_Sys z f' S' → c_gf S S' → (n ≠ 0 → S'.2.2.1 1 0 = (q_ab n g (-nI n) (nI n)).2) → x_fr (fun q => 59 ≤ q) f f' → post (some (.int (q_gI n g))) f') : Y E 10 mX0_gainFor [.ref 19, .ref (x_tp j), .int (nI n)] z f 0 0 post := by
  refine Y.intro gX0_gainFor (lv := [(0, .ref 19), (1, .ref (x_tp j)), (2, .int (nI n))]) rfl (Nat.le_of_ble_eq_true rfl) ?_
  have hT6 : x_t z f 22 (S.2.1 6) := hS.2.1 6 (by decide)
  refine x_aload_n (pc' := 1) rfl rfl rfl ?_
  refine x_get (pc' := 4) rfl rfl rfl (hS.ah) rfl ?_
  refine x_iconst (pc' := 5) rfl rfl iconst_0 ?_
  refine x_aaload (pc' := 6) rfl rfl (hS.li) (vp_in_nI (n := 0) (N := 5) (by decide) (by decide)) ((rfl : x_line (Int32.toNatClampNeg 0) = some 22)) ?_
  refine x_aload_n (pc' := 7) rfl rfl rfl ?_
  refine x_cV1v (d := 1) (pc' := 10) rfl rfl sX0_22 gX3_copyFrom (hT6.1) (x_room (by omega) (Nat.le_of_ble_eq_true rfl)) (Nat.le_of_ble_eq_true rfl) ⟨Nat.le_of_ble_eq_true rfl, Nat.le_of_ble_eq_true rfl⟩ ?_
  refine w_copyFrom hT6 (hS.2.1 j (by omega)) (((x_pos3 6 (by decide)).1 j (by omega) (by omega)).symm) (fun f1 hT1 hF1 => ⟨rfl, ?_⟩)
  have hS1 := hS.tab 6 (by decide) hT1 hF1
  refine x_aload_n (pc' := 11) rfl rfl rfl ?_
  refine x_get (pc' := 14) rfl rfl rfl (hS1.ah) rfl ?_
  refine x_aload_n (pc' := 15) rfl rfl rfl ?_
  refine x_get (pc' := 18) rfl rfl rfl (hS1.ah) rfl ?_
  refine x_iconst (pc' := 19) rfl rfl iconst_0 ?_
  refine x_iload_n (pc' := 20) rfl rfl rfl ?_
  refine x_iload_n (pc' := 21) rfl rfl rfl ?_
  refine x_ineg (pc' := 22) rfl rfl ?_
  refine x_iload_n (pc' := 23) rfl rfl rfl ?_
  refine x_cS6i (d := (n + 5)) (pc' := 26) rfl rfl sX0_26 gX0_gainOf (x_room (by omega) (Nat.le_of_ble_eq_true rfl)) (Nat.le_of_ble_eq_true rfl) ⟨Nat.le_of_ble_eq_true rfl, Nat.le_of_ble_eq_true rfl⟩ ?_
  refine c_gainOf hC hC2 n 0 g (-nI n) (nI n) f1 _ _ (by omega) hS1 (x_cp_is ht) hg (fun f2 S2 hS2 l2 ch2 hF2 => ⟨_, rfl, ?_⟩)
  exact x_ireturn rfl rfl rfl (Nat.le_of_ble_eq_true rfl) (Nat.le_of_ble_eq_true rfl) ((h _ _ hS2 ⟨l2.1, fun i hi => (l2.2.1 i (by omega)).trans (if_neg (by omega)), l2.2.2.1, l2.2.2.2.2⟩ ch2 ((c_fr0 (j := 6) (by decide) hF1).trans hF2)))
theorem c_bowlFor {n : Nat} (hn : n ≤ 4) (h1 : 1 ≤ n) (hS : x_Sys z f S) (ht : t_is (S.2.1 0) g) (hg : g_ok 99 g) (h : ∀ (f' : x_H) (S' : x_S), x_Sys z f' S' → c_gf S S' → x_fr (fun q => 59 ≤ q) f f' → post (some (.int (q_ab n g (-nI n) (nI n)).2)) f') : Y E 11 mX0_bowlFor [.ref 19, .ref 1, .int (nI n)] z f 0 0 post := by
  refine Y.intro gX0_bowlFor (lv := [(0, .ref 19), (1, .ref 1), (2, .int (nI n))]) rfl (Nat.le_of_ble_eq_true rfl) ?_
  refine x_aload_n (pc' := 1) rfl rfl rfl ?_
  refine x_aload_n (pc' := 2) rfl rfl rfl ?_
  refine x_iload_n (pc' := 3) rfl rfl rfl ?_
  refine x_cV2i (d := 10) (pc' := 6) rfl rfl sX0_30 gX0_gainFor (hS.ah) ⟨Nat.le_of_ble_eq_true rfl, Nat.le_of_ble_eq_true rfl⟩ (Nat.le_of_ble_eq_true rfl) ⟨Nat.le_of_ble_eq_true rfl, Nat.le_of_ble_eq_true rfl⟩ ?_
  refine c_gainFor (j := 0) (C := 99) hn (by decide) (by decide) (by decide) hS ht hg (fun f1 S1 hS1 l1 ch1 hF1 => ⟨_, rfl, ?_⟩)
  refine x_pop (pc' := 7) rfl rfl rfl ?_
  refine x_aload_n (pc' := 8) rfl rfl rfl ?_
  refine x_get (pc' := 11) rfl rfl rfl (hS1.ah) rfl ?_
  refine x_iconst (pc' := 12) rfl rfl iconst_0 ?_
  refine x_iaload (pc' := 13) rfl rfl (hS1.2.2.1 1 (by decide)) (vp_in_nI (n := 0) (N := 5) (by decide) (by decide)) ?_
  refine x_eqi (show S1.2.2.1 1 (Int32.toNatClampNeg 0) = (q_ab n g (-nI n) (nI n)).2 from ch1 (by omega)) ?_
  exact x_ireturn rfl rfl rfl (Nat.le_of_ble_eq_true rfl) (Nat.le_of_ble_eq_true rfl) (h _ _ hS1 l1 hF1)
theorem c_best (hS : x_Sys z f S) (hA : c_is S A) (ho : a_ok A) (h : c_ends z f post (s_bestC A a)) : Y E 13 mX5_best [.ref 0, .int a] z f 0 0 post := by
  refine Y.intro gX5_best (lv := [(0, .ref 0), (1, .int a)]) rfl (Nat.le_of_ble_eq_true rfl) ?_
  refine x_iload_n (pc' := 1) rfl rfl rfl ?_
  refine x_iconst (pc' := 2) rfl rfl iconst_1 ?_
  refine x_icmp_ge (tgt := 12) (pc' := 5) rfl rfl rfl (fun c2 => ?_) (fun c2 => ?_)
  · have d1 : ¬ a < 1 := Int32.not_lt.mpr c2
    refine x_iload_n (pc' := 13) rfl rfl rfl ?_
    refine x_iconst (pc' := 14) rfl rfl iconst_4 ?_
    by_cases d2 : 4 < a
    · rw [show s_bestC A a = _ from (if_neg d1).trans (if_pos d2)] at h
      refine x_icmp_le (tgt := 24) (pc' := 17) rfl rfl rfl (fun q => absurd d2 (Int32.not_lt.mpr q)) (fun _ => ?_)
      refine x_aload_n (pc' := 18) rfl rfl rfl ?_
      refine x_bipush (pc' := 20) rfl rfl bipush_m6 ?_
      refine x_cV1i (d := 1) (pc' := 23) rfl rfl sX5_68 gX5_refuse (hS.1) ⟨Nat.le_of_ble_eq_true rfl, Nat.le_of_ble_eq_true rfl⟩ (Nat.le_of_ble_eq_true rfl) ⟨Nat.le_of_ble_eq_true rfl, Nat.le_of_ble_eq_true rfl⟩ ?_
      refine c_refuse (k := 6) (by decide) (by decide) hS hA (fun f1 S1 hS1 hA1 hF1 => ⟨_, rfl, ?_⟩)
      exact x_ireturn rfl rfl rfl (Nat.le_of_ble_eq_true rfl) (Nat.le_of_ble_eq_true rfl) (h _ _ hS1 hA1 hF1)
    · rw [show s_bestC A a = _ from (if_neg d1).trans (if_neg d2)] at h
      refine x_icmp_le (tgt := 24) (pc' := 17) rfl rfl rfl (fun _ => ?_) (fun q => absurd (Int32.not_lt.mp d2) q)
      obtain ⟨n, hn, rfl⟩ := nI_of2 (n := 4) (M := 4) rfl (fun q => d1 (Int32.lt_trans q (by decide))) (Int32.not_lt.mp d2)
      have hn1 : 1 ≤ n := Nat.pos_of_ne_zero (fun q => d1 (by rw [q]; decide))
      rw [nI_clamp (by omega)] at h
      refine x_aload_n (pc' := 25) rfl rfl rfl ?_
      refine x_get (pc' := 28) rfl rfl rfl (hS.1) rfl ?_
      refine x_aload_n (pc' := 29) rfl rfl rfl ?_
      refine x_get (pc' := 32) rfl rfl rfl (hS.1) rfl ?_
      refine x_iload_n (pc' := 33) rfl rfl rfl ?_
      refine x_cV2i (d := 11) (pc' := 36) rfl rfl sX5_148 gX0_bowlFor (hS.ah) ⟨Nat.le_of_ble_eq_true rfl, Nat.le_of_ble_eq_true rfl⟩ (Nat.le_of_ble_eq_true rfl) ⟨Nat.le_of_ble_eq_true rfl, Nat.le_of_ble_eq_true rfl⟩ ?_
      refine c_bowlFor hn hn1 hS hA.1 ho.1 (fun f1 S1 hS1 l1 hF1 => ⟨_, rfl, ?_⟩)
      exact x_ireturn rfl rfl rfl (Nat.le_of_ble_eq_true rfl) (Nat.le_of_ble_eq_true rfl) (h _ _ hS1 (hA.sc l1.sc) hF1)
  · rw [show s_bestC A a = _ from if_pos (Int32.not_le.mp c2)] at h
    refine x_aload_n (pc' := 6) rfl rfl rfl ?_
    refine x_bipush (pc' := 8) rfl rfl bipush_m4 ?_
    refine x_cV1i (d := 1) (pc' := 11) rfl rfl sX5_68 gX5_refuse (hS.1) ⟨Nat.le_of_ble_eq_true rfl, Nat.le_of_ble_eq_true rfl⟩ (Nat.le_of_ble_eq_true rfl) ⟨Nat.le_of_ble_eq_true rfl, Nat.le_of_ble_eq_true rfl⟩ ?_
    refine c_refuse (k := 4) (by decide) (by decide) hS hA (fun f1 S1 hS1 hA1 hF1 => ⟨_, rfl, ?_⟩)
    exact x_ireturn rfl rfl rfl (Nat.le_of_ble_eq_true rfl) (Nat.le_of_ble_eq_true rfl) (h _ _ hS1 hA1 hF1)
theorem c_worth (hS : x_Sys z f S) (hA : c_is S A) (ho : a_ok A) (h : c_ends z f post (s_worthC A a)) : Y E 13 mX5_worth [.ref 0, .int a] z f 0 0 post := by
  refine Y.intro gX5_worth (lv := [(0, .ref 0), (1, .int a)]) rfl (Nat.le_of_ble_eq_true rfl) ?_
  refine x_iload_n (pc' := 1) rfl rfl rfl ?_
  refine x_iconst (pc' := 2) rfl rfl iconst_1 ?_
  refine x_icmp_ge (tgt := 12) (pc' := 5) rfl rfl rfl (fun c2 => ?_) (fun c2 => ?_)
  · have d1 : ¬ a < 1 := Int32.not_lt.mpr c2
    refine x_iload_n (pc' := 13) rfl rfl rfl ?_
    refine x_iconst (pc' := 14) rfl rfl iconst_4 ?_
    by_cases d2 : 4 < a
    · rw [show s_worthC A a = _ from (if_neg d1).trans (if_pos d2)] at h
      refine x_icmp_le (tgt := 24) (pc' := 17) rfl rfl rfl (fun q => absurd d2 (Int32.not_lt.mpr q)) (fun _ => ?_)
      refine x_aload_n (pc' := 18) rfl rfl rfl ?_
      refine x_bipush (pc' := 20) rfl rfl bipush_m6 ?_
      refine x_cV1i (d := 2) (pc' := 23) rfl rfl sX5_152 gX5_refuseFar (hS.1) ⟨Nat.le_of_ble_eq_true rfl, Nat.le_of_ble_eq_true rfl⟩ (Nat.le_of_ble_eq_true rfl) ⟨Nat.le_of_ble_eq_true rfl, Nat.le_of_ble_eq_true rfl⟩ ?_
      refine c_refuseFar (k := 6) (by decide) (by decide) hS hA (fun f1 S1 hS1 hA1 hF1 => ⟨_, rfl, ?_⟩)
      exact x_ireturn rfl rfl rfl (Nat.le_of_ble_eq_true rfl) (Nat.le_of_ble_eq_true rfl) (h _ _ hS1 hA1 hF1)
    · rw [show s_worthC A a = _ from (if_neg d1).trans (if_neg d2)] at h
      refine x_icmp_le (tgt := 24) (pc' := 17) rfl rfl rfl (fun _ => ?_) (fun q => absurd (Int32.not_lt.mp d2) q)
      obtain ⟨n, hn, rfl⟩ := nI_of2 (n := 4) (M := 4) rfl (fun q => d1 (Int32.lt_trans q (by decide))) (Int32.not_lt.mp d2)
      rw [nI_clamp (by omega)] at h
      refine x_aload_n (pc' := 25) rfl rfl rfl ?_
      refine x_get (pc' := 28) rfl rfl rfl (hS.1) rfl ?_
      refine x_aload_n (pc' := 29) rfl rfl rfl ?_
      refine x_get (pc' := 32) rfl rfl rfl (hS.1) rfl ?_
      refine x_iload_n (pc' := 33) rfl rfl rfl ?_
      refine x_cV2i (d := 10) (pc' := 36) rfl rfl sX5_155 gX0_gainFor (hS.ah) ⟨Nat.le_of_ble_eq_true rfl, Nat.le_of_ble_eq_true rfl⟩ (Nat.le_of_ble_eq_true rfl) ⟨Nat.le_of_ble_eq_true rfl, Nat.le_of_ble_eq_true rfl⟩ ?_
      refine c_gainFor (j := 0) (C := 99) hn (by decide) (by decide) (by decide) hS hA.1 ho.1 (fun f1 S1 hS1 l1 ch1 hF1 => ⟨_, rfl, ?_⟩)
      exact x_ireturn rfl rfl rfl (Nat.le_of_ble_eq_true rfl) (Nat.le_of_ble_eq_true rfl) (h _ _ hS1 (hA.sc l1.sc) hF1)
  · rw [show s_worthC A a = _ from if_pos (Int32.not_le.mp c2)] at h
    refine x_aload_n (pc' := 6) rfl rfl rfl ?_
    refine x_bipush (pc' := 8) rfl rfl bipush_m4 ?_
    refine x_cV1i (d := 2) (pc' := 11) rfl rfl sX5_152 gX5_refuseFar (hS.1) ⟨Nat.le_of_ble_eq_true rfl, Nat.le_of_ble_eq_true rfl⟩ (Nat.le_of_ble_eq_true rfl) ⟨Nat.le_of_ble_eq_true rfl, Nat.le_of_ble_eq_true rfl⟩ ?_
    refine c_refuseFar (k := 4) (by decide) (by decide) hS hA (fun f1 S1 hS1 hA1 hF1 => ⟨_, rfl, ?_⟩)
    exact x_ireturn rfl rfl rfl (Nat.le_of_ble_eq_true rfl) (Nat.le_of_ble_eq_true rfl) (h _ _ hS1 hA1 hF1)
theorem t_is_bm {T : x_T} {b v : Nat} (h : t_is T g) (hb : b < 2 ^ 31) : t_is (T.1, upd T.2.1 (nI b).toNatClampNeg (nI v), T.2.2.1, T.2.2.2) (g_bm g b v) := by
  refine ⟨h.1, ?_, h.2.2⟩
  show upd T.2.1 (nI b).toNatClampNeg (nI v) = _
  rw [nI_clamp hb, h.2.1, q_up_I]
  rfl
theorem c_wc {b v : Nat} {w : Int32} (hb : b < g_n (a_g A)) (hw : nI (g_β (a_g A) b) + w = nI v) (hv : v ≤ 100) (hS : x_Sys z f S) (hA : c_is S A) (ho : a_ok A) (h : ∀ (f' : x_H) (S' : x_S), x_Sys z f' S' → c_is S' A → x_fr (fun q => 59 ≤ q) f f' → post (some (.int (q_gI 2 (g_bm (a_g A) b v) - q_gI 2 (a_g A)))) f') : Y E 12 mX5_worthChange [.ref 0, .int (nI b), .int w] z f 0 0 post := by
  refine Y.intro gX5_worthChange (lv := [(0, .ref 0), (1, .int (nI b)), (2, .int w)]) rfl (Nat.le_of_ble_eq_true rfl) ?_
  have hn9 := ho.1.1
  have ht := hA.1
  have hT0 : x_t z f 1 (S.2.1 0) := hS.2.1 0 (by decide)
  have hT2 : x_t z f 9 (S.2.1 2) := hS.2.1 2 (by decide)
  have hcl : (nI b).toNatClampNeg = b := nI_clamp (by omega)
  refine x_aload_n (pc' := 1) rfl rfl rfl ?_
  refine x_get (pc' := 4) rfl rfl rfl (hS.1) rfl ?_
  refine x_aload_n (pc' := 5) rfl rfl rfl ?_
  refine x_get (pc' := 8) rfl rfl rfl (hS.1) rfl ?_
  refine x_cV1v (d := 1) (pc' := 11) rfl rfl sX5_79 gX3_copyFrom (hT2.1) ⟨Nat.le_of_ble_eq_true rfl, Nat.le_of_ble_eq_true rfl⟩ (Nat.le_of_ble_eq_true rfl) ⟨Nat.le_of_ble_eq_true rfl, Nat.le_of_ble_eq_true rfl⟩ ?_
  refine w_copyFrom hT2 hT0 (by decide) (fun f1 hT1 hF1 => ⟨rfl, ?_⟩)
  have hS1 := hS.tab 2 (by decide) hT1 hF1
  have hA1 := c_tr (T := x_cp (S.2.1 2) (S.2.1 0)) hA
  have hF1' : x_fr (fun q => 59 ≤ q) f f1 := c_fr0 (j := 2) (by decide) hF1
  have hT01 : x_t z f1 1 (S.2.1 0) := hS1.2.1 0 (by decide)
  refine x_aload_n (pc' := 12) rfl rfl rfl ?_
  refine x_get (pc' := 15) rfl rfl rfl (hS1.1) rfl ?_
  refine x_iload_n (pc' := 16) rfl rfl rfl ?_
  refine x_aload_n (pc' := 17) rfl rfl rfl ?_
  refine x_get (pc' := 20) rfl rfl rfl (hS1.1) rfl ?_
  refine x_iload_n (pc' := 21) rfl rfl rfl ?_
  refine x_cV1i (d := 2) (pc' := 24) rfl rfl sX5_96 gX3_beansOf (hT01.1) ⟨Nat.le_of_ble_eq_true rfl, Nat.le_of_ble_eq_true rfl⟩ (Nat.le_of_ble_eq_true rfl) ⟨Nat.le_of_ble_eq_true rfl, Nat.le_of_ble_eq_true rfl⟩ ?_
  refine w_beansOf hT01 (fun q => ⟨_, rfl, ?_⟩) (fun q => absurd (t_has_nI ht.2.2.2.1 hn9 hb) q)
  refine x_eqi (show (S.2.1 0).2.1 (nI b).toNatClampNeg = nI (g_β (a_g A) b) from by rw [hcl, ht.2.1]) ?_
  refine x_iload_n (pc' := 25) rfl rfl rfl ?_
  refine x_iadd (pc' := 26) rfl rfl ?_
  refine x_eqi hw ?_
  refine x_cV2v (d := 2) (pc' := 29) rfl rfl sX5_105 gX3_lay (hT1.1) ⟨Nat.le_of_ble_eq_true rfl, Nat.le_of_ble_eq_true rfl⟩ (Nat.le_of_ble_eq_true rfl) ⟨Nat.le_of_ble_eq_true rfl, Nat.le_of_ble_eq_true rfl⟩ ?_
  refine w_lay hT1 (fun q f2 hT2' hF2 => ⟨rfl, ?_⟩) (fun q => absurd (t_has_nI ht.2.2.2.1 hn9 hb) q)
  have hS2 := hS1.tt (j := 2) (by decide) hT2' hF2
  have g2 := t_is_bm (T := x_cp (S.2.1 2) (S.2.1 0)) (b := b) (v := v) (x_cp_is ht) (by omega)
  have hF2' : x_fr (fun q => 59 ≤ q) f f2 := hF1'.trans (c_fr0 (j := 2) (by decide) hF2)
  refine x_aload_n (pc' := 30) rfl rfl rfl ?_
  refine x_get (pc' := 33) rfl rfl rfl (hS2.1) rfl ?_
  refine x_aload_n (pc' := 34) rfl rfl rfl ?_
  refine x_get (pc' := 37) rfl rfl rfl (hS2.1) rfl ?_
  refine x_iconst (pc' := 38) rfl rfl iconst_2 ?_
  refine x_cV2i (d := 10) (pc' := 41) rfl rfl sX5_155 gX0_gainFor (hS2.ah) ⟨Nat.le_of_ble_eq_true rfl, Nat.le_of_ble_eq_true rfl⟩ (Nat.le_of_ble_eq_true rfl) ⟨Nat.le_of_ble_eq_true rfl, Nat.le_of_ble_eq_true rfl⟩ ?_
  refine c_gainFor (n := 2) (j := 2) (C := 100) (by decide) (by decide) (by decide) (by decide) hS2 g2 (g_bm_ok ho.1 hb (by decide) hv) (fun f3 S3 hS3 l3 ch3 hF3 => ⟨_, rfl, ?_⟩)
  have hA3 : c_is S3 A := (c_tr hA).sc l3.sc
  refine x_aload_n (pc' := 42) rfl rfl rfl ?_
  refine x_get (pc' := 45) rfl rfl rfl (hS3.1) rfl ?_
  refine x_aload_n (pc' := 46) rfl rfl rfl ?_
  refine x_get (pc' := 49) rfl rfl rfl (hS3.1) rfl ?_
  refine x_iconst (pc' := 50) rfl rfl iconst_2 ?_
  refine x_cV2i (d := 10) (pc' := 53) rfl rfl sX5_155 gX0_gainFor (hS3.ah) ⟨Nat.le_of_ble_eq_true rfl, Nat.le_of_ble_eq_true rfl⟩ (Nat.le_of_ble_eq_true rfl) ⟨Nat.le_of_ble_eq_true rfl, Nat.le_of_ble_eq_true rfl⟩ ?_
  refine c_gainFor (n := 2) (j := 0) (C := 99) (by decide) (by decide) (by decide) (by decide) hS3 hA3.1 ho.1 (fun f4 S4 hS4 l4 ch4 hF4 => ⟨_, rfl, ?_⟩)
  refine x_isub (pc' := 54) rfl rfl ?_
  exact x_ireturn rfl rfl rfl (Nat.le_of_ble_eq_true rfl) (Nat.le_of_ble_eq_true rfl) (h _ _ hS4 (hA3.sc l4.sc) ((hF2'.trans hF3).trans hF4))
theorem c_price (hS : x_Sys z f S) (hA : c_is S A) (ho : a_ok A) (h : c_ends z f post (s_priceC A a)) : Y E 14 mX5_price [.ref 0, .int a] z f 0 0 post := by
  refine Y.intro gX5_price (lv := [(0, .ref 0), (1, .int a)]) rfl (Nat.le_of_ble_eq_true rfl) ?_
  have hn9 := ho.1.1
  refine x_aload_n (pc' := 1) rfl rfl rfl ?_
  refine x_get (pc' := 4) rfl rfl rfl (hS.1) rfl ?_
  refine x_iload_n (pc' := 5) rfl rfl rfl ?_
  refine x_cV1i (d := 1) (pc' := 8) rfl rfl sX5_90 gX3_has ((hS.2.1 0 (by decide)).1) ⟨Nat.le_of_ble_eq_true rfl, Nat.le_of_ble_eq_true rfl⟩ (Nat.le_of_ble_eq_true rfl) ⟨Nat.le_of_ble_eq_true rfl, Nat.le_of_ble_eq_true rfl⟩ ?_
  refine c_has hS hA ho (fun d1 => ⟨_, rfl, ?_⟩) (fun d1 => ⟨_, rfl, ?_⟩)
  · rw [show s_priceC A a = _ from if_pos d1] at h
    obtain ⟨k, hk, hk2, rfl, hcl⟩ := q_in_k d1
    rw [hcl] at h
    have hβ := ho.1.2.2.2.2.2.1 k
    refine x_if_ne (tgt := 17) (pc' := 11) rfl rfl rfl (fun _ => ?_) (fun c8 => absurd c8 ((by decide)))
    refine x_aload_n (pc' := 18) rfl rfl rfl ?_
    refine x_iload_n (pc' := 19) rfl rfl rfl ?_
    refine x_iconst (pc' := 20) rfl rfl iconst_1 ?_
    refine x_cV2i (d := 12) (pc' := 23) rfl rfl sX5_177 gX5_worthChange (hS.1) ⟨Nat.le_of_ble_eq_true rfl, Nat.le_of_ble_eq_true rfl⟩ (Nat.le_of_ble_eq_true rfl) ⟨Nat.le_of_ble_eq_true rfl, Nat.le_of_ble_eq_true rfl⟩ ?_
    refine c_wc (v := g_β (a_g A) k + 1) hk (nI_1 _) (by omega) hS hA ho (fun f1 S1 hS1 hA1 hF1 => ⟨_, rfl, ?_⟩)
    exact x_ireturn rfl rfl rfl (Nat.le_of_ble_eq_true rfl) (Nat.le_of_ble_eq_true rfl) (h _ _ hS1 hA1 hF1)
  · rw [show s_priceC A a = _ from if_neg d1] at h
    refine x_if_ne (tgt := 17) (pc' := 11) rfl rfl rfl (fun c8 => absurd (rfl) c8) (fun _ => ?_)
    refine x_aload_n (pc' := 12) rfl rfl rfl ?_
    refine x_iconst (pc' := 13) rfl rfl iconst_m1 ?_
    refine x_cV1i (d := 2) (pc' := 16) rfl rfl sX5_152 gX5_refuseFar (hS.1) ⟨Nat.le_of_ble_eq_true rfl, Nat.le_of_ble_eq_true rfl⟩ (Nat.le_of_ble_eq_true rfl) ⟨Nat.le_of_ble_eq_true rfl, Nat.le_of_ble_eq_true rfl⟩ ?_
    refine c_refuseFar (k := 1) (by decide) (by decide) hS hA (fun f1 S1 hS1 hA1 hF1 => ⟨_, rfl, ?_⟩)
    exact x_ireturn rfl rfl rfl (Nat.le_of_ble_eq_true rfl) (Nat.le_of_ble_eq_true rfl) (h _ _ hS1 hA1 hF1)
theorem c_sold (hS : x_Sys z f S) (hA : c_is S A) (ho : a_ok A) (h : c_ends z f post (s_soldC A a)) : Y E 14 mX5_sold [.ref 0, .int a] z f 0 0 post := by
  refine Y.intro gX5_sold (lv := [(0, .ref 0), (1, .int a)]) rfl (Nat.le_of_ble_eq_true rfl) ?_
  have hn9 := ho.1.1
  have ht := hA.1
  refine x_aload_n (pc' := 1) rfl rfl rfl ?_
  refine x_get (pc' := 4) rfl rfl rfl (hS.1) rfl ?_
  refine x_iload_n (pc' := 5) rfl rfl rfl ?_
  refine x_cV1i (d := 1) (pc' := 8) rfl rfl sX5_90 gX3_has ((hS.2.1 0 (by decide)).1) ⟨Nat.le_of_ble_eq_true rfl, Nat.le_of_ble_eq_true rfl⟩ (Nat.le_of_ble_eq_true rfl) ⟨Nat.le_of_ble_eq_true rfl, Nat.le_of_ble_eq_true rfl⟩ ?_
  refine c_has hS hA ho (fun d1 => ⟨_, rfl, ?_⟩) (fun d1 => ⟨_, rfl, ?_⟩)
  · rw [show s_soldC A a = _ from if_pos d1] at h
    obtain ⟨k, hk, hk2, rfl, hcl⟩ := q_in_k d1
    rw [hcl] at h
    have hβ := ho.1.2.2.2.2.2.1 k
    refine x_if_ne (tgt := 17) (pc' := 11) rfl rfl rfl (fun _ => ?_) (fun c8 => absurd c8 ((by decide)))
    refine x_aload_n (pc' := 18) rfl rfl rfl ?_
    refine x_get (pc' := 21) rfl rfl rfl (hS.1) rfl ?_
    refine x_iload_n (pc' := 22) rfl rfl rfl ?_
    refine x_cV1i (d := 2) (pc' := 25) rfl rfl sX5_96 gX3_beansOf ((hS.2.1 0 (by decide)).1) ⟨Nat.le_of_ble_eq_true rfl, Nat.le_of_ble_eq_true rfl⟩ (Nat.le_of_ble_eq_true rfl) ⟨Nat.le_of_ble_eq_true rfl, Nat.le_of_ble_eq_true rfl⟩ ?_
    refine w_beansOf (hS.2.1 0 (by decide)) (fun q => ⟨_, rfl, ?_⟩) (fun q => absurd (t_has_nI ht.2.2.2.1 hn9 hk) q)
    refine x_eqi (show (S.2.1 0).2.1 (nI k).toNatClampNeg = nI (g_β (a_g A) k) from by rw [hcl, ht.2.1]) ?_
    by_cases d2 : g_β (a_g A) k = 0
    · rw [if_pos d2] at h
      refine x_if_ne (tgt := 35) (pc' := 28) rfl rfl rfl (fun q => absurd (by rw [d2]; rfl) q) (fun _ => ?_)
      refine x_aload_n (pc' := 29) rfl rfl rfl ?_
      refine x_bipush (pc' := 31) rfl rfl bipush_m3 ?_
      refine x_cV1i (d := 2) (pc' := 34) rfl rfl sX5_152 gX5_refuseFar (hS.1) ⟨Nat.le_of_ble_eq_true rfl, Nat.le_of_ble_eq_true rfl⟩ (Nat.le_of_ble_eq_true rfl) ⟨Nat.le_of_ble_eq_true rfl, Nat.le_of_ble_eq_true rfl⟩ ?_
      refine c_refuseFar (k := 3) (by decide) (by decide) hS hA (fun f1 S1 hS1 hA1 hF1 => ⟨_, rfl, ?_⟩)
      exact x_ireturn rfl rfl rfl (Nat.le_of_ble_eq_true rfl) (Nat.le_of_ble_eq_true rfl) (h _ _ hS1 hA1 hF1)
    · rw [if_neg d2] at h
      refine x_if_ne (tgt := 35) (pc' := 28) rfl rfl rfl (fun _ => ?_) (fun q => absurd q (nI_ne0 (by omega) (by omega)))
      refine x_aload_n (pc' := 36) rfl rfl rfl ?_
      refine x_iload_n (pc' := 37) rfl rfl rfl ?_
      refine x_iconst (pc' := 38) rfl rfl iconst_m1 ?_
      refine x_cV2i (d := 12) (pc' := 41) rfl rfl sX5_177 gX5_worthChange (hS.1) ⟨Nat.le_of_ble_eq_true rfl, Nat.le_of_ble_eq_true rfl⟩ (Nat.le_of_ble_eq_true rfl) ⟨Nat.le_of_ble_eq_true rfl, Nat.le_of_ble_eq_true rfl⟩ ?_
      refine c_wc (v := g_β (a_g A) k - 1) hk (by obtain ⟨v, hv⟩ : ∃ v, g_β (a_g A) k = v + 1 := ⟨g_β (a_g A) k - 1, by omega⟩; rw [hv]; exact pk_m1 v) (by omega) hS hA ho (fun f1 S1 hS1 hA1 hF1 => ⟨_, rfl, ?_⟩)
      exact x_ireturn rfl rfl rfl (Nat.le_of_ble_eq_true rfl) (Nat.le_of_ble_eq_true rfl) (h _ _ hS1 hA1 hF1)
  · rw [show s_soldC A a = _ from if_neg d1] at h
    refine x_if_ne (tgt := 17) (pc' := 11) rfl rfl rfl (fun c8 => absurd (rfl) c8) (fun _ => ?_)
    refine x_aload_n (pc' := 12) rfl rfl rfl ?_
    refine x_iconst (pc' := 13) rfl rfl iconst_m1 ?_
    refine x_cV1i (d := 2) (pc' := 16) rfl rfl sX5_152 gX5_refuseFar (hS.1) ⟨Nat.le_of_ble_eq_true rfl, Nat.le_of_ble_eq_true rfl⟩ (Nat.le_of_ble_eq_true rfl) ⟨Nat.le_of_ble_eq_true rfl, Nat.le_of_ble_eq_true rfl⟩ ?_
    refine c_refuseFar (k := 1) (by decide) (by decide) hS hA (fun f1 S1 hS1 hA1 hF1 => ⟨_, rfl, ?_⟩)
    exact x_ireturn rfl rfl rfl (Nat.le_of_ble_eq_true rfl) (Nat.le_of_ble_eq_true rfl) (h _ _ hS1 hA1 hF1)
theorem c_chI {v : Nat} (ho : a_ok A) (hv : v < g_n (a_g A)) (f0 : x_H) (S0 : x_S) (hA : c_is S0 A) (r0 : Int32 × Int32) (K : ∀ (f' : x_H) (S' : x_S), x_Sys z f' S' → c_is S' A → x_fr (fun q => 59 ≤ q) f0 f' → X E (x_rm 14 0 0) mX5_change (x_QM E z 0 0 post) 104 [(4, .int (nI (g_n (a_g A)))), (3, .int (nI v)), (2, .int (q_c2 (fun b => q_gI 2 (g_sw (a_g A) v b)) v (g_n (a_g A) - (v + 1)) r0).1), (1, .int (q_c2 (fun b => q_gI 2 (g_sw (a_g A) v b)) v (g_n (a_g A) - (v + 1)) r0).2), (0, .ref 0)] [] z f' 0 0) :
    ∀ (m i : Nat) (f : x_H) (S : x_S), v + 1 + i + m = g_n (a_g A) → x_Sys z f S → c_is S A → x_fr (fun q => 59 ≤ q) f0 f → X E (x_rm 14 0 0) mX5_change (x_QM E z 0 0 post) 34 [(4, .int (nI (v + 1 + i))), (3, .int (nI v)), (2, .int (q_c2 (fun b => q_gI 2 (g_sw (a_g A) v b)) v i r0).1), (1, .int (q_c2 (fun b => q_gI 2 (g_sw (a_g A) v b)) v i r0).2), (0, .ref 0)] [] z f 0 0 := by
  have hn9 := ho.1.1
  intro m
  induction m with
  | zero =>
    intro i f S hi hS hA hF
    have hi2 : i = g_n (a_g A) - (v + 1) := by omega
    subst hi2
    have hi3 : v + 1 + (g_n (a_g A) - (v + 1)) = g_n (a_g A) := by omega
    rw [hi3]
    refine x_iload (pc' := 36) rfl rfl rfl ?_
    refine x_aload_n (pc' := 37) rfl rfl rfl ?_
    refine x_get (pc' := 40) rfl rfl rfl (hS.1) rfl ?_
    refine x_get (pc' := 43) rfl rfl rfl ((hS.2.1 0 (by decide)).1) rfl ?_
    refine x_eqi hA.1.2.2.2.1 ?_
    refine x_icmp_ge (tgt := 104) (pc' := 46) rfl rfl rfl (fun _ => ?_) (fun c43 => absurd ((Int32.le_refl _)) c43)
    exact K _ _ hS hA hF
  | succ m ih =>
    intro i f S hi hS hA hF
    have eq1 : q_c2 (fun b => q_gI 2 (g_sw (a_g A) v b)) v (i + 1) r0 = if (q_c2 (fun b => q_gI 2 (g_sw (a_g A) v b)) v i r0).1 < q_gI 2 (g_sw (a_g A) v (v + 1 + i)) then (q_gI 2 (g_sw (a_g A) v (v + 1 + i)), nI (10 * v + (v + 1 + i))) else q_c2 (fun b => q_gI 2 (g_sw (a_g A) v b)) v i r0 := rfl
    have h9 := fun f S => ih (i + 1) f S (by omega)
    generalize q_c2 (fun b => q_gI 2 (g_sw (a_g A) v b)) v (i + 1) r0 = s1 at eq1 h9
    generalize q_c2 (fun b => q_gI 2 (g_sw (a_g A) v b)) v i r0 = s0 at eq1 ⊢
    have hsw := g_sw_ok (v := v) (w := v + 1 + i) ho.1 hv (by omega)
    have ht := hA.1
    have hT0 : x_t z f 1 (S.2.1 0) := hS.2.1 0 (by decide)
    have hT2 : x_t z f 9 (S.2.1 2) := hS.2.1 2 (by decide)
    refine x_iload (pc' := 36) rfl rfl rfl ?_
    refine x_aload_n (pc' := 37) rfl rfl rfl ?_
    refine x_get (pc' := 40) rfl rfl rfl (hS.1) rfl ?_
    refine x_get (pc' := 43) rfl rfl rfl ((hS.2.1 0 (by decide)).1) rfl ?_
    refine x_eqi ht.2.2.2.1 ?_
    refine x_icmp_ge (tgt := 104) (pc' := 46) rfl rfl rfl (fun c43 => absurd c43 ((nI_ge (by omega) (by omega)))) (fun _ => ?_)
    refine x_aload_n (pc' := 47) rfl rfl rfl ?_
    refine x_get (pc' := 50) rfl rfl rfl (hS.1) rfl ?_
    refine x_aload_n (pc' := 51) rfl rfl rfl ?_
    refine x_get (pc' := 54) rfl rfl rfl (hS.1) rfl ?_
    refine x_cV1v (d := 1) (pc' := 57) rfl rfl sX5_79 gX3_copyFrom (hT2.1) ⟨Nat.le_of_ble_eq_true rfl, Nat.le_of_ble_eq_true rfl⟩ (Nat.le_of_ble_eq_true rfl) ⟨Nat.le_of_ble_eq_true rfl, Nat.le_of_ble_eq_true rfl⟩ ?_
    refine w_copyFrom hT2 hT0 (by decide) (fun f1 hT1 hF1 => ⟨rfl, ?_⟩)
    have hS1 := hS.tab 2 (by decide) hT1 hF1
    have hF1' := hF.trans (c_fr0 (j := 2) (by decide) hF1)
    have t1 := x_cp_is (T := S.2.1 2) ht
    refine x_aload_n (pc' := 58) rfl rfl rfl ?_
    refine x_get (pc' := 61) rfl rfl rfl (hS1.1) rfl ?_
    refine x_iload_n (pc' := 62) rfl rfl rfl ?_
    refine x_iload (pc' := 64) rfl rfl rfl ?_
    refine x_cV2v (d := 3) (pc' := 67) rfl rfl sX5_180 gX3_swapBeans (hT1.1) ⟨Nat.le_of_ble_eq_true rfl, Nat.le_of_ble_eq_true rfl⟩ (Nat.le_of_ble_eq_true rfl) ⟨Nat.le_of_ble_eq_true rfl, Nat.le_of_ble_eq_true rfl⟩ ?_
    refine w_swap (v := v) (w := v + 1 + i) hT1 t1.2.2.2.1 hn9 (by omega) (by omega) (fun f2 T2 hT2' e2 hF2 => ⟨rfl, ?_⟩)
    have hS2 := hS1.tt (j := 2) (by decide) hT2' hF2
    have hF2' := hF1'.trans (c_fr0 (j := 2) (by decide) hF2)
    have g2 : t_is T2 (g_sw (a_g A) v (v + 1 + i)) := (by rw [e2.2 hv (by omega)]; refine ⟨t1.1, ?_, t1.2.2⟩; show upd (upd (S.2.1 0).2.1 v ((S.2.1 0).2.1 (v + 1 + i))) (v + 1 + i) ((S.2.1 0).2.1 v) = _; rw [ht.2.1, q_up_I, q_up_I]; rfl)
    refine x_aload_n (pc' := 68) rfl rfl rfl ?_
    refine x_get (pc' := 71) rfl rfl rfl (hS2.1) rfl ?_
    refine x_aload_n (pc' := 72) rfl rfl rfl ?_
    refine x_get (pc' := 75) rfl rfl rfl (hS2.1) rfl ?_
    refine x_iconst (pc' := 76) rfl rfl iconst_2 ?_
    refine x_cV2i (d := 10) (pc' := 79) rfl rfl sX5_155 gX0_gainFor (hS2.ah) ⟨Nat.le_of_ble_eq_true rfl, Nat.le_of_ble_eq_true rfl⟩ (Nat.le_of_ble_eq_true rfl) ⟨Nat.le_of_ble_eq_true rfl, Nat.le_of_ble_eq_true rfl⟩ ?_
    refine c_gainFor (n := 2) (j := 2) (C := 99) (by decide) (by decide) (by decide) (by decide) hS2 g2 hsw (fun f3 S3 hS3 l3 ch3 hF3 => ⟨_, rfl, ?_⟩)
    have hA3 : c_is S3 A := (c_tr hA).sc l3.sc
    have h8 := h9 f3 S3 hS3 hA3 (hF2'.trans hF3)
    refine x_istore (pc' := 81) (lv' := [(5, _), (4, _), (3, _), (2, _), (1, _), (0, _)]) rfl rfl (Nat.le_of_ble_eq_true rfl) rfl ?_
    refine x_iload (pc' := 83) rfl rfl rfl ?_
    refine x_iload_n (pc' := 84) rfl rfl rfl ?_
    by_cases d : s0.1 < q_gI 2 (g_sw (a_g A) v (v + 1 + i))
    · rw [if_pos d] at eq1
      rw [eq1] at h8
      refine x_icmp_le (tgt := 98) (pc' := 87) rfl rfl rfl (fun q => absurd q (Int32.not_le.mpr d)) (fun _ => ?_)
      refine x_iload (pc' := 89) rfl rfl rfl ?_
      refine x_istore_n (pc' := 90) (lv' := [(2, _), (5, _), (4, _), (3, _), (1, _), (0, _)]) rfl rfl (Nat.le_of_ble_eq_true rfl) rfl ?_
      refine x_bipush (pc' := 92) rfl rfl bipush_10 ?_
      refine x_iload_n (pc' := 93) rfl rfl rfl ?_
      refine x_imul (pc' := 94) rfl rfl ?_
      refine x_eqi (show 10 * nI v = nI (10 * v) from pk_mul 10 v) ?_
      refine x_iload (pc' := 96) rfl rfl rfl ?_
      refine x_iadd (pc' := 97) rfl rfl ?_
      refine x_eqi (nI_add _ _) ?_
      refine x_istore_n (pc' := 98) (lv' := [(1, _), (2, _), (5, _), (4, _), (3, _), (0, _)]) rfl rfl (Nat.le_of_ble_eq_true rfl) rfl ?_
      refine x_iinc (pc' := 101) (lv' := [(4, _), (1, _), (2, _), (5, _), (3, _), (0, _)]) rfl rfl (Nat.le_of_ble_eq_true rfl) rfl (nI_1 _) rfl ?_
      refine x_goto (tgt := 34) rfl rfl ?_
      refine x_lvp [0, 4, 2, 1, 5] rfl ?_
      exact h8
    · rw [if_neg d] at eq1
      rw [eq1] at h8
      refine x_icmp_le (tgt := 98) (pc' := 87) rfl rfl rfl (fun _ => ?_) (fun q => absurd (Int32.not_lt.mp d) q)
      refine x_iinc (pc' := 101) (lv' := [(4, _), (5, _), (3, _), (2, _), (1, _), (0, _)]) rfl rfl (Nat.le_of_ble_eq_true rfl) rfl (nI_1 _) rfl ?_
      refine x_goto (tgt := 34) rfl rfl ?_
      refine x_lvp [0, 2, 3, 4, 5] rfl ?_
      exact h8
theorem c_chO (ho : a_ok A) (f0 : x_H) (h : c_ends z f0 post (A, q_chg (q_gI 2) (a_g A))) : ∀ (m v : Nat) (f : x_H) (S : x_S), v + m = g_n (a_g A) → x_Sys z f S → c_is S A → x_fr (fun q => 59 ≤ q) f0 f → X E (x_rm 14 0 0) mX5_change (x_QM E z 0 0 post) 18 [(3, .int (nI v)), (2, .int (q_c1 (fun a b => q_gI 2 (g_sw (a_g A) a b)) (g_n (a_g A)) (q_gI 2 (a_g A), -9) v).1), (1, .int (q_c1 (fun a b => q_gI 2 (g_sw (a_g A) a b)) (g_n (a_g A)) (q_gI 2 (a_g A), -9) v).2), (0, .ref 0)] [] z f 0 0 := by
  have hn9 := ho.1.1
  intro m
  induction m with
  | zero =>
    intro v f S hv hS hA hF
    have hv2 : v = g_n (a_g A) := by omega
    subst hv2
    refine x_iload_n (pc' := 19) rfl rfl rfl ?_
    refine x_aload_n (pc' := 20) rfl rfl rfl ?_
    refine x_get (pc' := 23) rfl rfl rfl (hS.1) rfl ?_
    refine x_get (pc' := 26) rfl rfl rfl ((hS.2.1 0 (by decide)).1) rfl ?_
    refine x_eqi hA.1.2.2.2.1 ?_
    refine x_icmp_ge (tgt := 110) (pc' := 29) rfl rfl rfl (fun _ => ?_) (fun c26 => absurd ((Int32.le_refl _)) c26)
    refine x_iload_n (pc' := 111) rfl rfl rfl ?_
    exact x_ireturn rfl rfl rfl (Nat.le_of_ble_eq_true rfl) (Nat.le_of_ble_eq_true rfl) (h _ _ hS hA hF)
  | succ m ih =>
    intro v f S hv hS hA hF
    have eq1 : q_c1 (fun a b => q_gI 2 (g_sw (a_g A) a b)) (g_n (a_g A)) (q_gI 2 (a_g A), -9) (v + 1) = q_c2 (fun b => q_gI 2 (g_sw (a_g A) v b)) v (g_n (a_g A) - (v + 1)) (q_c1 (fun a b => q_gI 2 (g_sw (a_g A) a b)) (g_n (a_g A)) (q_gI 2 (a_g A), -9) v) := rfl
    have h9 := fun f S => ih (v + 1) f S (by omega)
    rw [eq1] at h9
    refine x_iload_n (pc' := 19) rfl rfl rfl ?_
    refine x_aload_n (pc' := 20) rfl rfl rfl ?_
    refine x_get (pc' := 23) rfl rfl rfl (hS.1) rfl ?_
    refine x_get (pc' := 26) rfl rfl rfl ((hS.2.1 0 (by decide)).1) rfl ?_
    refine x_eqi hA.1.2.2.2.1 ?_
    refine x_icmp_ge (tgt := 110) (pc' := 29) rfl rfl rfl (fun c26 => absurd c26 ((nI_ge (by omega) (by omega)))) (fun _ => ?_)
    refine x_iload_n (pc' := 30) rfl rfl rfl ?_
    refine x_iconst (pc' := 31) rfl rfl iconst_1 ?_
    refine x_iadd (pc' := 32) rfl rfl ?_
    refine x_eqi (nI_1 v) ?_
    refine x_istore (pc' := 34) (lv' := [(4, _), (3, _), (2, _), (1, _), (0, _)]) rfl rfl (Nat.le_of_ble_eq_true rfl) rfl ?_
    refine c_chI ho (by omega) f S hA _ (fun f1 S1 hS1 hA1 hF1 => ?_) (g_n (a_g A) - (v + 1)) 0 f S (by omega) hS hA x_fr.rf
    refine x_iinc (pc' := 107) (lv' := [(3, _), (4, _), (2, _), (1, _), (0, _)]) rfl rfl (Nat.le_of_ble_eq_true rfl) rfl (nI_1 v) rfl ?_
    refine x_goto (tgt := 18) rfl rfl ?_
    refine x_lvp [0, 2, 3, 4] rfl ?_
    exact h9 f1 S1 hS1 hA1 (hF.trans hF1)
theorem c_change (hS : x_Sys z f S) (hA : c_is S A) (ho : a_ok A) (h : c_ends z f post (A, q_chg (q_gI 2) (a_g A))) : Y E 14 mX5_change [.ref 0] z f 0 0 post := by
  refine Y.intro gX5_change (lv := [(0, .ref 0)]) rfl (Nat.le_of_ble_eq_true rfl) ?_
  refine x_bipush (pc' := 2) rfl rfl bipush_m9 ?_
  refine x_istore_n (pc' := 3) (lv' := [(1, _), (0, _)]) rfl rfl (Nat.le_of_ble_eq_true rfl) rfl ?_
  refine x_aload_n (pc' := 4) rfl rfl rfl ?_
  refine x_get (pc' := 7) rfl rfl rfl (hS.1) rfl ?_
  refine x_aload_n (pc' := 8) rfl rfl rfl ?_
  refine x_get (pc' := 11) rfl rfl rfl (hS.1) rfl ?_
  refine x_iconst (pc' := 12) rfl rfl iconst_2 ?_
  refine x_cV2i (d := 10) (pc' := 15) rfl rfl sX5_155 gX0_gainFor (hS.ah) ⟨Nat.le_of_ble_eq_true rfl, Nat.le_of_ble_eq_true rfl⟩ (Nat.le_of_ble_eq_true rfl) ⟨Nat.le_of_ble_eq_true rfl, Nat.le_of_ble_eq_true rfl⟩ ?_
  refine c_gainFor (n := 2) (j := 0) (C := 99) (by decide) (by decide) (by decide) (by decide) hS hA.1 ho.1 (fun f1 S1 hS1 l1 ch1 hF1 => ⟨_, rfl, ?_⟩)
  refine x_istore_n (pc' := 16) (lv' := [(2, _), (1, _), (0, _)]) rfl rfl (Nat.le_of_ble_eq_true rfl) rfl ?_
  refine x_iconst (pc' := 17) rfl rfl iconst_0 ?_
  refine x_istore_n (pc' := 18) (lv' := [(3, _), (2, _), (1, _), (0, _)]) rfl rfl (Nat.le_of_ble_eq_true rfl) rfl ?_
  exact c_chO ho f h (g_n (a_g A)) 0 f1 S1 (by omega) hS1 (hA.sc l1.sc) hF1
theorem c_frI {v n : Nat} (hn : n ≤ 9) (f0 : x_H) (S0 : x_S) (β0 : Nat → Nat) (K : ∀ (f' : x_H) (T' : x_T), x_Sys z f' (S0.1, x_ut S0.2.1 2 T', S0.2.2.1, S0.2.2.2) → t_is T' (g.1, fun i => if i < n then v else β0 i, g.2.2) → x_fr (fun q => 59 ≤ q) f0 f' → X E (x_rm 14 0 0) mX5_fair (x_QM E z 0 0 post) 47 [(2, .int (nI n)), (1, .int (nI v)), (0, .ref 0)] [] z f' 0 0) (hgn : g_n g = n) : ∀ (m i : Nat) (f : x_H) (T : x_T), i + m = n → x_Sys z f (S0.1, x_ut S0.2.1 2 T, S0.2.2.1, S0.2.2.2) → t_is T (g.1, fun j => if j < i then v else β0 j, g.2.2) → x_fr (fun q => 59 ≤ q) f0 f → X E (x_rm 14 0 0) mX5_fair (x_QM E z 0 0 post) 21 [(2, .int (nI i)), (1, .int (nI v)), (0, .ref 0)] [] z f 0 0 := by
  intro m
  induction m with
  | zero =>
    intro i f T hi hS ht hF
    have hi2 : i = n := by omega
    subst hi2
    have e0 : T.2.2.2 0 = nI i := ht.2.2.2.1.trans (congrArg nI hgn)
    refine x_iload_n (pc' := 22) rfl rfl rfl ?_
    refine x_aload_n (pc' := 23) rfl rfl rfl ?_
    refine x_get (pc' := 26) rfl rfl rfl (hS.1) rfl ?_
    refine x_get (pc' := 29) rfl rfl rfl ((hS.2.1 2 (by decide)).1) rfl ?_
    refine x_eqi e0 ?_
    refine x_icmp_ge (tgt := 47) (pc' := 32) rfl rfl rfl (fun _ => ?_) (fun c29 => absurd ((Int32.le_refl _)) c29)
    exact K _ _ hS ht hF
  | succ m ih =>
    intro i f T hi hS ht hF
    have e0 : T.2.2.2 0 = nI n := ht.2.2.2.1.trans (congrArg nI hgn)
    have hT : x_t z f 9 T := hS.2.1 2 (by decide)
    have hcl : (nI i).toNatClampNeg = i := nI_clamp (by omega)
    refine x_iload_n (pc' := 22) rfl rfl rfl ?_
    refine x_aload_n (pc' := 23) rfl rfl rfl ?_
    refine x_get (pc' := 26) rfl rfl rfl (hS.1) rfl ?_
    refine x_get (pc' := 29) rfl rfl rfl (hT.1) rfl ?_
    refine x_eqi e0 ?_
    refine x_icmp_ge (tgt := 47) (pc' := 32) rfl rfl rfl (fun c29 => absurd c29 ((nI_ge (by omega) (by omega)))) (fun _ => ?_)
    refine x_aload_n (pc' := 33) rfl rfl rfl ?_
    refine x_get (pc' := 36) rfl rfl rfl (hS.1) rfl ?_
    refine x_iload_n (pc' := 37) rfl rfl rfl ?_
    refine x_iload_n (pc' := 38) rfl rfl rfl ?_
    refine x_cV2v (d := 2) (pc' := 41) rfl rfl sX5_105 gX3_lay (hT.1) ⟨Nat.le_of_ble_eq_true rfl, Nat.le_of_ble_eq_true rfl⟩ (Nat.le_of_ble_eq_true rfl) ⟨Nat.le_of_ble_eq_true rfl, Nat.le_of_ble_eq_true rfl⟩ ?_
    refine w_lay hT (fun q f1 hT1 hF1 => ⟨rfl, ?_⟩) (fun q => absurd (t_has_nI e0 hn (by omega)) q)
    refine x_iinc (pc' := 44) (lv' := [(2, _), (1, _), (0, _)]) rfl rfl (Nat.le_of_ble_eq_true rfl) rfl (nI_1 i) rfl ?_
    refine x_goto (tgt := 21) rfl rfl ?_
    refine ih (i + 1) f1 _ (by omega) (hS.tt (j := 2) (by decide) hT1 hF1) ⟨ht.1, ?_, ht.2.2⟩ (hF.trans (c_fr0 (j := 2) (by decide) hF1))
    show upd T.2.1 (nI i).toNatClampNeg (nI v) = _
    rw [hcl, ht.2.1]
    funext j
    show upd (fun j => nI (if j < i then v else β0 j)) i (nI v) j = nI (if j < i + 1 then v else β0 j)
    unfold upd
    by_cases d : j = i
    · rw [if_pos d, if_pos (by omega)]
    · rw [if_neg d]
      show nI (if j < i then v else β0 j) = nI (if j < i + 1 then v else β0 j)
      by_cases d2 : j < i
      · rw [if_pos d2, if_pos (by omega)]
      · rw [if_neg d2, if_neg (by omega)]
theorem c_frO (ho : a_ok A) (f0 : x_H) (r : Int32) (h : c_ends z f0 post (A, r)) : ∀ (m v : Nat) (f : x_H) (S : x_S), v + m = 10 → 1 ≤ v → q_fr (fun v => q_gI 2 (g_fl (a_g A) v)) m v = r → x_Sys z f S → c_is S A → x_fr (fun q => 59 ≤ q) f0 f → X E (x_rm 14 0 0) mX5_fair (x_QM E z 0 0 post) 2 [(1, .int (nI v)), (0, .ref 0)] [] z f 0 0 := by
  have hn9 := ho.1.1
  intro m
  induction m with
  | zero =>
    intro v f S hv h1 hr hS hA hF
    have hv2 : v = 10 := by omega
    subst hv2
    have hr2 : -9 = r := hr
    subst hr2
    refine x_iload_n (pc' := 3) rfl rfl rfl ?_
    refine x_bipush (pc' := 5) rfl rfl bipush_9 ?_
    refine x_icmp_gt (tgt := 70) (pc' := 8) rfl rfl rfl (fun _ => ?_) (fun c5 => absurd ((by decide : (9 : Int32) < nI 10)) c5)
    refine x_bipush (pc' := 72) rfl rfl bipush_m9 ?_
    exact x_ireturn rfl rfl rfl (Nat.le_of_ble_eq_true rfl) (Nat.le_of_ble_eq_true rfl) (h _ _ hS hA hF)
  | succ m ih =>
    intro v f S hv h1 hr hS hA hF
    replace hr : (if q_gI 2 (g_fl (a_g A) v) = 0 then nI v else q_fr (fun v => q_gI 2 (g_fl (a_g A) v)) m (v + 1)) = r := hr
    have hfl := g_fl_ok (v := v) ho.1 (by omega)
    have hT0 : x_t z f 1 (S.2.1 0) := hS.2.1 0 (by decide)
    have hT2 : x_t z f 9 (S.2.1 2) := hS.2.1 2 (by decide)
    refine x_iload_n (pc' := 3) rfl rfl rfl ?_
    refine x_bipush (pc' := 5) rfl rfl bipush_9 ?_
    refine x_icmp_gt (tgt := 70) (pc' := 8) rfl rfl rfl (fun c5 => absurd c5 ((nI_nlt (a := 9) (b := v) (by omega) (by decide)))) (fun _ => ?_)
    refine x_aload_n (pc' := 9) rfl rfl rfl ?_
    refine x_get (pc' := 12) rfl rfl rfl (hS.1) rfl ?_
    refine x_aload_n (pc' := 13) rfl rfl rfl ?_
    refine x_get (pc' := 16) rfl rfl rfl (hS.1) rfl ?_
    refine x_cV1v (d := 1) (pc' := 19) rfl rfl sX5_79 gX3_copyFrom (hT2.1) ⟨Nat.le_of_ble_eq_true rfl, Nat.le_of_ble_eq_true rfl⟩ (Nat.le_of_ble_eq_true rfl) ⟨Nat.le_of_ble_eq_true rfl, Nat.le_of_ble_eq_true rfl⟩ ?_
    refine w_copyFrom hT2 hT0 (by decide) (fun f1 hT1 hF1 => ⟨rfl, ?_⟩)
    have hS1 := hS.tab 2 (by decide) hT1 hF1
    have hF1' := hF.trans (c_fr0 (j := 2) (by decide) hF1)
    have t1 := x_cp_is (T := S.2.1 2) hA.1
    refine x_iconst (pc' := 20) rfl rfl iconst_0 ?_
    refine x_istore_n (pc' := 21) (lv' := [(2, _), (1, _), (0, _)]) rfl rfl (Nat.le_of_ble_eq_true rfl) rfl ?_
    refine c_frI (g := a_g A) hn9 f1 S (g_β (a_g A)) (fun f2 T2 hS2 g2 hF2 => ?_) rfl (g_n (a_g A)) 0 f1 _ (by omega) hS1 ⟨t1.1, t1.2.1.trans (by funext j; rw [show (fun j => if j < 0 then v else g_β (a_g A) j) = g_β (a_g A) from by funext j; rw [if_neg (Nat.not_lt_zero j)]]), t1.2.2⟩ x_fr.rf
    refine x_aload_n (pc' := 48) rfl rfl rfl ?_
    refine x_get (pc' := 51) rfl rfl rfl (hS2.1) rfl ?_
    refine x_aload_n (pc' := 52) rfl rfl rfl ?_
    refine x_get (pc' := 55) rfl rfl rfl (hS2.1) rfl ?_
    refine x_iconst (pc' := 56) rfl rfl iconst_2 ?_
    refine x_cV2i (d := 10) (pc' := 59) rfl rfl sX5_155 gX0_gainFor (hS2.ah) ⟨Nat.le_of_ble_eq_true rfl, Nat.le_of_ble_eq_true rfl⟩ (Nat.le_of_ble_eq_true rfl) ⟨Nat.le_of_ble_eq_true rfl, Nat.le_of_ble_eq_true rfl⟩ ?_
    refine c_gainFor (n := 2) (j := 2) (C := 99) (g := g_fl (a_g A) v) (by decide) (by decide) (by decide) (by decide) hS2 g2 hfl (fun f3 S3 hS3 l3 ch3 hF3 => ⟨_, rfl, ?_⟩)
    have hA3 : c_is S3 A := (c_tr hA).sc l3.sc
    have hF13 := (hF1'.trans hF2).trans hF3
    by_cases d : q_gI 2 (g_fl (a_g A) v) = 0
    · rw [if_pos d] at hr
      subst hr
      refine x_if_ne (tgt := 64) (pc' := 62) rfl rfl rfl (fun q => absurd d q) (fun _ => ?_)
      refine x_iload_n (pc' := 63) rfl rfl rfl ?_
      exact x_ireturn rfl rfl rfl (Nat.le_of_ble_eq_true rfl) (Nat.le_of_ble_eq_true rfl) (h _ _ hS3 hA3 hF13)
    · rw [if_neg d] at hr
      refine x_if_ne (tgt := 64) (pc' := 62) rfl rfl rfl (fun _ => ?_) (fun q => absurd q d)
      refine x_iinc (pc' := 67) (lv' := [(1, _), (2, _), (0, _)]) rfl rfl (Nat.le_of_ble_eq_true rfl) rfl (nI_1 v) rfl ?_
      refine x_goto (tgt := 2) rfl rfl ?_
      refine x_lvp [0, 2] rfl ?_
      exact ih (v + 1) f3 S3 (by omega) (by omega) hr hS3 hA3 hF13
theorem c_fair (hS : x_Sys z f S) (hA : c_is S A) (ho : a_ok A) (h : c_ends z f post (A, q_fr (fun v => q_gI 2 (g_fl (a_g A) v)) 9 1)) : Y E 14 mX5_fair [.ref 0] z f 0 0 post := by
  refine Y.intro gX5_fair (lv := [(0, .ref 0)]) rfl (Nat.le_of_ble_eq_true rfl) ?_
  refine x_iconst (pc' := 1) rfl rfl iconst_1 ?_
  refine x_istore_n (pc' := 2) (lv' := [(1, _), (0, _)]) rfl rfl (Nat.le_of_ble_eq_true rfl) rfl ?_
  exact c_frO ho f _ h 9 1 f S (by decide) (by decide) rfl hS hA x_fr.rf
end CE
