/-! The reference: pairs that change, fair starts, bowls emptied. -/
def q_c2 (W : Nat → Int32) (a : Nat) : Nat → Int32 × Int32 → Int32 × Int32
  | 0, r => r
  | m + 1, r => if (q_c2 W a m r).1 < W (a + 1 + m) then (W (a + 1 + m), nI (10 * a + (a + 1 + m))) else q_c2 W a m r
def q_c1 (W : Nat → Nat → Int32) (n : Nat) (r : Int32 × Int32) : Nat → Int32 × Int32
  | 0 => r
  | a + 1 => q_c2 (W a) a (n - (a + 1)) (q_c1 W n r a)
def q_chg (W : q_G → Int32) (g : q_G) : Int32 := (q_c1 (fun a b => W (g_sw g a b)) (g_n g) (W g, -9) (g_n g)).2
def g_fl (g : q_G) (v : Nat) : q_G := (g.1, fun i => if i < g_n g then v else g_β g i, g.2.2)
theorem g_fl_ok {C : Nat} {g : q_G} {v : Nat} (h : g_ok C g) (hv : v ≤ C) : g_ok C (g_fl g v) := by
  obtain ⟨a1, a2, a3, a4, a5, a6, a7, a8, a9⟩ := h
  refine ⟨a1, a2, a3, a4, a5, fun i => ?_, a7, fun i hi => ⟨(a8 i hi).1, ?_⟩, a9⟩
  · show (if i < g_n g then v else g_β g i) ≤ C
    split
    · exact hv
    · exact a6 i
  · show (if i < g_n g then v else g_β g i) = 0
    rw [if_neg (by omega)]
    exact (a8 i hi).2
def q_fr (W : Nat → Int32) : Nat → Nat → Int32
  | 0, _ => -9
  | k + 1, v => if W v = 0 then nI v else q_fr W k (v + 1)
def q_fo (c : Nat → Bool) : Nat → Nat → Option Nat
  | 0, _ => none
  | k + 1, b => if c b = true then some b else q_fo c k (b + 1)
def q_em (w : Nat) : Nat → q_G → Bool
  | 0, g => decide (g_β g w = 0)
  | k + 1, g => decide (g_β g w = 0) || (q_fo (fun b => decide (g_can g b) && q_em w k (g_mv g b)) (g_n g) 0).isSome
abbrev q_ec (w k : Nat) (g : q_G) : Nat → Bool := fun b => decide (g_can g b) && q_em w k (g_mv g b)
def q_ef (w : Nat) : Nat → q_G → Int32 → Int32
  | 0, _, fo => fo
  | k + 1, g, fo => if g_β g w = 0 then fo else (match q_fo (q_ec w k g) (g_n g) 0 with | some b => nI b | none => fo)
def q_te (w : Nat) (g : q_G) (b : Int32) : Nat → Nat → Int32
  | 0, _ => -9
  | k + 1, n => if q_em w n g = true then (if b = 0 then nI n else q_ef w n g (-9)) else q_te w g b k (n + 1)
theorem q_sw_sw (β : Nat → Nat) {a b : Nat} (h : a ≠ b) : q_up (q_up (q_up (q_up β a (β b)) b (β a)) a (q_up (q_up β a (β b)) b (β a) b)) b (q_up (q_up β a (β b)) b (β a) a) = β := by
  have e1 : q_up (q_up β a (β b)) b (β a) b = β a := q_up_s _ _ _
  have e2 : q_up (q_up β a (β b)) b (β a) a = β b := (q_up_n _ _ h).trans (q_up_s _ _ _)
  rw [e1, e2]
  funext i
  by_cases hb : i = b
  · subst hb
    exact q_up_s _ _ _
  · rw [q_up_n _ _ hb]
    by_cases ha : i = a
    · subst ha
      exact q_up_s _ _ _
    · rw [q_up_n _ _ ha, q_up_n _ _ hb, q_up_n _ _ ha]
section PR
variable {E : x_E} {z : Nat} {f : x_H} {M M0 : x_N} {A : q_A} {post : Option Value → x_H → Prop} {g : q_G} {C : Nat} {a b : Int32}
theorem m_is_sw {v w : Nat} (hm : m_is M g) : m_is (M.1, x_ua M.2.1 1 (upd (upd (M.2.1 1) v (M.2.1 1 w)) w (M.2.1 1 v)), M.2.2) (g_sw g v w) := by
  refine ⟨hm.1, ?_, hm.2.2.1, hm.2.2.2.1, hm.2.2.2.2.1, hm.2.2.2.2.2.1, hm.2.2.2.2.2.2⟩
  show upd (upd (M.2.1 1) v (M.2.1 1 w)) w (M.2.1 1 v) = _
  rw [hm.2.1, q_up_I, q_up_I]
  rfl
theorem m_is_ss {v w : Nat} (h : v ≠ w) (hm : m_is M (g_sw (g_sw g v w) v w)) : m_is M g := by
  obtain ⟨h1, h2, h3⟩ := hm
  refine ⟨h1, ?_, h3⟩
  rw [h2]
  show (fun i => nI (q_up (q_up (q_up (q_up (g_β g) v (g_β g w)) w (g_β g v)) v (q_up (q_up (g_β g) v (g_β g w)) w (g_β g v) w)) w (q_up (q_up (g_β g) v (g_β g w)) w (g_β g v) v) i)) = _
  rw [q_sw_sw _ h]
theorem m_sk.b1 {h : Nat → Int32} : m_sk M (M.1, x_ua M.2.1 1 h, M.2.2) 0 := ⟨fun j a _ _ => if_neg a, rfl, fun _ _ _ _ _ _ _ => rfl, fun j hj => rfl⟩
theorem m_sk.n18 (h : m_sk M M0 0) : M0.1 18 = M.1 18 := h.2.2.1 18 (by decide) (by decide) (by decide) (by decide) (by decide) (by decide)
theorem r_chI {v : Nat} (hg : g_ok 99 g) (hv : v < g_n g) (f0 : x_H) (M0 : x_N) (h18 : M0.1 18 = 0) (r0 : Int32 × Int32) (K : ∀ (f' : x_H) (M' : x_N), x_Mdl z f' M' → m_is M' g → m_sk M0 M' 0 → x_fr (fun q => q < 59) f0 f' → X E (x_rm 14 0 0) mX6_change (x_QM E z 0 0 post) 77 [(4, .int (nI (g_n g))), (3, .int (nI v)), (2, .int (q_c2 (fun b => q_wI 2 (g_sw g v b)) v (g_n g - (v + 1)) r0).2), (1, .int (q_c2 (fun b => q_wI 2 (g_sw g v b)) v (g_n g - (v + 1)) r0).1), (0, .ref 59)] [] z f' 0 0) :
    ∀ (m i : Nat) (f : x_H) (M : x_N), v + 1 + i + m = g_n g → x_Mdl z f M → m_is M g → m_sk M0 M 0 → x_fr (fun q => q < 59) f0 f → X E (x_rm 14 0 0) mX6_change (x_QM E z 0 0 post) 24 [(4, .int (nI (v + 1 + i))), (3, .int (nI v)), (2, .int (q_c2 (fun b => q_wI 2 (g_sw g v b)) v i r0).2), (1, .int (q_c2 (fun b => q_wI 2 (g_sw g v b)) v i r0).1), (0, .ref 59)] [] z f 0 0 := by
  have hn9 := hg.1
  intro m
  induction m with
  | zero =>
    intro i f M hi hM hm hs hF
    have hi2 : i = g_n g - (v + 1) := by omega
    subst hi2
    have hi3 : v + 1 + (g_n g - (v + 1)) = g_n g := by omega
    rw [hi3]
    refine x_iload (pc' := 26) rfl rfl rfl ?_
    refine x_aload_n (pc' := 27) rfl rfl rfl ?_
    refine x_get (pc' := 30) rfl rfl rfl (hM.1) rfl ?_
    refine x_eqi hm.2.2.2.1 ?_
    refine x_icmp_ge (tgt := 77) (pc' := 33) rfl rfl rfl (fun _ => ?_) (fun c30 => absurd ((Int32.le_refl _)) c30)
    exact K _ _ hM hm hs hF
  | succ m ih =>
    intro i f M hi hM hm hs hF
    have eq1 : q_c2 (fun b => q_wI 2 (g_sw g v b)) v (i + 1) r0 = if (q_c2 (fun b => q_wI 2 (g_sw g v b)) v i r0).1 < q_wI 2 (g_sw g v (v + 1 + i)) then (q_wI 2 (g_sw g v (v + 1 + i)), nI (10 * v + (v + 1 + i))) else q_c2 (fun b => q_wI 2 (g_sw g v b)) v i r0 := rfl
    have h9 := fun f M => ih (i + 1) f M (by omega)
    generalize q_c2 (fun b => q_wI 2 (g_sw g v b)) v (i + 1) r0 = s1 at eq1 h9
    generalize q_c2 (fun b => q_wI 2 (g_sw g v b)) v i r0 = s0 at eq1 ⊢
    have h18' : M.1 18 = 0 := hs.n18.trans h18
    have hsw := g_sw_ok (v := v) (w := v + 1 + i) hg hv (by omega)
    refine x_iload (pc' := 26) rfl rfl rfl ?_
    refine x_aload_n (pc' := 27) rfl rfl rfl ?_
    refine x_get (pc' := 30) rfl rfl rfl (hM.1) rfl ?_
    refine x_eqi hm.2.2.2.1 ?_
    refine x_icmp_ge (tgt := 77) (pc' := 33) rfl rfl rfl (fun c30 => absurd c30 ((nI_ge (by omega) (by omega)))) (fun _ => ?_)
    refine x_aload_n (pc' := 34) rfl rfl rfl ?_
    refine x_iload_n (pc' := 35) rfl rfl rfl ?_
    refine x_iload (pc' := 37) rfl rfl rfl ?_
    refine x_cV2v (d := 1) (pc' := 40) rfl rfl sX6_147 gX6_exchanges (hM.1) ⟨Nat.le_of_ble_eq_true rfl, Nat.le_of_ble_eq_true rfl⟩ (Nat.le_of_ble_eq_true rfl) ⟨Nat.le_of_ble_eq_true rfl, Nat.le_of_ble_eq_true rfl⟩ ?_
    refine m_exch (v := v) (w := v + 1 + i) hM (by omega) (by omega) (fun f1 hM1 hF1 => ⟨rfl, ?_⟩)
    have g1 := m_is_sw (v := v) (w := v + 1 + i) hm
    have s1' := hs.trans (m_sk.b1 (M := M) (h := upd (upd (M.2.1 1) v (M.2.1 1 (v + 1 + i))) (v + 1 + i) (M.2.1 1 v))) (Nat.le_refl 0)
    refine x_aload_n (pc' := 41) rfl rfl rfl ?_
    refine x_iconst (pc' := 42) rfl rfl iconst_2 ?_
    refine x_cV1i (d := 10) (pc' := 45) rfl rfl sX6_183 gX6_worthOf (hM1.1) ⟨Nat.le_of_ble_eq_true rfl, Nat.le_of_ble_eq_true rfl⟩ (Nat.le_of_ble_eq_true rfl) ⟨Nat.le_of_ble_eq_true rfl, Nat.le_of_ble_eq_true rfl⟩ ?_
    refine m_worthOf (n := 2) (C := 99) (by decide) (by decide) (by decide) hM1 g1 hsw h18' (fun f2 M2 hM2 g2 k2 hF2 => ⟨_, rfl, ?_⟩)
    refine x_istore (pc' := 47) (lv' := [(5, _), (4, _), (3, _), (2, _), (1, _), (0, _)]) rfl rfl (Nat.le_of_ble_eq_true rfl) rfl ?_
    refine x_aload_n (pc' := 48) rfl rfl rfl ?_
    refine x_iload_n (pc' := 49) rfl rfl rfl ?_
    refine x_iload (pc' := 51) rfl rfl rfl ?_
    refine x_cV2v (d := 1) (pc' := 54) rfl rfl sX6_147 gX6_exchanges (hM2.1) ⟨Nat.le_of_ble_eq_true rfl, Nat.le_of_ble_eq_true rfl⟩ (Nat.le_of_ble_eq_true rfl) ⟨Nat.le_of_ble_eq_true rfl, Nat.le_of_ble_eq_true rfl⟩ ?_
    refine m_exch (v := v) (w := v + 1 + i) hM2 (by omega) (by omega) (fun f3 hM3 hF3 => ⟨rfl, ?_⟩)
    have g3 := m_is_ss (by omega) (m_is_sw (v := v) (w := v + 1 + i) g2)
    have s3 := (s1'.trans k2 (Nat.le_refl 0)).trans (m_sk.b1 (M := M2) (h := upd (upd (M2.2.1 1) v (M2.2.1 1 (v + 1 + i))) (v + 1 + i) (M2.2.1 1 v))) (Nat.le_refl 0)
    have h8 := h9 f3 _ hM3 g3 s3 (((hF.trans hF1).trans hF2).trans hF3)
    refine x_iload (pc' := 56) rfl rfl rfl ?_
    refine x_iload_n (pc' := 57) rfl rfl rfl ?_
    by_cases d : s0.1 < q_wI 2 (g_sw g v (v + 1 + i))
    · rw [if_pos d] at eq1
      rw [eq1] at h8
      refine x_icmp_le (tgt := 71) (pc' := 60) rfl rfl rfl (fun q => absurd q (Int32.not_le.mpr d)) (fun _ => ?_)
      refine x_bipush (pc' := 62) rfl rfl bipush_10 ?_
      refine x_iload_n (pc' := 63) rfl rfl rfl ?_
      refine x_imul (pc' := 64) rfl rfl ?_
      refine x_eqi (show 10 * nI v = nI (10 * v) from pk_mul 10 v) ?_
      refine x_iload (pc' := 66) rfl rfl rfl ?_
      refine x_iadd (pc' := 67) rfl rfl ?_
      refine x_eqi (nI_add _ _) ?_
      refine x_istore_n (pc' := 68) (lv' := [(2, _), (5, _), (4, _), (3, _), (1, _), (0, _)]) rfl rfl (Nat.le_of_ble_eq_true rfl) rfl ?_
      refine x_iload (pc' := 70) rfl rfl rfl ?_
      refine x_istore_n (pc' := 71) (lv' := [(1, _), (2, _), (5, _), (4, _), (3, _), (0, _)]) rfl rfl (Nat.le_of_ble_eq_true rfl) rfl ?_
      refine x_iinc (pc' := 74) (lv' := [(4, _), (1, _), (2, _), (5, _), (3, _), (0, _)]) rfl rfl (Nat.le_of_ble_eq_true rfl) rfl (nI_1 _) rfl ?_
      refine x_goto (tgt := 24) rfl rfl ?_
      refine x_lvp [0, 4, 2, 1, 5] rfl ?_
      exact h8
    · rw [if_neg d] at eq1
      rw [eq1] at h8
      refine x_icmp_le (tgt := 71) (pc' := 60) rfl rfl rfl (fun _ => ?_) (fun q => absurd (Int32.not_lt.mp d) q)
      refine x_iinc (pc' := 74) (lv' := [(4, _), (5, _), (3, _), (2, _), (1, _), (0, _)]) rfl rfl (Nat.le_of_ble_eq_true rfl) rfl (nI_1 _) rfl ?_
      refine x_goto (tgt := 24) rfl rfl ?_
      refine x_lvp [0, 2, 3, 4, 5] rfl ?_
      exact h8
theorem r_chO (ho : a_ok A) (f0 : x_H) (M0 : x_N) (hA : r_is M0 A) (h : r_ends z f0 post (A, q_chg (q_wI 2) (a_g A))) : ∀ (m v : Nat) (f : x_H) (M : x_N), v + m = g_n (a_g A) → x_Mdl z f M → m_is M (a_g A) → m_sk M0 M 0 → x_fr (fun q => q < 59) f0 f → X E (x_rm 14 0 0) mX6_change (x_QM E z 0 0 post) 11 [(3, .int (nI v)), (2, .int (q_c1 (fun a b => q_wI 2 (g_sw (a_g A) a b)) (g_n (a_g A)) (q_wI 2 (a_g A), -9) v).2), (1, .int (q_c1 (fun a b => q_wI 2 (g_sw (a_g A) a b)) (g_n (a_g A)) (q_wI 2 (a_g A), -9) v).1), (0, .ref 59)] [] z f 0 0 := by
  have hn9 := ho.1.1
  intro m
  induction m with
  | zero =>
    intro v f M hv hM hm hs hF
    have hv2 : v = g_n (a_g A) := by omega
    subst hv2
    refine x_iload_n (pc' := 12) rfl rfl rfl ?_
    refine x_aload_n (pc' := 13) rfl rfl rfl ?_
    refine x_get (pc' := 16) rfl rfl rfl (hM.1) rfl ?_
    refine x_eqi hm.2.2.2.1 ?_
    refine x_icmp_ge (tgt := 83) (pc' := 19) rfl rfl rfl (fun _ => ?_) (fun c16 => absurd ((Int32.le_refl _)) c16)
    refine x_iload_n (pc' := 84) rfl rfl rfl ?_
    exact x_ireturn rfl rfl rfl (Nat.le_of_ble_eq_true rfl) (Nat.le_of_ble_eq_true rfl) (h _ _ hM (hA.sc hs.sc hm) hF)
  | succ m ih =>
    intro v f M hv hM hm hs hF
    have eq1 : q_c1 (fun a b => q_wI 2 (g_sw (a_g A) a b)) (g_n (a_g A)) (q_wI 2 (a_g A), -9) (v + 1) = q_c2 (fun b => q_wI 2 (g_sw (a_g A) v b)) v (g_n (a_g A) - (v + 1)) (q_c1 (fun a b => q_wI 2 (g_sw (a_g A) a b)) (g_n (a_g A)) (q_wI 2 (a_g A), -9) v) := rfl
    have h9 := fun f M => ih (v + 1) f M (by omega)
    rw [eq1] at h9
    refine x_iload_n (pc' := 12) rfl rfl rfl ?_
    refine x_aload_n (pc' := 13) rfl rfl rfl ?_
    refine x_get (pc' := 16) rfl rfl rfl (hM.1) rfl ?_
    refine x_eqi hm.2.2.2.1 ?_
    refine x_icmp_ge (tgt := 83) (pc' := 19) rfl rfl rfl (fun c16 => absurd c16 ((nI_ge (by omega) (by omega)))) (fun _ => ?_)
    refine x_iload_n (pc' := 20) rfl rfl rfl ?_
    refine x_iconst (pc' := 21) rfl rfl iconst_1 ?_
    refine x_iadd (pc' := 22) rfl rfl ?_
    refine x_eqi (nI_1 v) ?_
    refine x_istore (pc' := 24) (lv' := [(4, _), (3, _), (2, _), (1, _), (0, _)]) rfl rfl (Nat.le_of_ble_eq_true rfl) rfl ?_
    refine r_chI ho.1 (by omega) f M (hs.n18.trans hA.2.2.1) _ (fun f1 M1 hM1 g1 k1 hF1 => ?_) (g_n (a_g A) - (v + 1)) 0 f M (by omega) hM hm m_sk.rf x_fr.rf
    refine x_iinc (pc' := 80) (lv' := [(3, _), (4, _), (2, _), (1, _), (0, _)]) rfl rfl (Nat.le_of_ble_eq_true rfl) rfl (nI_1 v) rfl ?_
    refine x_goto (tgt := 11) rfl rfl ?_
    refine x_lvp [0, 2, 3, 4] rfl ?_
    exact h9 f1 M1 hM1 g1 (hs.trans k1 (Nat.le_refl 0)) (hF.trans hF1)
theorem r_change (hM : x_Mdl z f M) (hA : r_is M A) (ho : a_ok A) (h : r_ends z f post (A, q_chg (q_wI 2) (a_g A))) : Y E 14 mX6_change [.ref 59] z f 0 0 post := by
  refine Y.intro gX6_change (lv := [(0, .ref 59)]) rfl (Nat.le_of_ble_eq_true rfl) ?_
  obtain ⟨b1, b2, b3, b4, b5, b6, b7, b8, b9⟩ := id hA
  refine x_aload_n (pc' := 1) rfl rfl rfl ?_
  refine x_iconst (pc' := 2) rfl rfl iconst_2 ?_
  refine x_cV1i (d := 10) (pc' := 5) rfl rfl sX6_183 gX6_worthOf (hM.1) ⟨Nat.le_of_ble_eq_true rfl, Nat.le_of_ble_eq_true rfl⟩ (Nat.le_of_ble_eq_true rfl) ⟨Nat.le_of_ble_eq_true rfl, Nat.le_of_ble_eq_true rfl⟩ ?_
  refine m_worthOf (n := 2) (C := 99) (by decide) (by decide) (by decide) hM b1 ho.1 b3 (fun f1 M1 hM1 g1 s1 hF1 => ⟨_, rfl, ?_⟩)
  refine x_istore_n (pc' := 6) (lv' := [(1, _), (0, _)]) rfl rfl (Nat.le_of_ble_eq_true rfl) rfl ?_
  refine x_bipush (pc' := 8) rfl rfl bipush_m9 ?_
  refine x_istore_n (pc' := 9) (lv' := [(2, _), (1, _), (0, _)]) rfl rfl (Nat.le_of_ble_eq_true rfl) rfl ?_
  refine x_iconst (pc' := 10) rfl rfl iconst_0 ?_
  refine x_istore_n (pc' := 11) (lv' := [(3, _), (2, _), (1, _), (0, _)]) rfl rfl (Nat.le_of_ble_eq_true rfl) rfl ?_
  exact r_chO ho f M hA h (g_n (a_g A)) 0 f1 M1 (by omega) hM1 g1 s1 hF1
theorem r_frT {v w : Int32} {C : Nat} (hM : x_Mdl z f M) (hA : r_is M0 A) (ho : a_ok A) (hm : m_is M g) (hg : g_ok C g) (hly : g_ly (a_g A) g = a_g A) (hfr : m_fr M 7 (a_g A)) (hs : r_sc M0 M) (h : r_ends z f post (A, w)) : X E (x_rm 14 0 0) mX6_fair (x_QM E z 0 0 post) 67 [(2, .int v), (1, .int w), (0, .ref 59)] [] z f 0 0 := by
  refine x_aload_n (pc' := 68) rfl rfl rfl ?_
  refine x_bipush (pc' := 70) rfl rfl bipush_7 ?_
  refine x_cV1v (d := 1) (pc' := 73) rfl rfl sX6_160 gX6_lays (hM.1) ⟨Nat.le_of_ble_eq_true rfl, Nat.le_of_ble_eq_true rfl⟩ (Nat.le_of_ble_eq_true rfl) ⟨Nat.le_of_ble_eq_true rfl, Nat.le_of_ble_eq_true rfl⟩ ?_
  refine m_lays (l := 7) (g := a_g A) (g' := g) (by decide) hM hm hfr ho.1 hg (fun f3 M3 hM3 g3 y1 y2 y3 hF3 => ⟨rfl, ?_⟩)
  rw [hly] at g3
  refine x_iload_n (pc' := 74) rfl rfl rfl ?_
  exact x_ireturn rfl rfl rfl (Nat.le_of_ble_eq_true rfl) (Nat.le_of_ble_eq_true rfl) (h _ _ hM3 (hA.sc (hs.trans (m_ly.sc y1 y2)) g3) hF3)
theorem r_frI {v n : Nat} {w : Int32} (β0 : Nat → Nat) (hn : n ≤ 9) (f0 : x_H) (M0 : x_N) (h3 : M0.1 3 = nI n) (K : ∀ f' : x_H, x_Mdl z f' (M0.1, x_ua M0.2.1 1 (fun i => nI (if i < n then v else β0 i)), M0.2.2) → x_fr (fun q => q < 59) f0 f' → X E (x_rm 14 0 0) mX6_fair (x_QM E z 0 0 post) 46 [(3, .int (nI n)), (2, .int (nI v)), (1, .int w), (0, .ref 59)] [] z f' 0 0) : ∀ (m i : Nat) (f : x_H), i + m = n → x_Mdl z f (M0.1, x_ua M0.2.1 1 (fun j => nI (if j < i then v else β0 j)), M0.2.2) → x_fr (fun q => q < 59) f0 f → X E (x_rm 14 0 0) mX6_fair (x_QM E z 0 0 post) 25 [(3, .int (nI i)), (2, .int (nI v)), (1, .int w), (0, .ref 59)] [] z f 0 0 := by
  intro m
  induction m with
  | zero =>
    intro i f hi hM hF
    have hi2 : i = n := by omega
    subst hi2
    refine x_iload_n (pc' := 26) rfl rfl rfl ?_
    refine x_aload_n (pc' := 27) rfl rfl rfl ?_
    refine x_get (pc' := 30) rfl rfl rfl (hM.1) rfl ?_
    refine x_eqi h3 ?_
    refine x_icmp_ge (tgt := 46) (pc' := 33) rfl rfl rfl (fun _ => ?_) (fun c30 => absurd ((Int32.le_refl _)) c30)
    exact K _ hM hF
  | succ m ih =>
    intro i f hi hM hF
    have hcl : (nI i).toNatClampNeg = i := nI_clamp (by omega)
    refine x_iload_n (pc' := 26) rfl rfl rfl ?_
    refine x_aload_n (pc' := 27) rfl rfl rfl ?_
    refine x_get (pc' := 30) rfl rfl rfl (hM.1) rfl ?_
    refine x_eqi h3 ?_
    refine x_icmp_ge (tgt := 46) (pc' := 33) rfl rfl rfl (fun c30 => absurd c30 ((nI_ge (by omega) (by omega)))) (fun _ => ?_)
    refine x_aload_n (pc' := 34) rfl rfl rfl ?_
    refine x_get (pc' := 37) rfl rfl rfl (hM.1) rfl ?_
    refine x_iload_n (pc' := 38) rfl rfl rfl ?_
    refine x_iload_n (pc' := 39) rfl rfl rfl ?_
    refine x_iastore (pc' := 40) rfl rfl (hM.2.1 1 (by decide)) (vp_in_nI (n := i) (N := 9) (by omega) (by decide)) (fun f1 e1 => ?_)
    have hM1 := hM.arr 1 (by decide) e1
    have hF1 := hF.up e1 (by decide)
    refine x_iinc (pc' := 43) (lv' := [(3, _), (2, _), (1, _), (0, _)]) rfl rfl (Nat.le_of_ble_eq_true rfl) rfl (nI_1 i) rfl ?_
    refine x_goto (tgt := 25) rfl rfl ?_
    refine ih (i + 1) _ (by omega) ?_ hF1
    have e9 : x_ua (x_ua M0.2.1 1 (fun j => nI (if j < i then v else β0 j))) 1 (upd (fun j => nI (if j < i then v else β0 j)) (nI i).toNatClampNeg (nI v)) = x_ua M0.2.1 1 (fun j => nI (if j < i + 1 then v else β0 j)) := by
      rw [x_ua_ua, hcl]
      congr 1
      funext j
      unfold upd
      by_cases d : j = i
      · rw [if_pos d, if_pos (by omega)]
      · rw [if_neg d]
        show nI (if j < i then v else β0 j) = nI (if j < i + 1 then v else β0 j)
        by_cases d2 : j < i
        · rw [if_pos d2, if_pos (by omega)]
        · rw [if_neg d2, if_neg (by omega)]
    rw [← e9]
    exact hM1
theorem r_frO (ho : a_ok A) (f0 : x_H) (M0 : x_N) (hA : r_is M0 A) (r : Int32) (h : r_ends z f0 post (A, r)) : ∀ (m v : Nat) (β0 : Nat → Nat) (f : x_H) (M : x_N), v + m = 10 → 1 ≤ v → q_fr (fun v => q_wI 2 (g_fl (a_g A) v)) m v = r → x_Mdl z f M → m_is M (g_κ (a_g A), β0, (a_g A).2.2) → (∀ i, g_n (a_g A) ≤ i → β0 i = g_β (a_g A) i) → (∀ i, β0 i ≤ 99) → m_sk M0 M 0 → m_fr M 7 (a_g A) → x_fr (fun q => q < 59) f0 f → X E (x_rm 14 0 0) mX6_fair (x_QM E z 0 0 post) 11 [(2, .int (nI v)), (1, .int (-9)), (0, .ref 59)] [] z f 0 0 := by
  have hn9 := ho.1.1
  intro m
  induction m with
  | zero =>
    intro v β0 f M hv h1 hr hM hm hβ hβ9 hs hfr hF
    have hv2 : v = 10 := by omega
    subst hv2
    have hr2 : -9 = r := hr
    subst hr2
    have hok : g_ok 99 (g_κ (a_g A), β0, (a_g A).2.2) := ⟨ho.1.1, ho.1.2.1, ho.1.2.2.1, ho.1.2.2.2.1, ho.1.2.2.2.2.1, hβ9, ho.1.2.2.2.2.2.2.1, fun i hi => ⟨(ho.1.2.2.2.2.2.2.2.1 i hi).1, (hβ i (by omega)).trans (ho.1.2.2.2.2.2.2.2.1 i hi).2⟩, ho.1.2.2.2.2.2.2.2.2⟩
    refine x_iload_n (pc' := 12) rfl rfl rfl ?_
    refine x_bipush (pc' := 14) rfl rfl bipush_10 ?_
    refine x_icmp_ge (tgt := 67) (pc' := 17) rfl rfl rfl (fun _ => ?_) (fun c14 => absurd ((by decide : (10 : Int32) ≤ nI 10)) c14)
    exact r_frT hM hA ho hm hok rfl hfr hs.sc (fun f1 M1 hM1 hA1 hF1 => h f1 M1 hM1 hA1 (hF.trans hF1))
  | succ m ih =>
    intro v β0 f M hv h1 hr hM hm hβ hβ9 hs hfr hF
    replace hr : (if q_wI 2 (g_fl (a_g A) v) = 0 then nI v else q_fr (fun v => q_wI 2 (g_fl (a_g A) v)) m (v + 1)) = r := hr
    have hfl := g_fl_ok (v := v) ho.1 (by omega)
    have h18 : M.1 18 = 0 := (hs.2.2.1 18 (by decide) (by decide) (by decide) (by decide) (by decide) (by decide)).trans hA.2.2.1
    refine x_iload_n (pc' := 12) rfl rfl rfl ?_
    refine x_bipush (pc' := 14) rfl rfl bipush_10 ?_
    refine x_icmp_ge (tgt := 67) (pc' := 17) rfl rfl rfl (fun c14 => absurd c14 ((nI_ge (a := v) (b := 10) (by omega) (by decide)))) (fun _ => ?_)
    refine x_iload_n (pc' := 18) rfl rfl rfl ?_
    refine x_bipush (pc' := 20) rfl rfl bipush_m9 ?_
    refine x_icmp_ne (tgt := 67) (pc' := 23) rfl rfl rfl (fun c20 => absurd (rfl) c20) (fun _ => ?_)
    refine x_iconst (pc' := 24) rfl rfl iconst_0 ?_
    refine x_istore_n (pc' := 25) (lv' := [(3, _), (2, _), (1, _), (0, _)]) rfl rfl (Nat.le_of_ble_eq_true rfl) rfl ?_
    refine r_frI β0 hn9 f M hm.2.2.2.1 (fun f1 hM1 hF1 => ?_) (g_n (a_g A)) 0 f (by omega) ?_ x_fr.rf
    · have e9 : (fun i => nI (if i < g_n (a_g A) then v else β0 i)) = fun i => nI (g_β (g_fl (a_g A) v) i) := by
        funext i
        show nI (if i < g_n (a_g A) then v else β0 i) = nI (if i < g_n (a_g A) then v else g_β (a_g A) i)
        by_cases d : i < g_n (a_g A)
        · rw [if_pos d, if_pos d]
        · rw [if_neg d, if_neg d, hβ i (by omega)]
      rw [e9] at hM1
      have g1 : m_is (M.1, x_ua M.2.1 1 (fun i => nI (g_β (g_fl (a_g A) v) i)), M.2.2) (g_fl (a_g A) v) := ⟨hm.1, rfl, hm.2.2.1, hm.2.2.2.1, hm.2.2.2.2.1, hm.2.2.2.2.2.1, hm.2.2.2.2.2.2⟩
      have s1 : m_sk M0 (M.1, x_ua M.2.1 1 (fun i => nI (g_β (g_fl (a_g A) v) i)), M.2.2) 0 := ⟨fun j a b c => (if_neg a).trans (hs.1 j a b c), hs.2.1, hs.2.2.1, hs.2.2.2⟩
      have fr1 : m_fr (M.1, x_ua M.2.1 1 (fun i => nI (g_β (g_fl (a_g A) v) i)), M.2.2) 7 (a_g A) := hfr
      refine x_aload_n (pc' := 47) rfl rfl rfl ?_
      refine x_iconst (pc' := 48) rfl rfl iconst_2 ?_
      refine x_cV1i (d := 10) (pc' := 51) rfl rfl sX6_183 gX6_worthOf (hM1.1) ⟨Nat.le_of_ble_eq_true rfl, Nat.le_of_ble_eq_true rfl⟩ (Nat.le_of_ble_eq_true rfl) ⟨Nat.le_of_ble_eq_true rfl, Nat.le_of_ble_eq_true rfl⟩ ?_
      refine m_worthOf (n := 2) (C := 99) (by decide) (by decide) (by decide) hM1 g1 hfl h18 (fun f2 M2 hM2 g2 k2 hF2 => ⟨_, rfl, ?_⟩)
      have s2 : m_sk M0 M2 0 := s1.trans k2 (Nat.le_refl 0)
      have fr2 : m_fr M2 7 (a_g A) := k2.fr (by omega) fr1
      have hF12 := (hF.trans hF1).trans hF2
      by_cases d : q_wI 2 (g_fl (a_g A) v) = 0
      · rw [if_pos d] at hr
        subst hr
        refine x_if_ne (tgt := 58) (pc' := 54) rfl rfl rfl (fun q => absurd d q) (fun _ => ?_)
        refine x_iload_n (pc' := 55) rfl rfl rfl ?_
        refine x_goto (tgt := 60) rfl rfl ?_
        refine x_istore_n (pc' := 61) (lv' := [(1, _), (3, _), (2, _), (0, _)]) rfl rfl (Nat.le_of_ble_eq_true rfl) rfl ?_
        refine x_iinc (pc' := 64) (lv' := [(2, _), (1, _), (3, _), (0, _)]) rfl rfl (Nat.le_of_ble_eq_true rfl) rfl (nI_1 v) rfl ?_
        refine x_goto (tgt := 11) rfl rfl ?_
        by_cases d9 : v = 9
        · subst d9
          refine x_iload_n (pc' := 12) rfl rfl rfl ?_
          refine x_bipush (pc' := 14) rfl rfl bipush_10 ?_
          refine x_icmp_ge (tgt := 67) (pc' := 17) rfl rfl rfl (fun _ => ?_) (fun c14 => absurd ((by decide : (10 : Int32) ≤ nI (9 + 1))) c14)
          refine x_lvp [0, 1, 3] rfl ?_
          exact r_frT hM2 hA ho g2 hfl rfl fr2 s2.sc (fun f3 M3 hM3 hA3 hF3 => h f3 M3 hM3 hA3 (hF12.trans hF3))
        · refine x_iload_n (pc' := 12) rfl rfl rfl ?_
          refine x_bipush (pc' := 14) rfl rfl bipush_10 ?_
          refine x_icmp_ge (tgt := 67) (pc' := 17) rfl rfl rfl (fun c14 => absurd c14 ((nI_ge (a := v + 1) (b := 10) (by omega) (by decide)))) (fun _ => ?_)
          refine x_iload_n (pc' := 18) rfl rfl rfl ?_
          refine x_bipush (pc' := 20) rfl rfl bipush_m9 ?_
          refine x_icmp_ne (tgt := 67) (pc' := 23) rfl rfl rfl (fun _ => ?_) (fun c20 => absurd c20 ((fun q => by have h2 := nI_pos (n := v) (by omega); rw [q] at h2; exact h2 (by decide))))
          refine x_lvp [0, 1, 3] rfl ?_
          exact r_frT hM2 hA ho g2 hfl rfl fr2 s2.sc (fun f3 M3 hM3 hA3 hF3 => h f3 M3 hM3 hA3 (hF12.trans hF3))
      · rw [if_neg d] at hr
        refine x_if_ne (tgt := 58) (pc' := 54) rfl rfl rfl (fun _ => ?_) (fun q => absurd q d)
        refine x_bipush (pc' := 60) rfl rfl bipush_m9 ?_
        refine x_istore_n (pc' := 61) (lv' := [(1, _), (3, _), (2, _), (0, _)]) rfl rfl (Nat.le_of_ble_eq_true rfl) rfl ?_
        refine x_iinc (pc' := 64) (lv' := [(2, _), (1, _), (3, _), (0, _)]) rfl rfl (Nat.le_of_ble_eq_true rfl) rfl (nI_1 v) rfl ?_
        refine x_goto (tgt := 11) rfl rfl ?_
        refine x_lvp [0, 1, 3] rfl ?_
        exact ih (v + 1) (g_β (g_fl (a_g A) v)) f2 M2 (by omega) (by omega) hr hM2 g2 (fun i hi => if_neg (by omega)) (fun i => hfl.2.2.2.2.2.1 i) s2 fr2 hF12
    · have e9 : (fun j => nI (if j < 0 then v else β0 j)) = M.2.1 1 := by
        rw [hm.2.1]
        funext j
        rw [if_neg (Nat.not_lt_zero j)]
      rw [e9, x_ua_id]
      exact hM
theorem r_fair (hM : x_Mdl z f M) (hA : r_is M A) (ho : a_ok A) (h : r_ends z f post (A, q_fr (fun v => q_wI 2 (g_fl (a_g A) v)) 9 1)) : Y E 14 mX6_fair [.ref 59] z f 0 0 post := by
  refine Y.intro gX6_fair (lv := [(0, .ref 59)]) rfl (Nat.le_of_ble_eq_true rfl) ?_
  refine x_aload_n (pc' := 1) rfl rfl rfl ?_
  refine x_bipush (pc' := 3) rfl rfl bipush_7 ?_
  refine x_cV1v (d := 1) (pc' := 6) rfl rfl sX6_154 gX6_keeps (hM.1) ⟨Nat.le_of_ble_eq_true rfl, Nat.le_of_ble_eq_true rfl⟩ (Nat.le_of_ble_eq_true rfl) ⟨Nat.le_of_ble_eq_true rfl, Nat.le_of_ble_eq_true rfl⟩ ?_
  refine m_keeps (l := 7) (by decide) hM hA.1 (fun f1 M1 hM1 g1 k1 fr1 hF1 => ⟨rfl, ?_⟩)
  refine x_bipush (pc' := 8) rfl rfl bipush_m9 ?_
  refine x_istore_n (pc' := 9) (lv' := [(1, _), (0, _)]) rfl rfl (Nat.le_of_ble_eq_true rfl) rfl ?_
  refine x_iconst (pc' := 10) rfl rfl iconst_1 ?_
  refine x_istore_n (pc' := 11) (lv' := [(2, _), (1, _), (0, _)]) rfl rfl (Nat.le_of_ble_eq_true rfl) rfl ?_
  exact r_frO ho f M1 (hA.sc k1.sc g1) _ h 9 1 (g_β (a_g A)) f1 M1 (by decide) (by decide) rfl hM1 g1 (fun _ _ => rfl) ho.1.2.2.2.2.2.1 m_sk.rf fr1 hF1
-- a bowl emptied
theorem m_emL {w k l : Nat} (hw : w < 9) (hl : l + k + 1 ≤ 5) (hg : g_ok 99 g)
    (IH : ∀ (g : q_G) (f : x_H) (M : x_N) (post : Option Value → x_H → Prop), x_Mdl z f M → m_is M g → g_ok 99 g → M.1 18 = 0 → (∀ (f' : x_H) (M' : x_N), x_Mdl z f' M' → m_is M' g → m_sk M M' (l + 1) → M'.1 22 = (if q_em w k g = true then q_ef w k g (M.1 22) else M.1 22) → x_fr (fun q => q < 59) f f' → post (some (.int (if q_em w k g = true then 1 else 0))) f') → Y E (k + 5) mX6_isEmptied [.ref 59, .int (nI w), .int (nI k), .int (nI (l + 1))] z f 0 0 post)
    (f0 : x_H) (M0 : x_N) (h18 : M0.1 18 = 0) (R : Option Nat)
    (h1 : ∀ v, R = some v → ∀ (f' : x_H) (M' : x_N), x_Mdl z f' M' → m_is M' g → m_sk M0 M' l → M'.1 22 = nI v → x_fr (fun q => q < 59) f0 f' → post (some (.int 1)) f')
    (h0 : R = none → ∀ (f' : x_H) (M' : x_N), x_Mdl z f' M' → m_is M' g → m_sk M0 M' l → M'.1 22 = M0.1 22 → x_fr (fun q => q < 59) f0 f' → post (some (.int 0)) f') :
    ∀ (m b : Nat) (f : x_H) (M : x_N), b + m = g_n g → q_fo (q_ec w k g) m b = R → x_Mdl z f M → m_is M g → m_sk M0 M l → M.1 22 = M0.1 22 → m_fr M l g → x_fr (fun q => q < 59) f0 f → X E (x_rm (k + 6) 0 0) mX6_isEmptied (x_QM E z 0 0 post) 25 [(4, .int (nI b)), (0, .ref 59), (1, .int (nI w)), (2, .int (nI (k + 1))), (3, .int (nI l))] [] z f 0 0 := by
  have hn9 := hg.1
  intro m
  induction m with
  | zero =>
    intro b f M hb hR hM hm hs h22 hfr hF
    have hb2 : b = g_n g := by omega
    subst hb2
    have hR2 : R = none := hR.symm
    refine x_iload (pc' := 27) rfl rfl rfl ?_
    refine x_aload_n (pc' := 28) rfl rfl rfl ?_
    refine x_get (pc' := 31) rfl rfl rfl (hM.1) rfl ?_
    refine x_eqi hm.2.2.2.1 ?_
    refine x_icmp_ge (tgt := 86) (pc' := 34) rfl rfl rfl (fun _ => ?_) (fun c31 => absurd ((Int32.le_refl _)) c31)
    refine x_iconst (pc' := 87) rfl rfl iconst_0 ?_
    exact x_ireturn rfl rfl rfl (Nat.le_of_ble_eq_true rfl) (Nat.le_of_ble_eq_true rfl) (h0 hR2 _ _ hM hm hs h22 hF)
  | succ m ih =>
    intro b f M hb hR hM hm hs h22 hfr hF
    replace hR : (if (decide (g_can g b) && q_em w k (g_mv g b)) = true then some b else q_fo (q_ec w k g) m (b + 1)) = R := hR
    have h18' : M.1 18 = 0 := (hs.2.2.1 18 (by decide) (by decide) (by decide) (by decide) (by decide) (by decide)).trans h18
    refine x_iload (pc' := 27) rfl rfl rfl ?_
    refine x_aload_n (pc' := 28) rfl rfl rfl ?_
    refine x_get (pc' := 31) rfl rfl rfl (hM.1) rfl ?_
    refine x_eqi hm.2.2.2.1 ?_
    refine x_icmp_ge (tgt := 86) (pc' := 34) rfl rfl rfl (fun c31 => absurd c31 ((nI_ge (by omega) (by omega)))) (fun _ => ?_)
    refine x_aload_n (pc' := 35) rfl rfl rfl ?_
    refine x_iload (pc' := 37) rfl rfl rfl ?_
    refine x_cV1i (d := 3) (pc' := 40) rfl rfl sX6_135 gX6_canMove (hM.1) (x_room (by omega) (Nat.le_of_ble_eq_true rfl)) (Nat.le_of_ble_eq_true rfl) ⟨Nat.le_of_ble_eq_true rfl, Nat.le_of_ble_eq_true rfl⟩ ?_
    refine m_can1 hM hm hg (by decide) (by omega) (fun d2 => ⟨_, rfl, ?_⟩) (fun d2 => ⟨_, rfl, ?_⟩)
    · rw [decide_eq_true d2, Bool.true_and] at hR
      refine x_if_eq (tgt := 80) (pc' := 43) rfl rfl rfl (fun c40 => absurd c40 ((by decide))) (fun _ => ?_)
      refine x_aload_n (pc' := 44) rfl rfl rfl ?_
      refine x_iload (pc' := 46) rfl rfl rfl ?_
      refine x_cV1v (d := 4) (pc' := 49) rfl rfl sX6_141 gX6_moves (hM.1) (x_room (by omega) (Nat.le_of_ble_eq_true rfl)) (Nat.le_of_ble_eq_true rfl) ⟨Nat.le_of_ble_eq_true rfl, Nat.le_of_ble_eq_true rfl⟩ ?_
      refine m_mv hM hm hg (by decide) d2 h18' (fun f1 M1 hM1 g1 k1 e14 e15 e16 e17 hF1 => ⟨rfl, ?_⟩)
      have ok1 := g_mv_ok hg (by decide) (by decide) d2.2.1
      have h181 : M1.1 18 = 0 := k1.no18.trans h18'
      refine x_aload_n (pc' := 50) rfl rfl rfl ?_
      refine x_iload_n (pc' := 51) rfl rfl rfl ?_
      refine x_iload_n (pc' := 52) rfl rfl rfl ?_
      refine x_iconst (pc' := 53) rfl rfl iconst_1 ?_
      refine x_isub (pc' := 54) rfl rfl ?_
      refine x_eqi (nI_pred k) ?_
      refine x_iload_n (pc' := 55) rfl rfl rfl ?_
      refine x_iconst (pc' := 56) rfl rfl iconst_1 ?_
      refine x_iadd (pc' := 57) rfl rfl ?_
      refine x_eqi (nI_1 l) ?_
      refine x_cV3i (d := (k + 5)) (pc' := 60) rfl rfl sX6_196 gX6_isEmptied (hM1.1) (x_room (by omega) (Nat.le_of_ble_eq_true rfl)) (Nat.le_of_ble_eq_true rfl) ⟨Nat.le_of_ble_eq_true rfl, Nat.le_of_ble_eq_true rfl⟩ ?_
      refine IH (g_mv g b) f1 M1 _ hM1 g1 ok1 h181 (fun f2 M2 hM2 g2 s2 e22 hF2 => ⟨_, rfl, ?_⟩)
      have fr2 : m_fr M2 l g := s2.fr (by omega) (hfr.eq (k1.1 6 (by decide) (by decide)))
      refine x_istore (pc' := 62) (lv' := [(5, _), (4, _), (0, _), (1, _), (2, _), (3, _)]) rfl rfl (Nat.le_of_ble_eq_true rfl) rfl ?_
      refine x_aload_n (pc' := 63) rfl rfl rfl ?_
      refine x_iload_n (pc' := 64) rfl rfl rfl ?_
      refine x_cV1v (d := 1) (pc' := 67) rfl rfl sX6_160 gX6_lays (hM2.1) (x_room (by omega) (Nat.le_of_ble_eq_true rfl)) (Nat.le_of_ble_eq_true rfl) ⟨Nat.le_of_ble_eq_true rfl, Nat.le_of_ble_eq_true rfl⟩ ?_
      refine m_lays (l := l) (g := g) (g' := g_mv g b) (by omega) hM2 g2 fr2 hg ok1 (fun f3 M3 hM3 g3 y1 y2 y3 hF3 => ⟨rfl, ?_⟩)
      have hs3 : m_sk M0 M3 l := ((hs.trans (k1.sk l) (Nat.le_refl l)).trans s2 (by omega)).trans ((m_ly.kp y1 y2 y3).sk l) (Nat.le_refl l)
      have hF13 := ((hF.trans hF1).trans hF2).trans hF3
      have hfr3 : m_fr M3 l g := fr2.eq (y2 6 (by decide) (by decide))
      have e221 : M1.1 22 = M.1 22 := k1.2.2 22 (by decide) (by decide) (by decide) (by decide) (by decide)
      refine x_iload (pc' := 69) rfl rfl rfl ?_
      by_cases d3 : q_em w k (g_mv g b) = true
      · rw [if_pos d3] at hR
        rw [if_pos d3]
        refine x_if_eq (tgt := 80) (pc' := 72) rfl rfl rfl (fun q => absurd q (by decide)) (fun _ => ?_)
        refine x_aload_n (pc' := 73) rfl rfl rfl ?_
        refine x_iload (pc' := 75) rfl rfl rfl ?_
        refine x_put (pc' := 78) rfl rfl rfl (hM3.1) (Nat.le_of_ble_eq_true rfl) rfl rfl rfl rfl (fun f1 e1 => ?_)
        have hM4 := hM3.num 22 e1 (x_mFs22 _ _)
        have hF4 := hF13.trans (r_fr0 e1 (by decide))
        refine x_iconst (pc' := 79) rfl rfl iconst_1 ?_
        exact x_ireturn rfl rfl rfl (Nat.le_of_ble_eq_true rfl) (Nat.le_of_ble_eq_true rfl) (h1 b hR.symm _ _ hM4 ⟨g3.1, g3.2.1, g3.2.2.1, g3.2.2.2.1, g3.2.2.2.2.1, g3.2.2.2.2.2.1, g3.2.2.2.2.2.2⟩ (hs3.trans (m_sk.num l (Or.inr rfl)) (Nat.le_refl l)) rfl hF4)
      · rw [if_neg d3] at hR e22
        rw [if_neg d3]
        refine x_if_eq (tgt := 80) (pc' := 72) rfl rfl rfl (fun _ => ?_) (fun q => absurd rfl q)
        refine x_iinc (pc' := 83) (lv' := [(4, _), (5, _), (0, _), (1, _), (2, _), (3, _)]) rfl rfl (Nat.le_of_ble_eq_true rfl) rfl (nI_1 b) rfl ?_
        refine x_goto (tgt := 25) rfl rfl ?_
        refine x_lvp [0, 2, 3, 4, 5] rfl ?_
        exact ih (b + 1) f3 M3 (by omega) hR hM3 g3 hs3 ((y1 22 (by decide)).trans (e22.trans (e221.trans h22))) hfr3 hF13
    · rw [decide_eq_false d2, Bool.false_and, if_neg (by decide)] at hR
      refine x_if_eq (tgt := 80) (pc' := 43) rfl rfl rfl (fun _ => ?_) (fun c40 => absurd (rfl) c40)
      refine x_iinc (pc' := 83) (lv' := [(4, _), (0, _), (1, _), (2, _), (3, _)]) rfl rfl (Nat.le_of_ble_eq_true rfl) rfl (nI_1 b) rfl ?_
      refine x_goto (tgt := 25) rfl rfl ?_
      exact ih (b + 1) f M (by omega) hR hM hm hs h22 hfr hF
theorem m_em {w : Nat} (hw : w < 9) : ∀ (k l : Nat) (g : q_G) (f : x_H) (M : x_N) (post : Option Value → x_H → Prop), l + k ≤ 5 → x_Mdl z f M → m_is M g → g_ok 99 g → M.1 18 = 0 → (∀ (f' : x_H) (M' : x_N), x_Mdl z f' M' → m_is M' g → m_sk M M' l → M'.1 22 = (if q_em w k g = true then q_ef w k g (M.1 22) else M.1 22) → x_fr (fun q => q < 59) f f' → post (some (.int (if q_em w k g = true then 1 else 0))) f') → Y E (k + 5) mX6_isEmptied [.ref 59, .int (nI w), .int (nI k), .int (nI l)] z f 0 0 post := by
  intro k
  induction k with
  | zero =>
    intro l g f M post hl hM hm hg h18 h
    refine Y.intro gX6_isEmptied (lv := [(0, .ref 59), (1, .int (nI w)), (2, .int (nI 0)), (3, .int (nI l))]) rfl (Nat.le_of_ble_eq_true rfl) ?_
    have e0 : M.2.1 1 (nI w).toNatClampNeg = nI (g_β g w) := by rw [nI_clamp (by omega), hm.2.1]
    have hβ := hg.2.2.2.2.2.1 w
    have eq1 : q_em w 0 g = decide (g_β g w = 0) := rfl
    rw [eq1] at h
    by_cases d : g_β g w = 0
    · rw [decide_eq_true d] at h
      refine x_aload_n (pc' := 1) rfl rfl rfl ?_
      refine x_get (pc' := 4) rfl rfl rfl (hM.1) rfl ?_
      refine x_iload_n (pc' := 5) rfl rfl rfl ?_
      refine x_iaload (pc' := 6) rfl rfl (hM.2.1 1 (by decide)) (vp_in_nI (n := w) (N := 9) (by omega) (by decide)) ?_
      refine x_eqi (e0.trans (congrArg nI d)) ?_
      refine x_if_ne (tgt := 11) (pc' := 9) rfl rfl rfl (fun c6 => absurd (rfl) c6) (fun _ => ?_)
      refine x_iconst (pc' := 10) rfl rfl iconst_1 ?_
      exact x_ireturn rfl rfl rfl (Nat.le_of_ble_eq_true rfl) (Nat.le_of_ble_eq_true rfl) (h _ _ hM hm m_sk.rf rfl x_fr.rf)
    · rw [decide_eq_false d] at h
      refine x_aload_n (pc' := 1) rfl rfl rfl ?_
      refine x_get (pc' := 4) rfl rfl rfl (hM.1) rfl ?_
      refine x_iload_n (pc' := 5) rfl rfl rfl ?_
      refine x_iaload (pc' := 6) rfl rfl (hM.2.1 1 (by decide)) (vp_in_nI (n := w) (N := 9) (by omega) (by decide)) ?_
      refine x_eqi e0 ?_
      refine x_if_ne (tgt := 11) (pc' := 9) rfl rfl rfl (fun _ => ?_) (fun c6 => absurd c6 ((nI_ne0 (by omega) (by omega))))
      refine x_iload_n (pc' := 12) rfl rfl rfl ?_
      refine x_if_ne (tgt := 17) (pc' := 15) rfl rfl rfl (fun c12 => absurd (rfl) c12) (fun _ => ?_)
      refine x_iconst (pc' := 16) rfl rfl iconst_0 ?_
      exact x_ireturn rfl rfl rfl (Nat.le_of_ble_eq_true rfl) (Nat.le_of_ble_eq_true rfl) (h _ _ hM hm m_sk.rf rfl x_fr.rf)
  | succ k IH =>
    intro l g f M post hl hM hm hg h18 h
    refine Y.intro gX6_isEmptied (lv := [(0, .ref 59), (1, .int (nI w)), (2, .int (nI (k + 1))), (3, .int (nI l))]) rfl (Nat.le_of_ble_eq_true rfl) ?_
    have e0 : M.2.1 1 (nI w).toNatClampNeg = nI (g_β g w) := by rw [nI_clamp (by omega), hm.2.1]
    have hβ := hg.2.2.2.2.2.1 w
    have eq1 : q_em w (k + 1) g = (decide (g_β g w = 0) || (q_fo (q_ec w k g) (g_n g) 0).isSome) := rfl
    have eq2 : ∀ fo, q_ef w (k + 1) g fo = if g_β g w = 0 then fo else (match q_fo (q_ec w k g) (g_n g) 0 with | some b => nI b | none => fo) := fun _ => rfl
    rw [eq1, eq2] at h
    by_cases d : g_β g w = 0
    · rw [decide_eq_true d, if_pos d] at h
      refine x_aload_n (pc' := 1) rfl rfl rfl ?_
      refine x_get (pc' := 4) rfl rfl rfl (hM.1) rfl ?_
      refine x_iload_n (pc' := 5) rfl rfl rfl ?_
      refine x_iaload (pc' := 6) rfl rfl (hM.2.1 1 (by decide)) (vp_in_nI (n := w) (N := 9) (by omega) (by decide)) ?_
      refine x_eqi (e0.trans (congrArg nI d)) ?_
      refine x_if_ne (tgt := 11) (pc' := 9) rfl rfl rfl (fun c6 => absurd (rfl) c6) (fun _ => ?_)
      refine x_iconst (pc' := 10) rfl rfl iconst_1 ?_
      exact x_ireturn rfl rfl rfl (Nat.le_of_ble_eq_true rfl) (Nat.le_of_ble_eq_true rfl) (h _ _ hM hm m_sk.rf rfl x_fr.rf)
    · rw [decide_eq_false d, if_neg d] at h
      refine x_aload_n (pc' := 1) rfl rfl rfl ?_
      refine x_get (pc' := 4) rfl rfl rfl (hM.1) rfl ?_
      refine x_iload_n (pc' := 5) rfl rfl rfl ?_
      refine x_iaload (pc' := 6) rfl rfl (hM.2.1 1 (by decide)) (vp_in_nI (n := w) (N := 9) (by omega) (by decide)) ?_
      refine x_eqi e0 ?_
      refine x_if_ne (tgt := 11) (pc' := 9) rfl rfl rfl (fun _ => ?_) (fun c6 => absurd c6 ((nI_ne0 (by omega) (by omega))))
      refine x_iload_n (pc' := 12) rfl rfl rfl ?_
      refine x_if_ne (tgt := 17) (pc' := 15) rfl rfl rfl (fun _ => ?_) (fun c12 => absurd c12 ((nI_ne0 (by omega) (by omega))))
      refine x_aload_n (pc' := 18) rfl rfl rfl ?_
      refine x_iload_n (pc' := 19) rfl rfl rfl ?_
      refine x_cV1v (d := 1) (pc' := 22) rfl rfl sX6_154 gX6_keeps (hM.1) (x_room (by omega) (Nat.le_of_ble_eq_true rfl)) (Nat.le_of_ble_eq_true rfl) ⟨Nat.le_of_ble_eq_true rfl, Nat.le_of_ble_eq_true rfl⟩ ?_
      refine m_keeps (l := l) (by omega) hM hm (fun f1 M1 hM1 g1 k1 fr1 hF1 => ⟨rfl, ?_⟩)
      refine x_iconst (pc' := 23) rfl rfl iconst_0 ?_
      refine x_istore (pc' := 25) (lv' := [(4, _), (0, _), (1, _), (2, _), (3, _)]) rfl rfl (Nat.le_of_ble_eq_true rfl) rfl ?_
      refine m_emL (l := l) hw (by omega) hg (fun g f M post a1 a2 a3 a4 a5 => IH (l + 1) g f M post (by omega) a1 a2 a3 a4 a5) f M h18 (q_fo (q_ec w k g) (g_n g) 0) (fun v e f2 M2 hM2 g2 s2 e22 hF2 => ?_) (fun e f2 M2 hM2 g2 s2 e22 hF2 => ?_) (g_n g) 0 f1 M1 (by omega) rfl hM1 g1 (k1.sk (by omega)) (by rw [k1.1]) fr1 hF1
      · rw [e] at h
        exact h _ _ hM2 g2 s2 e22 hF2
      · rw [e] at h
        exact h _ _ hM2 g2 s2 e22 hF2
def s_teR (A : q_A) (a b : Int32) : q_A × Int32 := if q_in (g_n (a_g A)) a then (if b < 0 ∨ 1 < b then (s_no A 2, -2) else (A, q_te a.toNatClampNeg (a_g A) b 6 0)) else (s_no A 1, -1)
theorem r_teL {w : Nat} {b : Int32} (hw : w < g_n (a_g A)) (ho : a_ok A) (f0 : x_H) (M0 : x_N) (hA : r_is M0 A) (r : Int32) (h : r_ends z f0 post (A, r)) : ∀ (m n : Nat) (f : x_H) (M : x_N), n + m = 6 → q_te w (a_g A) b m n = r → x_Mdl z f M → m_is M (a_g A) → m_sk M0 M 0 → x_fr (fun q => q < 59) f0 f → X E (x_rm 12 0 0) mX6_toEmpty (x_QM E z 0 0 post) 33 [(3, .int (nI n)), (0, .ref 59), (1, .int (nI w)), (2, .int b)] [] z f 0 0 := by
  have hn9 := ho.1.1
  intro m
  induction m with
  | zero =>
    intro n f M hn hr hM hm hs hF
    have hn2 : n = 6 := by omega
    subst hn2
    have hr2 : -9 = r := hr
    subst hr2
    refine x_iload_n (pc' := 34) rfl rfl rfl ?_
    refine x_bipush (pc' := 36) rfl rfl bipush_6 ?_
    refine x_icmp_ge (tgt := 74) (pc' := 39) rfl rfl rfl (fun _ => ?_) (fun c36 => absurd ((by decide : (6 : Int32) ≤ nI 6)) c36)
    refine x_bipush (pc' := 76) rfl rfl bipush_m9 ?_
    exact x_ireturn rfl rfl rfl (Nat.le_of_ble_eq_true rfl) (Nat.le_of_ble_eq_true rfl) (h _ _ hM (hA.sc hs.sc hm) hF)
  | succ m ih =>
    intro n f M hn hr hM hm hs hF
    replace hr : (if q_em w n (a_g A) = true then (if b = 0 then nI n else q_ef w n (a_g A) (-9)) else q_te w (a_g A) b m (n + 1)) = r := hr
    have h18 : M.1 18 = 0 := hs.n18.trans hA.2.2.1
    refine x_iload_n (pc' := 34) rfl rfl rfl ?_
    refine x_bipush (pc' := 36) rfl rfl bipush_6 ?_
    refine x_icmp_ge (tgt := 74) (pc' := 39) rfl rfl rfl (fun c36 => absurd c36 ((nI_ge (a := n) (b := 6) (by omega) (by decide)))) (fun _ => ?_)
    refine x_aload_n (pc' := 40) rfl rfl rfl ?_
    refine x_bipush (pc' := 42) rfl rfl bipush_m9 ?_
    refine x_put (pc' := 45) rfl rfl rfl (hM.1) (Nat.le_of_ble_eq_true rfl) rfl rfl rfl rfl (fun f1 e1 => ?_)
    have hM1 := hM.num 22 e1 (x_mFs22 _ _)
    have hF1 := hF.trans (r_fr0 e1 (by decide))
    have g1 : m_is (upd M.1 22 (-9), M.2.1, M.2.2) (a_g A) := ⟨hm.1, hm.2.1, hm.2.2.1, hm.2.2.2.1, hm.2.2.2.2.1, hm.2.2.2.2.2.1, hm.2.2.2.2.2.2⟩
    refine x_aload_n (pc' := 46) rfl rfl rfl ?_
    refine x_iload_n (pc' := 47) rfl rfl rfl ?_
    refine x_iload_n (pc' := 48) rfl rfl rfl ?_
    refine x_iconst (pc' := 49) rfl rfl iconst_0 ?_
    refine x_cV3i (d := (n + 5)) (pc' := 52) rfl rfl sX6_196 gX6_isEmptied (hM1.1) (x_room (by omega) (Nat.le_of_ble_eq_true rfl)) (Nat.le_of_ble_eq_true rfl) ⟨Nat.le_of_ble_eq_true rfl, Nat.le_of_ble_eq_true rfl⟩ ?_
    refine m_em (w := w) (by omega) n 0 (a_g A) _ _ _ (by omega) hM1 g1 ho.1 h18 (fun f2 M2 hM2 g2 s2 e22 hF2 => ⟨_, rfl, ?_⟩)
    have hs2 : m_sk M0 M2 0 := (hs.trans (m_sk.num 0 (Or.inr rfl)) (Nat.le_refl 0)).trans s2 (Nat.le_refl 0)
    have hF12 := hF1.trans hF2
    by_cases d : q_em w n (a_g A) = true
    · rw [if_pos d] at hr e22
      rw [if_pos d]
      refine x_if_eq (tgt := 68) (pc' := 55) rfl rfl rfl (fun q => absurd q (by decide)) (fun _ => ?_)
      refine x_iload_n (pc' := 56) rfl rfl rfl ?_
      refine x_if_ne (tgt := 63) (pc' := 59) rfl rfl rfl (fun c56 => ?_) (fun c56 => ?_)
      · rw [if_neg c56] at hr
        refine x_aload_n (pc' := 64) rfl rfl rfl ?_
        refine x_get (pc' := 67) rfl rfl rfl (hM2.1) rfl ?_
        refine x_eqi (show M2.1 22 = r from e22.trans hr) ?_
        exact x_ireturn rfl rfl rfl (Nat.le_of_ble_eq_true rfl) (Nat.le_of_ble_eq_true rfl) (h _ _ hM2 (hA.sc hs2.sc g2) hF12)
      · rw [if_pos c56] at hr
        refine x_iload_n (pc' := 60) rfl rfl rfl ?_
        refine x_goto (tgt := 67) rfl rfl ?_
        exact x_ireturn rfl rfl rfl (Nat.le_of_ble_eq_true rfl) (Nat.le_of_ble_eq_true rfl) ((by rw [hr]; exact h _ _ hM2 (hA.sc hs2.sc g2) hF12))
    · rw [if_neg d] at hr
      rw [if_neg d]
      refine x_if_eq (tgt := 68) (pc' := 55) rfl rfl rfl (fun _ => ?_) (fun q => absurd rfl q)
      refine x_iinc (pc' := 71) (lv' := [(3, _), (0, _), (1, _), (2, _)]) rfl rfl (Nat.le_of_ble_eq_true rfl) rfl (nI_1 n) rfl ?_
      refine x_goto (tgt := 33) rfl rfl ?_
      exact ih (n + 1) f2 M2 (by omega) hr hM2 g2 hs2 hF12
theorem r_toEmpty (hM : x_Mdl z f M) (hA : r_is M A) (ho : a_ok A) (h : r_ends z f post (s_teR A a b)) : Y E 12 mX6_toEmpty [.ref 59, .int a, .int b] z f 0 0 post := by
  refine Y.intro gX6_toEmpty (lv := [(0, .ref 59), (1, .int a), (2, .int b)]) rfl (Nat.le_of_ble_eq_true rfl) ?_
  obtain ⟨b1, b2, b3, b4, b5, b6, b7, b8, b9⟩ := id hA
  refine x_aload_n (pc' := 1) rfl rfl rfl ?_
  refine x_iload_n (pc' := 2) rfl rfl rfl ?_
  refine x_cV1i (d := 2) (pc' := 5) rfl rfl sX6_103 gX6_isBowl (hM.1) ⟨Nat.le_of_ble_eq_true rfl, Nat.le_of_ble_eq_true rfl⟩ (Nat.le_of_ble_eq_true rfl) ⟨Nat.le_of_ble_eq_true rfl, Nat.le_of_ble_eq_true rfl⟩ ?_
  refine r_bowl hM hA ho (fun d1 => ⟨_, rfl, ?_⟩) (fun d1 => ⟨_, rfl, ?_⟩)
  · rw [show s_teR A a b = _ from if_pos d1] at h
    refine x_if_ne (tgt := 14) (pc' := 8) rfl rfl rfl (fun _ => ?_) (fun c5 => absurd c5 ((by decide)))
    refine x_iload_n (pc' := 15) rfl rfl rfl ?_
    refine x_i2l (pc' := 16) rfl rfl ?_
    refine x_lconst (pc' := 17) rfl rfl lconst_0 ?_
    refine x_lconst (pc' := 18) rfl rfl lconst_1 ?_
    refine x_cS3i (d := 1) (pc' := 21) rfl rfl sX6_63 gX6_in ⟨Nat.le_of_ble_eq_true rfl, Nat.le_of_ble_eq_true rfl⟩ (Nat.le_of_ble_eq_true rfl) ⟨Nat.le_of_ble_eq_true rfl, Nat.le_of_ble_eq_true rfl⟩ ?_
    refine r_in (a := b) (lo := 0) (hi := 1) (by decide) (by decide) (fun d2 => ⟨_, rfl, ?_⟩) (fun d2 => ⟨_, rfl, ?_⟩)
    · rw [if_neg d2] at h
      obtain ⟨k, hk, hk2, rfl, hcl⟩ := q_in_k d1
      rw [hcl] at h
      refine x_if_ne (tgt := 31) (pc' := 24) rfl rfl rfl (fun _ => ?_) (fun c21 => absurd c21 ((by decide)))
      refine x_iconst (pc' := 32) rfl rfl iconst_0 ?_
      refine x_istore_n (pc' := 33) (lv' := [(3, _), (0, _), (1, _), (2, _)]) rfl rfl (Nat.le_of_ble_eq_true rfl) rfl ?_
      exact r_teL hk ho f M hA _ h 6 0 f M (by decide) rfl hM b1 m_sk.rf x_fr.rf
    · rw [if_pos d2] at h
      refine x_if_ne (tgt := 31) (pc' := 24) rfl rfl rfl (fun c21 => absurd (rfl) c21) (fun _ => ?_)
      refine x_aload_n (pc' := 25) rfl rfl rfl ?_
      refine x_bipush (pc' := 27) rfl rfl bipush_m2 ?_
      refine x_cV1i (d := 1) (pc' := 30) rfl rfl sX6_110 gX6_refuse (hM.1) ⟨Nat.le_of_ble_eq_true rfl, Nat.le_of_ble_eq_true rfl⟩ (Nat.le_of_ble_eq_true rfl) ⟨Nat.le_of_ble_eq_true rfl, Nat.le_of_ble_eq_true rfl⟩ ?_
      refine r_refuse (k := 1) (by decide) (by decide) hM hA (fun f1 M1 hM1 hA1 hF1 => ⟨_, rfl, ?_⟩)
      exact x_ireturn rfl rfl rfl (Nat.le_of_ble_eq_true rfl) (Nat.le_of_ble_eq_true rfl) (h _ _ hM1 hA1 hF1)
  · rw [show s_teR A a b = _ from if_neg d1] at h
    refine x_if_ne (tgt := 14) (pc' := 8) rfl rfl rfl (fun c5 => absurd (rfl) c5) (fun _ => ?_)
    refine x_aload_n (pc' := 9) rfl rfl rfl ?_
    refine x_iconst (pc' := 10) rfl rfl iconst_m1 ?_
    refine x_cV1i (d := 1) (pc' := 13) rfl rfl sX6_110 gX6_refuse (hM.1) ⟨Nat.le_of_ble_eq_true rfl, Nat.le_of_ble_eq_true rfl⟩ (Nat.le_of_ble_eq_true rfl) ⟨Nat.le_of_ble_eq_true rfl, Nat.le_of_ble_eq_true rfl⟩ ?_
    refine r_refuse (k := 0) (by decide) (by decide) hM hA (fun f1 M1 hM1 hA1 hF1 => ⟨_, rfl, ?_⟩)
    exact x_ireturn rfl rfl rfl (Nat.le_of_ble_eq_true rfl) (Nat.le_of_ble_eq_true rfl) (h _ _ hM1 hA1 hF1)
end PR
