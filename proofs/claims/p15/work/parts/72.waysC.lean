/-! The class counts ways. -/
def q_fc (g : q_G) (b : Nat) : Nat := if g_κ g b = 2 then 21 else q_from (g_κ g b) (g_f g)
def q_loC (g : q_G) (rw : Nat → Nat) (b : Nat) : Nat := if rw b = 1 then q_fc g b else 0
def q_hiC (g : q_G) (rw : Nat → Nat) (b : Nat) : Nat := if rw b = 0 then min (q_fc g b - 1) 20 else 20
theorem q_fc_in {C : Nat} {g : q_G} {b : Nat} (h : g_ok C g) : 1 ≤ q_fc g b ∧ q_fc g b ≤ 21 := by
  have h1 := h.2.1.1
  have h2 := h.2.1.2
  unfold q_fc q_from
  repeat' split
  all_goals omega
theorem q_w1_C {C : Nat} {g : q_G} {rw : Nat → Nat} {b : Nat} (h : g_ok C g) (w : Nat → Int64) (k : Nat) : q_w1 w (q_loC g rw b) (q_hiC g rw b) k = q_w1 w (q_lo g rw b) (q_hi g rw b) k := by
  have h1 := h.2.1.1
  have h2 := h.2.1.2
  by_cases d : g_κ g b = 2
  · have e1 : q_fc g b = 21 := if_pos d
    have e2 : q_fw g b = 1000 := if_pos d
    unfold q_loC q_hiC q_lo q_hi
    rw [e1, e2]
    by_cases d1 : rw b = 1
    · rw [if_pos d1, if_pos d1, if_neg (by omega), if_neg (by omega)]
      unfold q_w1
      rw [show min 20 k + 1 - 21 = 0 by omega, show min 20 k + 1 - 1000 = 0 by omega]
      rfl
    · rw [if_neg d1, if_neg d1, if_neg (by omega : ¬ (rw b = 0 ∧ 1000 ≤ 20))]
      split <;> rfl
  · have e1 : q_fc g b = q_from (g_κ g b) (g_f g) := if_neg d
    have e2 : q_fw g b = q_from (g_κ g b) (g_f g) := if_neg d
    have e3 : 1 ≤ q_from (g_κ g b) (g_f g) ∧ q_from (g_κ g b) (g_f g) ≤ 18 := by
      unfold q_from
      repeat' split
      all_goals omega
    have el : q_loC g rw b = q_lo g rw b := by
      unfold q_loC q_lo
      rw [e1, e2]
    have eh : q_hiC g rw b = q_hi g rw b := by
      unfold q_hiC q_hi
      rw [e1, e2]
      by_cases d0 : rw b = 0
      · rw [if_pos d0, if_pos ⟨d0, by omega⟩]
        omega
      · rw [if_neg d0, if_neg (fun q => d0 q.1)]
    rw [el, eh]
def q_nlV (g : q_G) (rw : Nat → Nat) (n b : Nat) : Int64 := if q_wy g (q_up rw b 1) (g_n g) n < q_wy g (q_up rw b 0) (g_n g) n then q_wy g (q_up rw b 1) (g_n g) n else q_wy g (q_up rw b 0) (g_n g) n
def q_nl (V : Nat → Int64) (rw : Nat → Nat) : Nat → Int64 × Int32
  | 0 => (-1, -9)
  | b + 1 => if rw b = 2 ∧ (q_nl V rw b).1 < V b then (V b, nI b) else q_nl V rw b
def s_neC (A : q_A) (a : Int32) : q_A × Int32 := if a < 0 then (s_no A 4, -4) else if 40 < a then (s_no A 6, -6) else if q_isR A then (A, (q_nl (q_nlV (a_g A) (a_rf A) a.toNatClampNeg) (a_rf A) (g_n (a_g A))).2) else (s_no A 3, -3)
section WC
variable {E : x_E} {z : Nat} {f f' : x_H} {S S0 : x_S} {A : q_A} {post : Option Value → x_H → Prop} {g : q_G} {C : Nat} {a b : Int32} {w : Nat → Int64} {rw' : Nat → Nat}
theorem x_Sys.lngf {l : Nat → Int64} (h : x_Sys z f S) (ha : x_a z f' 55 (41, .inr (.inl l))) (hf : x_fr (fun q => q ≠ 55) f f') : x_Sys z f' (S.1, S.2.1, S.2.2.1, x_ul S.2.2.2 1 l) := by
  obtain ⟨h1, h2, h3, h4, h5, h6, h7, h8, h9⟩ := h
  obtain ⟨p1, p2, p3, p4, p5, p6, p7, p8, p9⟩ := x_pos2 1 (by decide)
  have e55 : x_lp 1 = 55 := rfl
  refine ⟨h1.fr hf (by decide), fun i hi => (h2 i hi).fr hf (fun a ha => ?_), fun i hi => (h3 i hi).fr hf (p2 i hi), fun i hi => ?_, h5.fr hf (by decide), h6.fr hf (by decide), h7.fr hf (by decide), h8.fr hf (by decide), h9.fr hf (by decide)⟩
  · have := p1 i hi
    show _ ≠ 55
    omega
  · by_cases hij : i = 1
    · subst hij
      simp only [x_ul, if_pos]
      exact ha
    · simp only [x_ul, if_neg hij]
      exact (h4 i hi).fr hf (p3 i hi hij)
theorem c_loV {k lo hi : Nat} (hk : k ≤ 40) (hlo : lo ≤ 1000) (hhi : hi ≤ 20) (hS : x_Sys z f S) (hw : ∀ j, j ≤ k → S.2.2.2 1 j = w j) (K : ∀ v : Int32, X E (x_rm 2 0 0) mX4_layOneMore (x_QM E z 0 0 post) 49 [(6, .int v), (4, .long (q_w1 w lo hi k)), (3, .int (nI k)), (0, .ref 54), (1, .int (nI lo)), (2, .int (nI hi))] [] z f 0 0) : ∀ (m j : Nat), j + m = min hi k + 1 - lo → X E (x_rm 2 0 0) mX4_layOneMore (x_QM E z 0 0 post) 17 [(6, .int (nI (lo + j))), (4, .long (q_su w k lo j)), (3, .int (nI k)), (0, .ref 54), (1, .int (nI lo)), (2, .int (nI hi))] [] z f 0 0 := by
  intro m
  induction m with
  | zero =>
    intro j hj
    have hj2 : j = min hi k + 1 - lo := by omega
    have K' := K (nI (lo + j))
    unfold q_w1 at K'
    rw [← hj2] at K'
    by_cases d : hi < lo + j
    ·
      refine x_iload (pc' := 19) rfl rfl rfl ?_
      refine x_iload_n (pc' := 20) rfl rfl rfl ?_
      refine x_icmp_gt (tgt := 49) (pc' := 23) rfl rfl rfl (fun _ => ?_) (fun c20 => absurd ((nI_lt d (by omega))) c20)
      exact K'
    ·
      refine x_iload (pc' := 19) rfl rfl rfl ?_
      refine x_iload_n (pc' := 20) rfl rfl rfl ?_
      refine x_icmp_gt (tgt := 49) (pc' := 23) rfl rfl rfl (fun c20 => absurd c20 ((nI_nlt (by omega) (by omega)))) (fun _ => ?_)
      refine x_iload (pc' := 25) rfl rfl rfl ?_
      refine x_iload_n (pc' := 26) rfl rfl rfl ?_
      refine x_icmp_gt (tgt := 49) (pc' := 29) rfl rfl rfl (fun _ => ?_) (fun c26 => absurd ((nI_lt (by omega) (by omega))) c26)
      exact K'
  | succ m ih =>
    intro j hj
    have e1 : S.2.2.2 1 (nI (k - (lo + j))).toNatClampNeg = w (k - (lo + j)) := by rw [nI_clamp (by omega), hw _ (by omega)]
    refine x_iload (pc' := 19) rfl rfl rfl ?_
    refine x_iload_n (pc' := 20) rfl rfl rfl ?_
    refine x_icmp_gt (tgt := 49) (pc' := 23) rfl rfl rfl (fun c20 => absurd c20 ((nI_nlt (by omega) (by omega)))) (fun _ => ?_)
    refine x_iload (pc' := 25) rfl rfl rfl ?_
    refine x_iload_n (pc' := 26) rfl rfl rfl ?_
    refine x_icmp_gt (tgt := 49) (pc' := 29) rfl rfl rfl (fun c26 => absurd c26 ((nI_nlt (by omega) (by omega)))) (fun _ => ?_)
    refine x_lload (pc' := 31) rfl rfl rfl ?_
    refine x_aload_n (pc' := 32) rfl rfl rfl ?_
    refine x_get (pc' := 35) rfl rfl rfl (hS.wy) rfl ?_
    refine x_iload_n (pc' := 36) rfl rfl rfl ?_
    refine x_iload (pc' := 38) rfl rfl rfl ?_
    refine x_isub (pc' := 39) rfl rfl ?_
    refine x_eqi (pk_sub (by omega)) ?_
    refine x_laload (pc' := 40) rfl rfl (hS.2.2.2.1 1 (by decide)) (vp_in_nI (n := k - (lo + j)) (N := 41) (by omega) (by decide)) ?_
    refine x_eql e1 ?_
    refine x_ladd (pc' := 41) rfl rfl ?_
    refine x_lstore (pc' := 43) (lv' := [(4, _), (6, _), (3, _), (0, _), (1, _), (2, _)]) rfl rfl (Nat.le_of_ble_eq_true rfl) rfl ?_
    refine x_iinc (pc' := 46) (lv' := [(6, _), (4, _), (3, _), (0, _), (1, _), (2, _)]) rfl rfl (Nat.le_of_ble_eq_true rfl) rfl (nI_1 _) rfl ?_
    refine x_goto (tgt := 17) rfl rfl ?_
    exact ih (j + 1) (by omega)
theorem c_loK {lo hi : Nat} (hlo : lo ≤ 1000) (hhi : hi ≤ 20) (f0 : x_H) (S0 : x_S) (h : ∀ (f' : x_H) (W : Nat → Int64), (∀ j, j ≤ 40 → W j = q_w1 w lo hi j) → x_Sys z f' (S0.1, S0.2.1, S0.2.2.1, x_ul S0.2.2.2 1 W) → x_fr (fun q => 59 ≤ q) f0 f' → post none f') : ∀ (m : Nat) (f : x_H) (W : Nat → Int64), m ≤ 41 → (∀ j, j ≤ 40 → W j = if m ≤ j then q_w1 w lo hi j else w j) → x_Sys z f (S0.1, S0.2.1, S0.2.2.1, x_ul S0.2.2.2 1 W) → x_fr (fun q => 59 ≤ q) f0 f → X E (x_rm 2 0 0) mX4_layOneMore (x_QM E z 0 0 post) 3 [(3, .int (nI m + Int32.ofInt (-1))), (0, .ref 54), (1, .int (nI lo)), (2, .int (nI hi))] [] z f 0 0 := by
  intro m
  induction m with
  | zero =>
    intro f W hm hW hS hF
    refine x_iload_n (pc' := 4) rfl rfl rfl ?_
    refine x_if_lt (tgt := 63) (pc' := 7) rfl rfl rfl (fun _ => ?_) (fun c4 => absurd ((by decide)) c4)
    exact x_return rfl rfl (Nat.le_of_ble_eq_true rfl) (Nat.le_of_ble_eq_true rfl) (h f W (fun j hj => (hW j hj).trans (if_pos (Nat.zero_le j))) hS hF)
  | succ k ih =>
    intro f W hm hW hS hF
    have hcl : (nI k).toNatClampNeg = k := nI_clamp (by omega)
    rw [show nI (k + 1) + Int32.ofInt (-1) = nI k from nI_m1 (Nat.succ_pos k)]
    refine x_iload_n (pc' := 4) rfl rfl rfl ?_
    refine x_if_lt (tgt := 63) (pc' := 7) rfl rfl rfl (fun c4 => absurd c4 ((nI_pos (by omega)))) (fun _ => ?_)
    refine x_lconst (pc' := 8) rfl rfl lconst_0 ?_
    refine x_lstore (pc' := 10) (lv' := [(4, _), (3, _), (0, _), (1, _), (2, _)]) rfl rfl (Nat.le_of_ble_eq_true rfl) rfl ?_
    refine x_iload_n (pc' := 11) rfl rfl rfl ?_
    refine x_iconst (pc' := 12) rfl rfl iconst_0 ?_
    refine x_mmax (pc' := 15) rfl rfl sX4_45 ⟨Nat.le_of_ble_eq_true rfl, Nat.le_of_ble_eq_true rfl⟩ (Nat.le_of_ble_eq_true rfl) (Nat.le_of_ble_eq_true rfl) (Nat.le_of_ble_eq_true rfl) ?_
    refine x_eqi (show (if nI lo < 0 then (0 : Int32) else nI lo) = nI lo from if_neg (nI_pos (by omega))) ?_
    refine x_istore (pc' := 17) (lv' := [(6, _), (4, _), (3, _), (0, _), (1, _), (2, _)]) rfl rfl (Nat.le_of_ble_eq_true rfl) rfl ?_
    refine c_loV (w := w) (by omega) hlo hhi hS (fun j hj => by show x_ul S0.2.2.2 1 W 1 j = w j; rw [show x_ul S0.2.2.2 1 W 1 = W from rfl, hW j (by omega), if_neg (by omega)]) (fun v => ?_) (min hi k + 1 - lo) 0 (by omega)
    refine x_aload_n (pc' := 50) rfl rfl rfl ?_
    refine x_get (pc' := 53) rfl rfl rfl (hS.wy) rfl ?_
    refine x_iload_n (pc' := 54) rfl rfl rfl ?_
    refine x_lload (pc' := 56) rfl rfl rfl ?_
    refine x_lastore (pc' := 57) rfl rfl (hS.2.2.2.1 1 (by decide)) (vp_in_nI (n := k) (N := 41) (by omega) (by decide)) (fun f1 e1 => ?_)
    have hS1 := hS.lng 1 (by decide) e1
    have hF1 := hF.up e1 (by decide)
    rw [x_ul_ul, hcl] at hS1
    refine x_iinc (pc' := 60) (lv' := [(3, _), (6, _), (4, _), (0, _), (1, _), (2, _)]) rfl rfl (Nat.le_of_ble_eq_true rfl) rfl (rfl) rfl ?_
    refine x_goto (tgt := 3) rfl rfl ?_
    refine x_lvp [0, 3, 4, 5] rfl ?_
    refine ih _ (vp_updL W k (q_w1 w lo hi k)) (by omega) (fun j hj => ?_) hS1 hF1
    unfold vp_updL
    by_cases d : j = k
    · rw [if_pos d, if_pos (by omega), d]
    · rw [if_neg d, hW j hj]
      by_cases d2 : k + 1 ≤ j
      · rw [if_pos d2, if_pos (by omega)]
      · rw [if_neg d2, if_neg (by omega)]
theorem c_layOne {lo hi : Nat} (hlo : lo ≤ 1000) (hhi : hi ≤ 20) (hS : x_Sys z f S) (hw : ∀ j, j ≤ 40 → S.2.2.2 1 j = w j) (h : ∀ (f' : x_H) (W : Nat → Int64), (∀ j, j ≤ 40 → W j = q_w1 w lo hi j) → x_Sys z f' (S.1, S.2.1, S.2.2.1, x_ul S.2.2.2 1 W) → x_fr (fun q => 59 ≤ q) f f' → post none f') : Y E 2 mX4_layOneMore [.ref 54, .int (nI lo), .int (nI hi)] z f 0 0 post := by
  refine Y.intro gX4_layOneMore (lv := [(0, .ref 54), (1, .int (nI lo)), (2, .int (nI hi))]) rfl (Nat.le_of_ble_eq_true rfl) ?_
  refine x_bipush (pc' := 2) rfl rfl bipush_40 ?_
  refine x_istore_n (pc' := 3) (lv' := [(3, _), (0, _), (1, _), (2, _)]) rfl rfl (Nat.le_of_ble_eq_true rfl) rfl ?_
  exact c_loK hlo hhi f S h 41 f (S.2.2.2 1) (by decide) (fun j hj => by rw [if_neg (by omega)]; exact hw j hj) (by rw [x_ul_id]; exact hS) x_fr.rf
theorem q_fcI {g : q_G} {b : Nat} (h : g_κ g b ≠ 2) : nI (q_from (g_κ g b) (g_f g)) = nI (q_fc g b) := by
  unfold q_fc
  rw [if_neg h]
theorem c_tlB {n q : Nat} (hq : q = 4 ∨ q = 5) (hn : n ≤ 40) (hg : g_ok C g) (f0 : x_H) (S0 : x_S) (ht : t_is (S0.2.1 0) g) (hrw : S0.2.2.1 q = fun i => nI (rw' i)) (hr9 : ∀ i, rw' i ≤ 9) (h : ∀ (f' : x_H) (W : Nat → Int64), x_Sys z f' (S0.1, S0.2.1, S0.2.2.1, x_ul S0.2.2.2 1 W) → x_fr (fun q => 59 ≤ q) f0 f' → post (some (.long (q_wy g rw' (g_n g) n))) f') : ∀ (m b : Nat) (f : x_H) (W : Nat → Int64), b + m = g_n g → x_Sys z f (S0.1, S0.2.1, S0.2.2.1, x_ul S0.2.2.2 1 W) → (∀ j, j ≤ 40 → W j = q_wy g rw' b j) → x_fr (fun q => 59 ≤ q) f0 f → X E (x_rm 3 0 0) mX4_toLay (x_QM E z 0 0 post) 30 [(4, .int (nI b)), (0, .ref 54), (1, .ref 1), (2, .ref (x_ap q)), (3, .int (nI n))] [] z f 0 0 := by
  have hn9 := hg.1
  have hq7 : q < 7 := by omega
  have eq12 : x_an q = 12 := by rcases hq with rfl | rfl <;> rfl
  intro m
  induction m with
  | zero =>
    intro b f W hb hS hW hF
    have hb2 : b = g_n g := by omega
    subst hb2
    have e1 : x_ul S0.2.2.2 1 W 1 (nI n).toNatClampNeg = q_wy g rw' (g_n g) n := by rw [nI_clamp (by omega)]; exact hW n hn
    refine x_iload (pc' := 32) rfl rfl rfl ?_
    refine x_aload_n (pc' := 33) rfl rfl rfl ?_
    refine x_get (pc' := 36) rfl rfl rfl ((hS.2.1 0 (by decide)).1) rfl ?_
    refine x_eqi ht.2.2.2.1 ?_
    refine x_icmp_ge (tgt := 123) (pc' := 39) rfl rfl rfl (fun _ => ?_) (fun c36 => absurd ((Int32.le_refl _)) c36)
    refine x_aload_n (pc' := 124) rfl rfl rfl ?_
    refine x_get (pc' := 127) rfl rfl rfl (hS.wy) rfl ?_
    refine x_iload_n (pc' := 128) rfl rfl rfl ?_
    refine x_laload (pc' := 129) rfl rfl (hS.2.2.2.1 1 (by decide)) (vp_in_nI (n := n) (N := 41) (by omega) (by decide)) ?_
    refine x_eql e1 ?_
    exact x_lreturn rfl rfl (Nat.le_of_ble_eq_true rfl) (Nat.le_of_ble_eq_true rfl) (h _ _ hS hF)
  | succ m ih =>
    intro b f W hb hS hW hF
    have hT : x_t z f 1 (S0.2.1 0) := hS.2.1 0 (by decide)
    have hκ := hg.2.2.2.2.1 b
    have hfu := hg.2.1
    have hfc := q_fc_in (b := b) hg
    have hr := hr9 b
    have hcl : (nI b).toNatClampNeg = b := nI_clamp (by omega)
    have ha := hS.2.2.1 q hq7
    rw [eq12] at ha
    have er : S0.2.2.1 q (nI b).toNatClampNeg = nI (rw' b) := by rw [hcl, hrw]
    have K109 : X E (x_rm 3 0 0) mX4_toLay (x_QM E z 0 0 post) 109 [(7, .int (nI (q_hiC g rw' b))), (6, .int (nI (q_loC g rw' b))), (5, .int (nI (q_fc g b))), (4, .int (nI b)), (0, .ref 54), (1, .ref 1), (2, .ref (x_ap q)), (3, .int (nI n))] [] z f 0 0 := by
      have hlo : q_loC g rw' b ≤ 1000 := by
        unfold q_loC
        split <;> omega
      have hhi : q_hiC g rw' b ≤ 20 := by
        unfold q_hiC
        split <;> omega
      refine x_aload_n (pc' := 110) rfl rfl rfl ?_
      refine x_iload (pc' := 112) rfl rfl rfl ?_
      refine x_iload (pc' := 114) rfl rfl rfl ?_
      refine x_cV2v (d := 2) (pc' := 117) rfl rfl sX4_41 gX4_layOneMore (hS.wy) ⟨Nat.le_of_ble_eq_true rfl, Nat.le_of_ble_eq_true rfl⟩ (Nat.le_of_ble_eq_true rfl) ⟨Nat.le_of_ble_eq_true rfl, Nat.le_of_ble_eq_true rfl⟩ ?_
      refine c_layOne (w := q_wy g rw' b) hlo hhi hS hW (fun f1 W1 hW1 hS1 hF1 => ⟨rfl, ?_⟩)
      rw [x_ul_ul] at hS1
      refine x_iinc (pc' := 120) (lv' := [(4, _), (7, _), (6, _), (5, _), (0, _), (1, _), (2, _), (3, _)]) rfl rfl (Nat.le_of_ble_eq_true rfl) rfl (nI_1 b) rfl ?_
      refine x_goto (tgt := 30) rfl rfl ?_
      refine x_lvp [0, 4, 5, 6, 7] rfl ?_
      exact ih (b + 1) f1 W1 (by omega) hS1 (fun j hj => (hW1 j hj).trans (q_w1_C hg (q_wy g rw' b) j)) (hF.trans hF1)
    have K70 : X E (x_rm 3 0 0) mX4_toLay (x_QM E z 0 0 post) 70 [(5, .int (nI (q_fc g b))), (4, .int (nI b)), (0, .ref 54), (1, .ref 1), (2, .ref (x_ap q)), (3, .int (nI n))] [] z f 0 0 := by
      refine x_aload_n (pc' := 71) rfl rfl rfl ?_
      refine x_iload (pc' := 73) rfl rfl rfl ?_
      refine x_iaload (pc' := 74) rfl rfl (ha) (vp_in_nI (n := b) (N := 12) (by omega) (by decide)) ?_
      refine x_eqi er ?_
      refine x_iconst (pc' := 75) rfl rfl iconst_1 ?_
      by_cases d : rw' b = 1
      · have elo : nI (q_fc g b) = nI (q_loC g rw' b) := by unfold q_loC; rw [if_pos d]
        refine x_icmp_ne (tgt := 83) (pc' := 78) rfl rfl rfl (fun q => absurd (by rw [d]; rfl) q) (fun _ => ?_)
        refine x_iload (pc' := 80) rfl rfl rfl ?_
        refine x_goto (tgt := 84) rfl rfl ?_
        refine x_eqi elo ?_
        refine x_istore (pc' := 86) (lv' := [(6, _), (5, _), (4, _), (0, _), (1, _), (2, _), (3, _)]) rfl rfl (Nat.le_of_ble_eq_true rfl) rfl ?_
        refine x_aload_n (pc' := 87) rfl rfl rfl ?_
        refine x_iload (pc' := 89) rfl rfl rfl ?_
        refine x_iaload (pc' := 90) rfl rfl (ha) (vp_in_nI (n := b) (N := 12) (by omega) (by decide)) ?_
        refine x_eqi er ?_
        by_cases d5 : rw' b = 0
        · have ehi : (if (20 : Int32) < nI (q_fc g b - 1) then (20 : Int32) else nI (q_fc g b - 1)) = nI (q_hiC g rw' b) := by
            unfold q_hiC
            rw [if_pos d5, if_neg (show ¬ (20 : Int32) < nI (q_fc g b - 1) from nI_nlt (a := 20) (b := q_fc g b - 1) (by omega) (by decide)), show min (q_fc g b - 1) 20 = q_fc g b - 1 by omega]
          refine x_if_ne (tgt := 105) (pc' := 93) rfl rfl rfl (fun q => absurd (by rw [d5]; rfl) q) (fun _ => ?_)
          refine x_iload (pc' := 95) rfl rfl rfl ?_
          refine x_iconst (pc' := 96) rfl rfl iconst_1 ?_
          refine x_isub (pc' := 97) rfl rfl ?_
          refine x_eqi (show nI (q_fc g b) - 1 = nI (q_fc g b - 1) from pk_sub (b := 1) hfc.1) ?_
          refine x_bipush (pc' := 99) rfl rfl bipush_20 ?_
          refine x_mmin (pc' := 102) rfl rfl sX4_35 ⟨Nat.le_of_ble_eq_true rfl, Nat.le_of_ble_eq_true rfl⟩ (Nat.le_of_ble_eq_true rfl) (Nat.le_of_ble_eq_true rfl) (Nat.le_of_ble_eq_true rfl) ?_
          refine x_goto (tgt := 107) rfl rfl ?_
          refine x_eqi ehi ?_
          refine x_istore (pc' := 109) (lv' := [(7, _), (6, _), (5, _), (4, _), (0, _), (1, _), (2, _), (3, _)]) rfl rfl (Nat.le_of_ble_eq_true rfl) rfl ?_
          exact K109
        · have ehi : 20 = nI (q_hiC g rw' b) := by unfold q_hiC; rw [if_neg d5]; rfl
          refine x_if_ne (tgt := 105) (pc' := 93) rfl rfl rfl (fun _ => ?_) (fun q => absurd q (nI_ne0 (by omega) (by omega)))
          refine x_bipush (pc' := 107) rfl rfl bipush_20 ?_
          refine x_eqi ehi ?_
          refine x_istore (pc' := 109) (lv' := [(7, _), (6, _), (5, _), (4, _), (0, _), (1, _), (2, _), (3, _)]) rfl rfl (Nat.le_of_ble_eq_true rfl) rfl ?_
          exact K109
      · have elo : 0 = nI (q_loC g rw' b) := by unfold q_loC; rw [if_neg d]; rfl
        refine x_icmp_ne (tgt := 83) (pc' := 78) rfl rfl rfl (fun _ => ?_) (fun q => absurd ((nI_eq (b := 1) (by omega) (by decide)).mp q) d)
        refine x_iconst (pc' := 84) rfl rfl iconst_0 ?_
        refine x_eqi elo ?_
        refine x_istore (pc' := 86) (lv' := [(6, _), (5, _), (4, _), (0, _), (1, _), (2, _), (3, _)]) rfl rfl (Nat.le_of_ble_eq_true rfl) rfl ?_
        refine x_aload_n (pc' := 87) rfl rfl rfl ?_
        refine x_iload (pc' := 89) rfl rfl rfl ?_
        refine x_iaload (pc' := 90) rfl rfl (ha) (vp_in_nI (n := b) (N := 12) (by omega) (by decide)) ?_
        refine x_eqi er ?_
        by_cases d5 : rw' b = 0
        · have ehi : (if (20 : Int32) < nI (q_fc g b - 1) then (20 : Int32) else nI (q_fc g b - 1)) = nI (q_hiC g rw' b) := by
            unfold q_hiC
            rw [if_pos d5, if_neg (show ¬ (20 : Int32) < nI (q_fc g b - 1) from nI_nlt (a := 20) (b := q_fc g b - 1) (by omega) (by decide)), show min (q_fc g b - 1) 20 = q_fc g b - 1 by omega]
          refine x_if_ne (tgt := 105) (pc' := 93) rfl rfl rfl (fun q => absurd (by rw [d5]; rfl) q) (fun _ => ?_)
          refine x_iload (pc' := 95) rfl rfl rfl ?_
          refine x_iconst (pc' := 96) rfl rfl iconst_1 ?_
          refine x_isub (pc' := 97) rfl rfl ?_
          refine x_eqi (show nI (q_fc g b) - 1 = nI (q_fc g b - 1) from pk_sub (b := 1) hfc.1) ?_
          refine x_bipush (pc' := 99) rfl rfl bipush_20 ?_
          refine x_mmin (pc' := 102) rfl rfl sX4_35 ⟨Nat.le_of_ble_eq_true rfl, Nat.le_of_ble_eq_true rfl⟩ (Nat.le_of_ble_eq_true rfl) (Nat.le_of_ble_eq_true rfl) (Nat.le_of_ble_eq_true rfl) ?_
          refine x_goto (tgt := 107) rfl rfl ?_
          refine x_eqi ehi ?_
          refine x_istore (pc' := 109) (lv' := [(7, _), (6, _), (5, _), (4, _), (0, _), (1, _), (2, _), (3, _)]) rfl rfl (Nat.le_of_ble_eq_true rfl) rfl ?_
          exact K109
        · have ehi : 20 = nI (q_hiC g rw' b) := by unfold q_hiC; rw [if_neg d5]; rfl
          refine x_if_ne (tgt := 105) (pc' := 93) rfl rfl rfl (fun _ => ?_) (fun q => absurd q (nI_ne0 (by omega) (by omega)))
          refine x_bipush (pc' := 107) rfl rfl bipush_20 ?_
          refine x_eqi ehi ?_
          refine x_istore (pc' := 109) (lv' := [(7, _), (6, _), (5, _), (4, _), (0, _), (1, _), (2, _), (3, _)]) rfl rfl (Nat.le_of_ble_eq_true rfl) rfl ?_
          exact K109
    refine x_iload (pc' := 32) rfl rfl rfl ?_
    refine x_aload_n (pc' := 33) rfl rfl rfl ?_
    refine x_get (pc' := 36) rfl rfl rfl (hT.1) rfl ?_
    refine x_eqi ht.2.2.2.1 ?_
    refine x_icmp_ge (tgt := 123) (pc' := 39) rfl rfl rfl (fun c36 => absurd c36 ((nI_ge (by omega) (by omega)))) (fun _ => ?_)
    refine x_iload (pc' := 41) rfl rfl rfl ?_
    refine x_aload_n (pc' := 42) rfl rfl rfl ?_
    refine x_alen (pc' := 43) rfl rfl (ha) ?_
    refine x_icmp_ge (tgt := 123) (pc' := 46) rfl rfl rfl (fun c43 => absurd c43 ((show ¬ nI 12 ≤ nI b from nI_ge (by omega) (by decide)))) (fun _ => ?_)
    refine x_aload_n (pc' := 47) rfl rfl rfl ?_
    refine x_iload (pc' := 49) rfl rfl rfl ?_
    refine x_cV1i (d := 2) (pc' := 52) rfl rfl sX4_31 gX3_soundsFrom (hT.1) ⟨Nat.le_of_ble_eq_true rfl, Nat.le_of_ble_eq_true rfl⟩ (Nat.le_of_ble_eq_true rfl) ⟨Nat.le_of_ble_eq_true rfl, Nat.le_of_ble_eq_true rfl⟩ ?_
    refine w_sounds hT ht.2.2.2.1 hn9 ht.2.2.2.2.1 (by omega) ht.1 hg.2.2.2.2.1 (by omega) ⟨_, rfl, ?_⟩
    refine x_bipush (pc' := 54) rfl rfl bipush_m9 ?_
    by_cases d2 : g_κ g b = 2
    · rw [if_pos d2]
      have e68 : 21 = nI (q_fc g b) := by unfold q_fc; rw [if_pos d2]; rfl
      refine x_icmp_ne (tgt := 62) (pc' := 57) rfl rfl rfl (fun q => absurd rfl q) (fun _ => ?_)
      refine x_bipush (pc' := 59) rfl rfl bipush_21 ?_
      refine x_goto (tgt := 68) rfl rfl ?_
      refine x_eqi e68 ?_
      refine x_istore (pc' := 70) (lv' := [(5, _), (4, _), (0, _), (1, _), (2, _), (3, _)]) rfl rfl (Nat.le_of_ble_eq_true rfl) rfl ?_
      exact K70
    · rw [if_neg d2]
      have e68 := q_fcI d2
      have hqf := hfc.2
      unfold q_fc at hqf
      rw [if_neg d2] at hqf
      refine x_icmp_ne (tgt := 62) (pc' := 57) rfl rfl rfl (fun _ => ?_) (fun q => absurd q (q_oI_ne (by omega)))
      refine x_aload_n (pc' := 63) rfl rfl rfl ?_
      refine x_iload (pc' := 65) rfl rfl rfl ?_
      refine x_cV1i (d := 2) (pc' := 68) rfl rfl sX4_31 gX3_soundsFrom (hT.1) ⟨Nat.le_of_ble_eq_true rfl, Nat.le_of_ble_eq_true rfl⟩ (Nat.le_of_ble_eq_true rfl) ⟨Nat.le_of_ble_eq_true rfl, Nat.le_of_ble_eq_true rfl⟩ ?_
      refine w_sounds hT ht.2.2.2.1 hn9 ht.2.2.2.2.1 (by omega) ht.1 hg.2.2.2.2.1 (by omega) ⟨_, rfl, ?_⟩
      rw [if_neg d2]
      refine x_eqi e68 ?_
      refine x_istore (pc' := 70) (lv' := [(5, _), (4, _), (0, _), (1, _), (2, _), (3, _)]) rfl rfl (Nat.le_of_ble_eq_true rfl) rfl ?_
      exact K70
theorem c_toLay {n q : Nat} (hq : q = 4 ∨ q = 5) (hn : n ≤ 40) (hg : g_ok C g) (hS : x_Sys z f S) (ht : t_is (S.2.1 0) g) (hrw : S.2.2.1 q = fun i => nI (rw' i)) (hr9 : ∀ i, rw' i ≤ 9) (h : ∀ (f' : x_H) (W : Nat → Int64), x_Sys z f' (S.1, S.2.1, S.2.2.1, x_ul S.2.2.2 1 W) → x_fr (fun q => 59 ≤ q) f f' → post (some (.long (q_wy g rw' (g_n g) n))) f') : Y E 3 mX4_toLay [.ref 54, .ref 1, .ref (x_ap q), .int (nI n)] z f 0 0 post := by
  refine Y.intro gX4_toLay (lv := [(0, .ref 54), (1, .ref 1), (2, .ref (x_ap q)), (3, .int (nI n))]) rfl (Nat.le_of_ble_eq_true rfl) ?_
  refine x_iload_n (pc' := 1) rfl rfl rfl ?_
  refine x_if_lt (tgt := 10) (pc' := 4) rfl rfl rfl (fun c1 => absurd c1 (nI_pos (by omega))) (fun _ => ?_)
  refine x_iload_n (pc' := 5) rfl rfl rfl ?_
  refine x_bipush (pc' := 7) rfl rfl bipush_40 ?_
  refine x_icmp_le (tgt := 12) (pc' := 10) rfl rfl rfl (fun _ => ?_) (fun c7 => absurd ((nI_le (a := n) (b := 40) hn (by decide))) c7)
  refine x_aload_n (pc' := 13) rfl rfl rfl ?_
  refine x_get (pc' := 16) rfl rfl rfl (hS.wy) rfl ?_
  refine x_lconst (pc' := 17) rfl rfl lconst_0 ?_
  refine x_cS2v (d := 1) (pc' := 20) rfl rfl sX4_19 gJ7_fill_d0a16 ⟨Nat.le_of_ble_eq_true rfl, Nat.le_of_ble_eq_true rfl⟩ (Nat.le_of_ble_eq_true rfl) ⟨Nat.le_of_ble_eq_true rfl, Nat.le_of_ble_eq_true rfl⟩ ?_
  refine w_fill (by decide) (hS.2.2.2.1 1 (by decide)) (fun f1 ha1 hF1 => ⟨rfl, ?_⟩)
  have hS1 := hS.lngf ha1 hF1
  have hF1' : x_fr (fun q => 59 ≤ q) f f1 := hF1.mono (fun q hq => by have : 59 ≤ q := hq; show q ≠ 55; omega)
  refine x_aload_n (pc' := 21) rfl rfl rfl ?_
  refine x_get (pc' := 24) rfl rfl rfl (hS1.wy) rfl ?_
  refine x_iconst (pc' := 25) rfl rfl iconst_0 ?_
  refine x_lconst (pc' := 26) rfl rfl lconst_1 ?_
  refine x_lastore (pc' := 27) rfl rfl (hS1.2.2.2.1 1 (by decide)) (vp_in_nI (n := 0) (N := 41) (by decide) (by decide)) (fun f1 e1 => ?_)
  have hS2 := hS1.lng 1 (by decide) e1
  have hF2 := hF1'.up e1 (by decide)
  rw [x_ul_ul] at hS2
  refine x_iconst (pc' := 28) rfl rfl iconst_0 ?_
  refine x_istore (pc' := 30) (lv' := [(4, _), (0, _), (1, _), (2, _), (3, _)]) rfl rfl (Nat.le_of_ble_eq_true rfl) rfl ?_
  refine c_tlB hq hn hg f S ht hrw hr9 h (g_n g) 0 _ _ (by omega) hS2 (fun j hj => ?_) hF2
  show vp_updL (fun _ => (0 : Int64)) (Int32.toNatClampNeg 0) 1 j = (if j = 0 then 1 else 0)
  rfl
theorem c_rfL (hS : x_Sys z f S) (hA : c_is S A) (ho : a_ok A) (h1 : (∀ i, i < a_rc A → a_rf A i ≤ 2) → post (some (.int 0)) f) (h0 : ¬ (∀ i, i < a_rc A → a_rf A i ≤ 2) → post (some (.int (-3))) f) : ∀ (m i : Nat), i + m = a_rc A → (∀ j, j < i → a_rf A j ≤ 2) → X E (x_rm 1 0 0) mX5_refusalToLay (x_QM E z 0 0 post) 35 [(2, .int (nI i)), (0, .ref 0), (1, .int a)] [] z f 0 0 := by
  obtain ⟨b1, b2, b3, b4, b5, b6, b7, b8⟩ := id hA
  have hrc := ho.2.2.2.2.2.1
  intro m
  induction m with
  | zero =>
    intro i hi hj
    have hi2 : i = a_rc A := by omega
    subst hi2
    refine x_iload_n (pc' := 36) rfl rfl rfl ?_
    refine x_aload_n (pc' := 37) rfl rfl rfl ?_
    refine x_get (pc' := 40) rfl rfl rfl (hS.1) rfl ?_
    refine x_eqi b6 ?_
    refine x_icmp_ge (tgt := 71) (pc' := 43) rfl rfl rfl (fun _ => ?_) (fun c40 => absurd ((Int32.le_refl _)) c40)
    refine x_iconst (pc' := 72) rfl rfl iconst_0 ?_
    exact x_ireturn rfl rfl rfl (Nat.le_of_ble_eq_true rfl) (Nat.le_of_ble_eq_true rfl) (h1 hj)
  | succ m ih =>
    intro i hi hj
    have h9 := ho.2.2.2.2.2.2 i
    have er : S.2.2.1 5 (nI i).toNatClampNeg = nI (a_rf A i) := by rw [nI_clamp (by omega), b7]
    refine x_iload_n (pc' := 36) rfl rfl rfl ?_
    refine x_aload_n (pc' := 37) rfl rfl rfl ?_
    refine x_get (pc' := 40) rfl rfl rfl (hS.1) rfl ?_
    refine x_eqi b6 ?_
    refine x_icmp_ge (tgt := 71) (pc' := 43) rfl rfl rfl (fun c40 => absurd c40 ((nI_ge (by omega) (by omega)))) (fun _ => ?_)
    refine x_iload_n (pc' := 44) rfl rfl rfl ?_
    refine x_aload_n (pc' := 45) rfl rfl rfl ?_
    refine x_get (pc' := 48) rfl rfl rfl (hS.1) rfl ?_
    refine x_alen (pc' := 49) rfl rfl (hS.2.2.1 5 (by decide)) ?_
    refine x_icmp_ge (tgt := 71) (pc' := 52) rfl rfl rfl (fun c49 => absurd c49 ((show ¬ nI 12 ≤ nI i from nI_ge (by omega) (by decide)))) (fun _ => ?_)
    refine x_aload_n (pc' := 53) rfl rfl rfl ?_
    refine x_get (pc' := 56) rfl rfl rfl (hS.1) rfl ?_
    refine x_iload_n (pc' := 57) rfl rfl rfl ?_
    refine x_iaload (pc' := 58) rfl rfl (hS.2.2.1 5 (by decide)) (vp_in_nI (n := i) (N := 12) (by omega) (by decide)) ?_
    refine x_eqi er ?_
    refine x_iconst (pc' := 59) rfl rfl iconst_2 ?_
    by_cases d : a_rf A i ≤ 2
    · refine x_icmp_le (tgt := 65) (pc' := 62) rfl rfl rfl (fun _ => ?_) (fun q => absurd (nI_le (b := 2) d (by decide)) q)
      refine x_iinc (pc' := 68) (lv' := [(2, _), (0, _), (1, _)]) rfl rfl (Nat.le_of_ble_eq_true rfl) rfl (nI_1 i) rfl ?_
      refine x_goto (tgt := 35) rfl rfl ?_
      exact ih (i + 1) (by omega) (fun j hj2 => by
        by_cases e : j = i
        · rw [e]
          exact d
        · exact hj j (by omega))
    · refine x_icmp_le (tgt := 65) (pc' := 62) rfl rfl rfl (fun q => absurd q (nI_ge (a := 2) (by omega) (by omega))) (fun _ => ?_)
      refine x_bipush (pc' := 64) rfl rfl bipush_m3 ?_
      exact x_ireturn rfl rfl rfl (Nat.le_of_ble_eq_true rfl) (Nat.le_of_ble_eq_true rfl) (h0 (fun q => d (q i (by omega))))
theorem c_rf (hS : x_Sys z f S) (hA : c_is S A) (ho : a_ok A) (h : post (some (.int (if a < 0 then -4 else if 40 < a then -6 else if q_isR A then 0 else -3))) f) : Y E 1 mX5_refusalToLay [.ref 0, .int a] z f 0 0 post := by
  refine Y.intro gX5_refusalToLay (lv := [(0, .ref 0), (1, .int a)]) rfl (Nat.le_of_ble_eq_true rfl) ?_
  obtain ⟨b1, b2, b3, b4, b5, b6, b7, b8⟩ := id hA
  have hrc := ho.2.2.2.2.2.1
  have hn9 := ho.1.1
  refine x_iload_n (pc' := 1) rfl rfl rfl ?_
  refine x_if_ge (tgt := 7) (pc' := 4) rfl rfl rfl (fun c1 => ?_) (fun c1 => ?_)
  · have d1 : ¬ a < 0 := Int32.not_lt.mpr c1
    rw [if_neg d1] at h
    refine x_iload_n (pc' := 8) rfl rfl rfl ?_
    refine x_bipush (pc' := 10) rfl rfl bipush_40 ?_
    refine x_icmp_le (tgt := 16) (pc' := 13) rfl rfl rfl (fun c10 => ?_) (fun c10 => ?_)
    · have d2 : ¬ 40 < a := Int32.not_lt.mpr c10
      rw [if_neg d2] at h
      refine x_aload_n (pc' := 17) rfl rfl rfl ?_
      refine x_get (pc' := 20) rfl rfl rfl (hS.1) rfl ?_
      refine x_eqi b6 ?_
      refine x_aload_n (pc' := 21) rfl rfl rfl ?_
      refine x_get (pc' := 24) rfl rfl rfl (hS.1) rfl ?_
      refine x_get (pc' := 27) rfl rfl rfl ((hS.2.1 0 (by decide)).1) rfl ?_
      refine x_eqi b1.2.2.2.1 ?_
      by_cases d : a_rc A = g_n (a_g A)
      · refine x_icmp_eq (tgt := 33) (pc' := 30) rfl rfl rfl (fun _ => ?_) (fun q => absurd (by rw [d]) q)
        refine x_iconst (pc' := 34) rfl rfl iconst_0 ?_
        refine x_istore_n (pc' := 35) (lv' := [(2, _), (0, _), (1, _)]) rfl rfl (Nat.le_of_ble_eq_true rfl) rfl ?_
        exact c_rfL hS hA ho (fun q => by rw [if_pos ⟨d, q⟩] at h; exact h) (fun q => by rw [if_neg (fun k => q k.2)] at h; exact h) (a_rc A) 0 (by omega) (fun j hj => absurd hj (Nat.not_lt_zero j))
      · rw [if_neg (fun q => d q.1)] at h
        refine x_icmp_eq (tgt := 33) (pc' := 30) rfl rfl rfl (fun q => absurd ((nI_eq (by omega) (by omega)).mp q) d) (fun _ => ?_)
        refine x_bipush (pc' := 32) rfl rfl bipush_m3 ?_
        exact x_ireturn rfl rfl rfl (Nat.le_of_ble_eq_true rfl) (Nat.le_of_ble_eq_true rfl) (h)
    · rw [if_pos (Int32.not_le.mp c10)] at h
      refine x_bipush (pc' := 15) rfl rfl bipush_m6 ?_
      exact x_ireturn rfl rfl rfl (Nat.le_of_ble_eq_true rfl) (Nat.le_of_ble_eq_true rfl) (h)
  · rw [if_pos (Int32.not_le.mp c1)] at h
    refine x_bipush (pc' := 6) rfl rfl bipush_m4 ?_
    exact x_ireturn rfl rfl rfl (Nat.le_of_ble_eq_true rfl) (Nat.le_of_ble_eq_true rfl) (h)
theorem c_lgW {W : Nat → Int64} (hA : c_is S A) : c_is (S.1, S.2.1, S.2.2.1, x_ul S.2.2.2 1 W) A := hA
theorem q_capC (x : Int64) : (if (1000000000 : Int64) < x then (1000000000 : Int64) else x).toInt32 = q_cap x := by
  unfold q_cap
  split
  · decide
  · rfl
theorem c_sounds (hS : x_Sys z f S) (hA : c_is S A) (ho : a_ok A) (h : c_ends z f post (s_soR A a)) : Y E 9 mX5_sounds [.ref 0, .int a] z f 0 0 post := by
  refine Y.intro gX5_sounds (lv := [(0, .ref 0), (1, .int a)]) rfl (Nat.le_of_ble_eq_true rfl) ?_
  obtain ⟨b1, b2, b3, b4, b5, b6, b7, b8⟩ := id hA
  unfold s_soR at h
  refine x_aload_n (pc' := 1) rfl rfl rfl ?_
  refine x_iload_n (pc' := 2) rfl rfl rfl ?_
  refine x_cV1i (d := 1) (pc' := 5) rfl rfl sX5_183 gX5_refusalToLay (hS.1) ⟨Nat.le_of_ble_eq_true rfl, Nat.le_of_ble_eq_true rfl⟩ (Nat.le_of_ble_eq_true rfl) ⟨Nat.le_of_ble_eq_true rfl, Nat.le_of_ble_eq_true rfl⟩ ?_
  refine c_rf hS hA ho ⟨_, rfl, ?_⟩
  refine x_istore_n (pc' := 6) (lv' := [(2, _), (0, _), (1, _)]) rfl rfl (Nat.le_of_ble_eq_true rfl) rfl ?_
  refine x_iload_n (pc' := 7) rfl rfl rfl ?_
  by_cases d1 : a < 0
  · rw [if_pos d1] at h
    rw [if_pos d1]
    refine x_if_eq (tgt := 16) (pc' := 10) rfl rfl rfl (fun q => absurd q (by decide)) (fun _ => ?_)
    refine x_aload_n (pc' := 11) rfl rfl rfl ?_
    refine x_iload_n (pc' := 12) rfl rfl rfl ?_
    refine x_cV1i (d := 1) (pc' := 15) rfl rfl sX5_68 gX5_refuse (hS.1) ⟨Nat.le_of_ble_eq_true rfl, Nat.le_of_ble_eq_true rfl⟩ (Nat.le_of_ble_eq_true rfl) ⟨Nat.le_of_ble_eq_true rfl, Nat.le_of_ble_eq_true rfl⟩ ?_
    refine c_refuse (k := 4) (by decide) (by decide) hS hA (fun f1 S1 hS1 hA1 hF1 => ⟨_, rfl, ?_⟩)
    exact x_ireturn rfl rfl rfl (Nat.le_of_ble_eq_true rfl) (Nat.le_of_ble_eq_true rfl) (h _ _ hS1 hA1 hF1)
  · rw [if_neg d1] at h
    rw [if_neg d1]
    by_cases d2 : 40 < a
    · rw [if_pos d2] at h
      rw [if_pos d2]
      refine x_if_eq (tgt := 16) (pc' := 10) rfl rfl rfl (fun q => absurd q (by decide)) (fun _ => ?_)
      refine x_aload_n (pc' := 11) rfl rfl rfl ?_
      refine x_iload_n (pc' := 12) rfl rfl rfl ?_
      refine x_cV1i (d := 1) (pc' := 15) rfl rfl sX5_68 gX5_refuse (hS.1) ⟨Nat.le_of_ble_eq_true rfl, Nat.le_of_ble_eq_true rfl⟩ (Nat.le_of_ble_eq_true rfl) ⟨Nat.le_of_ble_eq_true rfl, Nat.le_of_ble_eq_true rfl⟩ ?_
      refine c_refuse (k := 6) (by decide) (by decide) hS hA (fun f1 S1 hS1 hA1 hF1 => ⟨_, rfl, ?_⟩)
      exact x_ireturn rfl rfl rfl (Nat.le_of_ble_eq_true rfl) (Nat.le_of_ble_eq_true rfl) (h _ _ hS1 hA1 hF1)
    · rw [if_neg d2] at h
      rw [if_neg d2]
      by_cases d3 : q_isR A
      · rw [if_pos d3] at h
        rw [if_pos d3]
        refine x_if_eq (tgt := 16) (pc' := 10) rfl rfl rfl (fun _ => ?_) (fun q => absurd rfl q)
        obtain ⟨n, hn, rfl⟩ := nI_of2 (n := 40) (M := 40) rfl d1 (Int32.not_lt.mp d2)
        rw [nI_clamp (by omega)] at h
        refine x_aload_n (pc' := 17) rfl rfl rfl ?_
        refine x_get (pc' := 20) rfl rfl rfl (hS.1) rfl ?_
        refine x_aload_n (pc' := 21) rfl rfl rfl ?_
        refine x_get (pc' := 24) rfl rfl rfl (hS.1) rfl ?_
        refine x_aload_n (pc' := 25) rfl rfl rfl ?_
        refine x_get (pc' := 28) rfl rfl rfl (hS.1) rfl ?_
        refine x_iload_n (pc' := 29) rfl rfl rfl ?_
        refine x_cV3l (d := 3) (pc' := 32) rfl rfl sX5_186 gX4_toLay (hS.wy) ⟨Nat.le_of_ble_eq_true rfl, Nat.le_of_ble_eq_true rfl⟩ (Nat.le_of_ble_eq_true rfl) ⟨Nat.le_of_ble_eq_true rfl, Nat.le_of_ble_eq_true rfl⟩ ?_
        refine c_toLay (q := 5) (C := 99) (Or.inr rfl) hn ho.1 hS b1 b7 ho.2.2.2.2.2.2 (fun f1 W hS1 hF1 => ⟨_, rfl, ?_⟩)
        refine x_ldc2 (pc' := 35) rfl rfl rfl ?_
        refine x_mminL (pc' := 38) rfl rfl sX5_192 ⟨Nat.le_of_ble_eq_true rfl, Nat.le_of_ble_eq_true rfl⟩ (Nat.le_of_ble_eq_true rfl) (Nat.le_of_ble_eq_true rfl) (Nat.le_of_ble_eq_true rfl) ?_
        refine x_l2i (pc' := 39) rfl rfl ?_
        refine x_eqi (q_capC _) ?_
        exact x_ireturn rfl rfl rfl (Nat.le_of_ble_eq_true rfl) (Nat.le_of_ble_eq_true rfl) (h _ _ hS1 (c_lgW hA) hF1)
      · rw [if_neg d3] at h
        rw [if_neg d3]
        refine x_if_eq (tgt := 16) (pc' := 10) rfl rfl rfl (fun q => absurd q (by decide)) (fun _ => ?_)
        refine x_aload_n (pc' := 11) rfl rfl rfl ?_
        refine x_iload_n (pc' := 12) rfl rfl rfl ?_
        refine x_cV1i (d := 1) (pc' := 15) rfl rfl sX5_68 gX5_refuse (hS.1) ⟨Nat.le_of_ble_eq_true rfl, Nat.le_of_ble_eq_true rfl⟩ (Nat.le_of_ble_eq_true rfl) ⟨Nat.le_of_ble_eq_true rfl, Nat.le_of_ble_eq_true rfl⟩ ?_
        refine c_refuse (k := 3) (by decide) (by decide) hS hA (fun f1 S1 hS1 hA1 hF1 => ⟨_, rfl, ?_⟩)
        exact x_ireturn rfl rfl rfl (Nat.le_of_ble_eq_true rfl) (Nat.le_of_ble_eq_true rfl) (h _ _ hS1 hA1 hF1)
theorem x_Sys.copy4 (h : x_Sys z f S) {g : Nat → Int32} (e : f' = x_up f 56 (.inl (12, .inl g))) : x_Sys z f' (S.1, S.2.1, x_ua S.2.2.1 4 g, S.2.2.2) := h.arr 4 (by decide) e
theorem c_btL {n : Nat} (hn : n ≤ 40) (ho : a_ok A) (f0 : x_H) (S0 : x_S) (ht : t_is (S0.2.1 0) (a_g A)) (h : ∀ (f' : x_H) (W : Nat → Int64), x_Sys z f' (S0.1, S0.2.1, x_ua S0.2.2.1 4 (fun i => nI (a_rf A i)), x_ul S0.2.2.2 1 W) → x_fr (fun q => 59 ≤ q) f0 f' → post (some (.int (q_nl (q_nlV (a_g A) (a_rf A) n) (a_rf A) (g_n (a_g A))).2)) f') : ∀ (m b : Nat) (f : x_H) (W : Nat → Int64), b + m = g_n (a_g A) → x_Sys z f (S0.1, S0.2.1, x_ua S0.2.2.1 4 (fun i => nI (a_rf A i)), x_ul S0.2.2.2 1 W) → x_fr (fun q => 59 ≤ q) f0 f → X E (x_rm 5 0 0) mX4_bowlToAsk (x_QM E z 0 0 post) 29 [(7, .int (nI b)), (5, .long (q_nl (q_nlV (a_g A) (a_rf A) n) (a_rf A) b).1), (4, .int (q_nl (q_nlV (a_g A) (a_rf A) n) (a_rf A) b).2), (0, .ref 54), (1, .ref 1), (2, .ref 57), (3, .int (nI n))] [] z f 0 0 := by
  have hn9 := ho.1.1
  have hr9 := ho.2.2.2.2.2.2
  intro m
  induction m with
  | zero =>
    intro b f W hb hS hF
    have hb2 : b = g_n (a_g A) := by omega
    subst hb2
    refine x_iload (pc' := 31) rfl rfl rfl ?_
    refine x_aload_n (pc' := 32) rfl rfl rfl ?_
    refine x_get (pc' := 35) rfl rfl rfl ((hS.2.1 0 (by decide)).1) rfl ?_
    refine x_eqi ht.2.2.2.1 ?_
    refine x_icmp_ge (tgt := 131) (pc' := 38) rfl rfl rfl (fun _ => ?_) (fun c35 => absurd ((Int32.le_refl _)) c35)
    refine x_iload (pc' := 133) rfl rfl rfl ?_
    exact x_ireturn rfl rfl rfl (Nat.le_of_ble_eq_true rfl) (Nat.le_of_ble_eq_true rfl) (h _ _ hS hF)
  | succ m ih =>
    intro b f W hb hS hF
    have eq1 : q_nl (q_nlV (a_g A) (a_rf A) n) (a_rf A) (b + 1) = if a_rf A b = 2 ∧ (q_nl (q_nlV (a_g A) (a_rf A) n) (a_rf A) b).1 < q_nlV (a_g A) (a_rf A) n b then (q_nlV (a_g A) (a_rf A) n b, nI b) else q_nl (q_nlV (a_g A) (a_rf A) n) (a_rf A) b := rfl
    have h9 := fun f W => ih (b + 1) f W (by omega)
    generalize q_nl (q_nlV (a_g A) (a_rf A) n) (a_rf A) (b + 1) = s1 at eq1 h9
    generalize q_nl (q_nlV (a_g A) (a_rf A) n) (a_rf A) b = s0 at eq1 ⊢
    have hrb := hr9 b
    have hcl : (nI b).toNatClampNeg = b := nI_clamp (by omega)
    have er : x_ua S0.2.2.1 4 (fun i => nI (a_rf A i)) 4 (nI b).toNatClampNeg = nI (a_rf A b) := by rw [hcl]; rfl
    refine x_iload (pc' := 31) rfl rfl rfl ?_
    refine x_aload_n (pc' := 32) rfl rfl rfl ?_
    refine x_get (pc' := 35) rfl rfl rfl ((hS.2.1 0 (by decide)).1) rfl ?_
    refine x_eqi ht.2.2.2.1 ?_
    refine x_icmp_ge (tgt := 131) (pc' := 38) rfl rfl rfl (fun c35 => absurd c35 ((nI_ge (by omega) (by omega)))) (fun _ => ?_)
    refine x_iload (pc' := 40) rfl rfl rfl ?_
    refine x_bipush (pc' := 42) rfl rfl bipush_12 ?_
    refine x_icmp_ge (tgt := 131) (pc' := 45) rfl rfl rfl (fun c42 => absurd c42 ((nI_ge (a := b) (b := 12) (by omega) (by decide)))) (fun _ => ?_)
    refine x_aload_n (pc' := 46) rfl rfl rfl ?_
    refine x_get (pc' := 49) rfl rfl rfl (hS.wy) rfl ?_
    refine x_iload (pc' := 51) rfl rfl rfl ?_
    refine x_iaload (pc' := 52) rfl rfl (hS.2.2.1 4 (by decide)) (vp_in_nI (n := b) (N := 12) (by omega) (by decide)) ?_
    refine x_eqi er ?_
    refine x_iconst (pc' := 53) rfl rfl iconst_2 ?_
    by_cases d : a_rf A b = 2
    · refine x_icmp_ne (tgt := 125) (pc' := 56) rfl rfl rfl (fun q => absurd (by rw [d]; rfl) q) (fun _ => ?_)
      refine x_aload_n (pc' := 57) rfl rfl rfl ?_
      refine x_get (pc' := 60) rfl rfl rfl (hS.wy) rfl ?_
      refine x_iload (pc' := 62) rfl rfl rfl ?_
      refine x_iconst (pc' := 63) rfl rfl iconst_0 ?_
      refine x_iastore (pc' := 64) rfl rfl (hS.2.2.1 4 (by decide)) (vp_in_nI (n := b) (N := 12) (by omega) (by decide)) (fun f1 e1 => ?_)
      have hS1 := hS.arr 4 (by decide) e1
      have hF1 := hF.up e1 (by decide)
      replace hS1 : x_Sys z f1 (S0.1, S0.2.1, x_ua S0.2.2.1 4 (upd (fun i => nI (a_rf A i)) b 0), x_ul S0.2.2.2 1 W) := by have q := hS1; rw [x_ua_ua, hcl] at q; exact q
      refine x_aload_n (pc' := 65) rfl rfl rfl ?_
      refine x_aload_n (pc' := 66) rfl rfl rfl ?_
      refine x_aload_n (pc' := 67) rfl rfl rfl ?_
      refine x_get (pc' := 70) rfl rfl rfl (hS1.wy) rfl ?_
      refine x_iload_n (pc' := 71) rfl rfl rfl ?_
      refine x_cV3l (d := 3) (pc' := 74) rfl rfl sX4_56 gX4_toLay (hS1.wy) ⟨Nat.le_of_ble_eq_true rfl, Nat.le_of_ble_eq_true rfl⟩ (Nat.le_of_ble_eq_true rfl) ⟨Nat.le_of_ble_eq_true rfl, Nat.le_of_ble_eq_true rfl⟩ ?_
      refine c_toLay (q := 4) (C := 99) (rw' := q_up (a_rf A) b 0) (Or.inl rfl) hn ho.1 hS1 ht (by show upd (fun i => nI (a_rf A i)) b 0 = _; exact q_up_I _ _ _) (q_up_le hr9 (by decide)) (fun f2 W2 hS2 hF2 => ⟨_, rfl, ?_⟩)
      rw [x_ul_ul] at hS2
      refine x_lstore (pc' := 76) (lv' := [(8, _), (7, _), (5, _), (4, _), (0, _), (1, _), (2, _), (3, _)]) rfl rfl (Nat.le_of_ble_eq_true rfl) rfl ?_
      refine x_aload_n (pc' := 77) rfl rfl rfl ?_
      refine x_get (pc' := 80) rfl rfl rfl (hS2.wy) rfl ?_
      refine x_iload (pc' := 82) rfl rfl rfl ?_
      refine x_iconst (pc' := 83) rfl rfl iconst_1 ?_
      refine x_iastore (pc' := 84) rfl rfl (hS2.2.2.1 4 (by decide)) (vp_in_nI (n := b) (N := 12) (by omega) (by decide)) (fun f2 e2 => ?_)
      have hS3 := hS2.arr 4 (by decide) e2
      have hF3 := (hF1.trans hF2).up e2 (by decide)
      replace hS3 : x_Sys z f2 (S0.1, S0.2.1, x_ua S0.2.2.1 4 (upd (fun i => nI (a_rf A i)) b 1), x_ul S0.2.2.2 1 W2) := by have q := hS3; rw [x_ua_ua, hcl] at q; rw [← u_uu (fun i => nI (a_rf A i)) b 0 1]; exact q
      refine x_lload (pc' := 86) rfl rfl rfl ?_
      refine x_aload_n (pc' := 87) rfl rfl rfl ?_
      refine x_aload_n (pc' := 88) rfl rfl rfl ?_
      refine x_aload_n (pc' := 89) rfl rfl rfl ?_
      refine x_get (pc' := 92) rfl rfl rfl (hS3.wy) rfl ?_
      refine x_iload_n (pc' := 93) rfl rfl rfl ?_
      refine x_cV3l (d := 3) (pc' := 96) rfl rfl sX4_56 gX4_toLay (hS3.wy) ⟨Nat.le_of_ble_eq_true rfl, Nat.le_of_ble_eq_true rfl⟩ (Nat.le_of_ble_eq_true rfl) ⟨Nat.le_of_ble_eq_true rfl, Nat.le_of_ble_eq_true rfl⟩ ?_
      refine c_toLay (q := 4) (C := 99) (rw' := q_up (a_rf A) b 1) (Or.inl rfl) hn ho.1 hS3 ht (by show upd (fun i => nI (a_rf A i)) b 1 = _; exact q_up_I _ _ _) (q_up_le hr9 (by decide)) (fun f4 W4 hS4 hF4 => ⟨_, rfl, ?_⟩)
      rw [x_ul_ul] at hS4
      refine x_mminL (pc' := 99) rfl rfl sX4_60 ⟨Nat.le_of_ble_eq_true rfl, Nat.le_of_ble_eq_true rfl⟩ (Nat.le_of_ble_eq_true rfl) (Nat.le_of_ble_eq_true rfl) (Nat.le_of_ble_eq_true rfl) ?_
      refine x_eql (show _ = q_nlV (a_g A) (a_rf A) n b from rfl) ?_
      refine x_lstore (pc' := 101) (lv' := [(10, _), (8, _), (7, _), (5, _), (4, _), (0, _), (1, _), (2, _), (3, _)]) rfl rfl (Nat.le_of_ble_eq_true rfl) rfl ?_
      refine x_aload_n (pc' := 102) rfl rfl rfl ?_
      refine x_get (pc' := 105) rfl rfl rfl (hS4.wy) rfl ?_
      refine x_iload (pc' := 107) rfl rfl rfl ?_
      refine x_iconst (pc' := 108) rfl rfl iconst_2 ?_
      refine x_iastore (pc' := 109) rfl rfl (hS4.2.2.1 4 (by decide)) (vp_in_nI (n := b) (N := 12) (by omega) (by decide)) (fun f3 e3 => ?_)
      have hS5 := hS4.arr 4 (by decide) e3
      have hF5 := (hF3.trans hF4).up e3 (by decide)
      replace hS5 : x_Sys z f3 (S0.1, S0.2.1, x_ua S0.2.2.1 4 (fun i => nI (a_rf A i)), x_ul S0.2.2.2 1 W4) := by have q := hS5; rw [x_ua_ua, hcl] at q; rw [← (u_uu (fun i => nI (a_rf A i)) b 1 2).trans (u_id (show (fun i => nI (a_rf A i)) b = 2 from by show nI (a_rf A b) = 2; rw [d]; rfl))]; exact q
      refine x_lload (pc' := 111) rfl rfl rfl ?_
      refine x_lload (pc' := 113) rfl rfl rfl ?_
      refine x_lcmp (pc' := 114) rfl rfl ?_
      by_cases d8 : s0.1 < q_nlV (a_g A) (a_rf A) n b
      · rw [if_pos ⟨d, d8⟩] at eq1
        rw [eq1] at h9
        refine x_if_le (tgt := 125) (pc' := 117) rfl rfl rfl (fun q => absurd (lg_gt.mpr d8) (Int32.not_lt.mpr q)) (fun _ => ?_)
        refine x_lload (pc' := 119) rfl rfl rfl ?_
        refine x_lstore (pc' := 121) (lv' := [(5, _), (10, _), (8, _), (7, _), (4, _), (0, _), (1, _), (2, _), (3, _)]) rfl rfl (Nat.le_of_ble_eq_true rfl) rfl ?_
        refine x_iload (pc' := 123) rfl rfl rfl ?_
        refine x_istore (pc' := 125) (lv' := [(4, _), (5, _), (10, _), (8, _), (7, _), (0, _), (1, _), (2, _), (3, _)]) rfl rfl (Nat.le_of_ble_eq_true rfl) rfl ?_
        refine x_iinc (pc' := 128) (lv' := [(7, _), (4, _), (5, _), (10, _), (8, _), (0, _), (1, _), (2, _), (3, _)]) rfl rfl (Nat.le_of_ble_eq_true rfl) rfl (nI_1 b) rfl ?_
        refine x_goto (tgt := 29) rfl rfl ?_
        refine x_lvp [0, 2, 1, 5, 6, 7, 8] rfl ?_
        exact h9 _ _ hS5 hF5
      · rw [if_neg (fun q => d8 q.2)] at eq1
        rw [eq1] at h9
        refine x_if_le (tgt := 125) (pc' := 117) rfl rfl rfl (fun _ => ?_) (fun q => absurd (lg_gt.mp (Int32.not_le.mp q)) d8)
        refine x_iinc (pc' := 128) (lv' := [(7, _), (10, _), (8, _), (5, _), (4, _), (0, _), (1, _), (2, _), (3, _)]) rfl rfl (Nat.le_of_ble_eq_true rfl) rfl (nI_1 b) rfl ?_
        refine x_goto (tgt := 29) rfl rfl ?_
        refine x_lvp [0, 3, 4, 5, 6, 7, 8] rfl ?_
        exact h9 _ _ hS5 hF5
    · rw [if_neg (fun q => d q.1)] at eq1
      rw [eq1] at h9
      refine x_icmp_ne (tgt := 125) (pc' := 56) rfl rfl rfl (fun _ => ?_) (fun q => absurd ((nI_eq (b := 2) (by omega) (by decide)).mp q) d)
      refine x_iinc (pc' := 128) (lv' := [(7, _), (5, _), (4, _), (0, _), (1, _), (2, _), (3, _)]) rfl rfl (Nat.le_of_ble_eq_true rfl) rfl (nI_1 b) rfl ?_
      refine x_goto (tgt := 29) rfl rfl ?_
      exact h9 f W hS hF
theorem c_ask {n : Nat} (hn : n ≤ 40) (ho : a_ok A) (hS : x_Sys z f S) (hA : c_is S A) (h : ∀ (f' : x_H) (W : Nat → Int64), x_Sys z f' (S.1, S.2.1, x_ua S.2.2.1 4 (fun i => nI (a_rf A i)), x_ul S.2.2.2 1 W) → x_fr (fun q => 59 ≤ q) f f' → post (some (.int (q_nl (q_nlV (a_g A) (a_rf A) n) (a_rf A) (g_n (a_g A))).2)) f') : Y E 5 mX4_bowlToAsk [.ref 54, .ref 1, .ref 57, .int (nI n)] z f 0 0 post := by
  refine Y.intro gX4_bowlToAsk (lv := [(0, .ref 54), (1, .ref 1), (2, .ref 57), (3, .int (nI n))]) rfl (Nat.le_of_ble_eq_true rfl) ?_
  obtain ⟨b1, b2, b3, b4, b5, b6, b7, b8⟩ := id hA
  have ha4 : x_a z f 56 (12, .inl (S.2.2.1 4)) := hS.2.2.1 4 (by decide)
  have ha5 : x_a z f 57 (12, .inl (S.2.2.1 5)) := hS.2.2.1 5 (by decide)
  rw [b7] at ha5
  refine x_bipush (pc' := 2) rfl rfl bipush_m9 ?_
  refine x_istore (pc' := 4) (lv' := [(4, _), (0, _), (1, _), (2, _), (3, _)]) rfl rfl (Nat.le_of_ble_eq_true rfl) rfl ?_
  refine x_ldc2 (pc' := 7) rfl rfl rfl ?_
  refine x_lstore (pc' := 9) (lv' := [(5, _), (4, _), (0, _), (1, _), (2, _), (3, _)]) rfl rfl (Nat.le_of_ble_eq_true rfl) rfl ?_
  refine x_aload_n (pc' := 10) rfl rfl rfl ?_
  refine x_iconst (pc' := 11) rfl rfl iconst_0 ?_
  refine x_aload_n (pc' := 12) rfl rfl rfl ?_
  refine x_get (pc' := 15) rfl rfl rfl (hS.wy) rfl ?_
  refine x_iconst (pc' := 16) rfl rfl iconst_0 ?_
  refine x_aload_n (pc' := 17) rfl rfl rfl ?_
  refine x_alen (pc' := 18) rfl rfl (hS.2.2.1 5 (by decide)) ?_
  refine x_bipush (pc' := 20) rfl rfl bipush_12 ?_
  refine x_mmin (pc' := 23) rfl rfl sX4_35 ⟨Nat.le_of_ble_eq_true rfl, Nat.le_of_ble_eq_true rfl⟩ (Nat.le_of_ble_eq_true rfl) (Nat.le_of_ble_eq_true rfl) (Nat.le_of_ble_eq_true rfl) ?_
  refine x_eqi (show (if (12 : Int32) < Int32.ofNat 12 then (12 : Int32) else Int32.ofNat 12) = 12 from by decide) ?_
  refine x_copyW (pc' := 26) rfl rfl sX4_50 (ha5) (ha4) (by decide) (by decide) ⟨Nat.le_of_ble_eq_true rfl, Nat.le_of_ble_eq_true rfl⟩ (Nat.le_of_ble_eq_true rfl) (fun f1 e1 => ?_)
  have hS1 := hS.arr 4 (by decide) e1
  have hF1 : x_fr (fun q => 59 ≤ q) f f1 := (x_fr.rf (P := fun q => 59 ≤ q)).up e1 (by decide)
  refine x_iconst (pc' := 27) rfl rfl iconst_0 ?_
  refine x_istore (pc' := 29) (lv' := [(7, _), (5, _), (4, _), (0, _), (1, _), (2, _), (3, _)]) rfl rfl (Nat.le_of_ble_eq_true rfl) rfl ?_
  refine x_lvp [0, 1, 2, 3, 4, 5, 6] rfl ?_
  exact c_btL hn ho f S b1 h (g_n (a_g A)) 0 _ (S.2.2.2 1) (by omega) (by rw [x_ul_id]; exact hS1) hF1
theorem c_next (hS : x_Sys z f S) (hA : c_is S A) (ho : a_ok A) (h : c_ends z f post (s_neC A a)) : Y E 9 mX5_next [.ref 0, .int a] z f 0 0 post := by
  refine Y.intro gX5_next (lv := [(0, .ref 0), (1, .int a)]) rfl (Nat.le_of_ble_eq_true rfl) ?_
  obtain ⟨b1, b2, b3, b4, b5, b6, b7, b8⟩ := id hA
  unfold s_neC at h
  refine x_aload_n (pc' := 1) rfl rfl rfl ?_
  refine x_iload_n (pc' := 2) rfl rfl rfl ?_
  refine x_cV1i (d := 1) (pc' := 5) rfl rfl sX5_183 gX5_refusalToLay (hS.1) ⟨Nat.le_of_ble_eq_true rfl, Nat.le_of_ble_eq_true rfl⟩ (Nat.le_of_ble_eq_true rfl) ⟨Nat.le_of_ble_eq_true rfl, Nat.le_of_ble_eq_true rfl⟩ ?_
  refine c_rf hS hA ho ⟨_, rfl, ?_⟩
  refine x_istore_n (pc' := 6) (lv' := [(2, _), (0, _), (1, _)]) rfl rfl (Nat.le_of_ble_eq_true rfl) rfl ?_
  refine x_iload_n (pc' := 7) rfl rfl rfl ?_
  by_cases d1 : a < 0
  · rw [if_pos d1] at h
    rw [if_pos d1]
    refine x_if_eq (tgt := 18) (pc' := 10) rfl rfl rfl (fun q => absurd q (by decide)) (fun _ => ?_)
    refine x_aload_n (pc' := 11) rfl rfl rfl ?_
    refine x_iload_n (pc' := 12) rfl rfl rfl ?_
    refine x_cV1i (d := 1) (pc' := 15) rfl rfl sX5_68 gX5_refuse (hS.1) ⟨Nat.le_of_ble_eq_true rfl, Nat.le_of_ble_eq_true rfl⟩ (Nat.le_of_ble_eq_true rfl) ⟨Nat.le_of_ble_eq_true rfl, Nat.le_of_ble_eq_true rfl⟩ ?_
    refine c_refuse (k := 4) (by decide) (by decide) hS hA (fun f1 S1 hS1 hA1 hF1 => ⟨_, rfl, ?_⟩)
    refine x_goto (tgt := 34) rfl rfl ?_
    exact x_ireturn rfl rfl rfl (Nat.le_of_ble_eq_true rfl) (Nat.le_of_ble_eq_true rfl) (h _ _ hS1 hA1 hF1)
  · rw [if_neg d1] at h
    rw [if_neg d1]
    by_cases d2 : 40 < a
    · rw [if_pos d2] at h
      rw [if_pos d2]
      refine x_if_eq (tgt := 18) (pc' := 10) rfl rfl rfl (fun q => absurd q (by decide)) (fun _ => ?_)
      refine x_aload_n (pc' := 11) rfl rfl rfl ?_
      refine x_iload_n (pc' := 12) rfl rfl rfl ?_
      refine x_cV1i (d := 1) (pc' := 15) rfl rfl sX5_68 gX5_refuse (hS.1) ⟨Nat.le_of_ble_eq_true rfl, Nat.le_of_ble_eq_true rfl⟩ (Nat.le_of_ble_eq_true rfl) ⟨Nat.le_of_ble_eq_true rfl, Nat.le_of_ble_eq_true rfl⟩ ?_
      refine c_refuse (k := 6) (by decide) (by decide) hS hA (fun f1 S1 hS1 hA1 hF1 => ⟨_, rfl, ?_⟩)
      refine x_goto (tgt := 34) rfl rfl ?_
      exact x_ireturn rfl rfl rfl (Nat.le_of_ble_eq_true rfl) (Nat.le_of_ble_eq_true rfl) (h _ _ hS1 hA1 hF1)
    · rw [if_neg d2] at h
      rw [if_neg d2]
      by_cases d3 : q_isR A
      · rw [if_pos d3] at h
        rw [if_pos d3]
        refine x_if_eq (tgt := 18) (pc' := 10) rfl rfl rfl (fun _ => ?_) (fun q => absurd rfl q)
        obtain ⟨n, hn, rfl⟩ := nI_of2 (n := 40) (M := 40) rfl d1 (Int32.not_lt.mp d2)
        rw [nI_clamp (by omega)] at h
        refine x_aload_n (pc' := 19) rfl rfl rfl ?_
        refine x_get (pc' := 22) rfl rfl rfl (hS.1) rfl ?_
        refine x_aload_n (pc' := 23) rfl rfl rfl ?_
        refine x_get (pc' := 26) rfl rfl rfl (hS.1) rfl ?_
        refine x_aload_n (pc' := 27) rfl rfl rfl ?_
        refine x_get (pc' := 30) rfl rfl rfl (hS.1) rfl ?_
        refine x_iload_n (pc' := 31) rfl rfl rfl ?_
        refine x_cV3i (d := 5) (pc' := 34) rfl rfl sX5_198 gX4_bowlToAsk (hS.wy) ⟨Nat.le_of_ble_eq_true rfl, Nat.le_of_ble_eq_true rfl⟩ (Nat.le_of_ble_eq_true rfl) ⟨Nat.le_of_ble_eq_true rfl, Nat.le_of_ble_eq_true rfl⟩ ?_
        refine c_ask hn ho hS hA (fun f1 W hS1 hF1 => ⟨_, rfl, ?_⟩)
        exact x_ireturn rfl rfl rfl (Nat.le_of_ble_eq_true rfl) (Nat.le_of_ble_eq_true rfl) (h _ _ hS1 ⟨b1, b2, b3, b4, b5, b6, b7, b8⟩ hF1)
      · rw [if_neg d3] at h
        rw [if_neg d3]
        refine x_if_eq (tgt := 18) (pc' := 10) rfl rfl rfl (fun q => absurd q (by decide)) (fun _ => ?_)
        refine x_aload_n (pc' := 11) rfl rfl rfl ?_
        refine x_iload_n (pc' := 12) rfl rfl rfl ?_
        refine x_cV1i (d := 1) (pc' := 15) rfl rfl sX5_68 gX5_refuse (hS.1) ⟨Nat.le_of_ble_eq_true rfl, Nat.le_of_ble_eq_true rfl⟩ (Nat.le_of_ble_eq_true rfl) ⟨Nat.le_of_ble_eq_true rfl, Nat.le_of_ble_eq_true rfl⟩ ?_
        refine c_refuse (k := 3) (by decide) (by decide) hS hA (fun f1 S1 hS1 hA1 hF1 => ⟨_, rfl, ?_⟩)
        refine x_goto (tgt := 34) rfl rfl ?_
        exact x_ireturn rfl rfl rfl (Nat.le_of_ble_eq_true rfl) (Nat.le_of_ble_eq_true rfl) (h _ _ hS1 hA1 hF1)
end WC
