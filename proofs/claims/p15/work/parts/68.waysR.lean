/-! The reference counts ways. -/
def q_su (w : Nat → Int64) (k lo : Nat) : Nat → Int64
  | 0 => 0
  | j + 1 => q_su w k lo j + w (k - (lo + j))
def q_w1 (w : Nat → Int64) (lo hi k : Nat) : Int64 := q_su w k lo (min hi k + 1 - lo)
def q_fw (g : q_G) (b : Nat) : Nat := if g_κ g b = 2 then 1000 else q_from (g_κ g b) (g_f g)
def q_lo (g : q_G) (rw : Nat → Nat) (b : Nat) : Nat := if rw b = 1 then q_fw g b else 0
def q_hi (g : q_G) (rw : Nat → Nat) (b : Nat) : Nat := if rw b = 0 ∧ q_fw g b ≤ 20 then q_fw g b - 1 else 20
def q_wy (g : q_G) (rw : Nat → Nat) : Nat → Nat → Int64
  | 0, k => if k = 0 then 1 else 0
  | b + 1, k => q_w1 (q_wy g rw b) (q_lo g rw b) (q_hi g rw b) k
def q_cap (x : Int64) : Int32 := if 1000000000 < x then 1000000000 else x.toInt32
theorem q_fw_in {C : Nat} {g : q_G} {b : Nat} (h : g_ok C g) : 1 ≤ q_fw g b ∧ q_fw g b ≤ 1000 := by
  have h1 := h.2.1.1
  have h2 := h.2.1.2
  unfold q_fw q_from
  repeat' split
  all_goals omega
theorem q_hi_20 {C : Nat} {g : q_G} {rw : Nat → Nat} {b : Nat} (h : g_ok C g) : q_hi g rw b ≤ 20 := by
  unfold q_hi
  split <;> omega
theorem q_lo_in {C : Nat} {g : q_G} {rw : Nat → Nat} {b : Nat} (h : g_ok C g) : q_lo g rw b ≤ 1000 := by
  have := (q_fw_in (b := b) h).2
  unfold q_lo
  split <;> omega
def q_cpL (k : Nat) (n o : Nat → Int64) : Nat → Int64 := fun j => if j < k then n j else o j
theorem q_cpL_0 (n o : Nat → Int64) : q_cpL 0 n o = o := by
  funext j
  exact if_neg (Nat.not_lt_zero j)
theorem q_cpL_s (k : Nat) (n o : Nat → Int64) : vp_updL (q_cpL k n o) k (n k) = q_cpL (k + 1) n o := by
  funext j
  unfold vp_updL q_cpL
  by_cases h : j = k
  · rw [if_pos h, if_pos (by omega), h]
  · rw [if_neg h]
    by_cases h2 : j < k
    · rw [if_pos h2, if_pos (by omega)]
    · rw [if_neg h2, if_neg (by omega)]
theorem x_ul_ul (X : Nat → Nat → Int64) (j : Nat) (g h : Nat → Int64) : x_ul (x_ul X j g) j h = x_ul X j h := by
  funext i
  unfold x_ul
  split <;> rfl
theorem x_ul_id (X : Nat → Nat → Int64) (j : Nat) : x_ul X j (X j) = X := by
  funext i
  unfold x_ul
  split
  · rename_i h
    rw [h]
  · rfl
theorem u_uu (F : Nat → Int32) (b : Nat) (u v : Int32) : upd (upd F b u) b v = upd F b v := by
  funext i
  unfold upd
  split <;> rfl
theorem u_id {F : Nat → Int32} {b : Nat} {v : Int32} (h : F b = v) : upd F b v = F := by
  funext i
  unfold upd
  split
  · rename_i e
    rw [e, h]
  · rfl
abbrev q_isR (A : q_A) : Prop := a_rc A = g_n (a_g A) ∧ ∀ i, i < a_rc A → a_rf A i ≤ 2
section WR
variable {E : x_E} {z : Nat} {f : x_H} {M M0 : x_N} {A : q_A} {post : Option Value → x_H → Prop} {g : q_G} {C : Nat} {a b : Int32} {w nw : Nat → Int64} {rw' : Nat → Nat}
theorem r_wI0 {n : Int32} (f0 : x_H) (M0 : x_N) (K : ∀ f' : x_H, x_Mdl z f' (M0.1, M0.2.1, x_ul M0.2.2 0 (q_cpL 41 (fun k => if k = 0 then 1 else 0) (M0.2.2 0))) → x_fr (fun q => q < 59) f0 f' → X E (x_rm 3 0 0) mX6_waysOf (x_QM E z 0 0 post) 29 [(2, .int (nI 41)), (0, .ref 59), (1, .int n)] [] z f' 0 0) : ∀ (m i : Nat) (f : x_H), i + m = 41 → x_Mdl z f (M0.1, M0.2.1, x_ul M0.2.2 0 (q_cpL i (fun k => if k = 0 then 1 else 0) (M0.2.2 0))) → x_fr (fun q => q < 59) f0 f → X E (x_rm 3 0 0) mX6_waysOf (x_QM E z 0 0 post) 2 [(2, .int (nI i)), (0, .ref 59), (1, .int n)] [] z f 0 0 := by
  intro m
  induction m with
  | zero =>
    intro i f hi hM hF
    have hi2 : i = 41 := by omega
    subst hi2
    refine x_iload_n (pc' := 3) rfl rfl rfl ?_
    refine x_bipush (pc' := 5) rfl rfl bipush_40 ?_
    refine x_icmp_gt (tgt := 29) (pc' := 8) rfl rfl rfl (fun _ => ?_) (fun c5 => absurd ((by decide : (40 : Int32) < nI 41)) c5)
    exact K _ hM hF
  | succ m ih =>
    intro i f hi hM hF
    have hcl : (nI i).toNatClampNeg = i := nI_clamp (by omega)
    have e9 : x_ul (x_ul M0.2.2 0 (q_cpL i (fun k => if k = 0 then 1 else 0) (M0.2.2 0))) 0 (vp_updL (q_cpL i (fun k => if k = 0 then 1 else 0) (M0.2.2 0)) (nI i).toNatClampNeg (if i = 0 then 1 else 0)) = x_ul M0.2.2 0 (q_cpL (i + 1) (fun k => if k = 0 then 1 else 0) (M0.2.2 0)) := by rw [x_ul_ul, hcl, ← q_cpL_s]
    have h9 := fun f => ih (i + 1) f (by omega)
    rw [← e9] at h9
    refine x_iload_n (pc' := 3) rfl rfl rfl ?_
    refine x_bipush (pc' := 5) rfl rfl bipush_40 ?_
    refine x_icmp_gt (tgt := 29) (pc' := 8) rfl rfl rfl (fun c5 => absurd c5 ((nI_nlt (a := 40) (b := i) (by omega) (by decide)))) (fun _ => ?_)
    refine x_aload_n (pc' := 9) rfl rfl rfl ?_
    refine x_get (pc' := 12) rfl rfl rfl (hM.1) rfl ?_
    refine x_iload_n (pc' := 13) rfl rfl rfl ?_
    refine x_iload_n (pc' := 14) rfl rfl rfl ?_
    by_cases d : i = 0
    · rw [if_pos d] at h9
      refine x_if_ne (tgt := 21) (pc' := 17) rfl rfl rfl (fun q => absurd (by rw [d]; rfl) q) (fun _ => ?_)
      refine x_lconst (pc' := 18) rfl rfl lconst_1 ?_
      refine x_goto (tgt := 22) rfl rfl ?_
      refine x_lastore (pc' := 23) rfl rfl (hM.2.2 0 (by decide)) (vp_in_nI (n := i) (N := 41) (by omega) (by decide)) (fun f1 e1 => ?_)
      have hM1 := hM.lng 0 (by decide) e1
      have hF1 := hF.up e1 (by decide)
      refine x_iinc (pc' := 26) (lv' := [(2, _), (0, _), (1, _)]) rfl rfl (Nat.le_of_ble_eq_true rfl) rfl (nI_1 i) rfl ?_
      refine x_goto (tgt := 2) rfl rfl ?_
      exact h9 _ hM1 hF1
    · rw [if_neg d] at h9
      refine x_if_ne (tgt := 21) (pc' := 17) rfl rfl rfl (fun _ => ?_) (fun q => absurd q (nI_ne0 (by omega) (by omega)))
      refine x_lconst (pc' := 22) rfl rfl lconst_0 ?_
      refine x_lastore (pc' := 23) rfl rfl (hM.2.2 0 (by decide)) (vp_in_nI (n := i) (N := 41) (by omega) (by decide)) (fun f2 e2 => ?_)
      have hM1 := hM.lng 0 (by decide) e2
      have hF1 := hF.up e2 (by decide)
      refine x_iinc (pc' := 26) (lv' := [(2, _), (0, _), (1, _)]) rfl rfl (Nat.le_of_ble_eq_true rfl) rfl (nI_1 i) rfl ?_
      refine x_goto (tgt := 2) rfl rfl ?_
      exact h9 _ hM1 hF1
theorem r_wV {n k lo hi a3 a2 : Nat} (hk : k ≤ 40) (hlo : lo ≤ 1000) (hhi : hi ≤ 20) (hM : x_Mdl z f M) (hw : ∀ j, j ≤ 40 → M.2.2 0 j = w j) (K : ∀ v : Int32, X E (x_rm 3 0 0) mX6_waysOf (x_QM E z 0 0 post) 144 [(9, .int v), (7, .long (q_w1 w lo hi k)), (6, .int (nI k)), (5, .int (nI hi)), (4, .int (nI lo)), (3, .int (nI a3)), (2, .int (nI a2)), (0, .ref 59), (1, .int (nI n))] [] z f 0 0) : ∀ (m j : Nat), j + m = min hi k + 1 - lo → X E (x_rm 3 0 0) mX6_waysOf (x_QM E z 0 0 post) 109 [(9, .int (nI (lo + j))), (7, .long (q_su w k lo j)), (6, .int (nI k)), (5, .int (nI hi)), (4, .int (nI lo)), (3, .int (nI a3)), (2, .int (nI a2)), (0, .ref 59), (1, .int (nI n))] [] z f 0 0 := by
  intro m
  induction m with
  | zero =>
    intro j hj
    have hj2 : j = min hi k + 1 - lo := by omega
    have K' := K (nI (lo + j))
    unfold q_w1 at K'
    rw [← hj2] at K'
    by_cases d : hi < lo + j
    ·
      refine x_iload (pc' := 111) rfl rfl rfl ?_
      refine x_iload (pc' := 113) rfl rfl rfl ?_
      refine x_icmp_gt (tgt := 144) (pc' := 116) rfl rfl rfl (fun _ => ?_) (fun c113 => absurd ((nI_lt d (by omega))) c113)
      exact K'
    ·
      refine x_iload (pc' := 111) rfl rfl rfl ?_
      refine x_iload (pc' := 113) rfl rfl rfl ?_
      refine x_icmp_gt (tgt := 144) (pc' := 116) rfl rfl rfl (fun c113 => absurd c113 ((nI_nlt (by omega) (by omega)))) (fun _ => ?_)
      refine x_iload (pc' := 118) rfl rfl rfl ?_
      refine x_iload (pc' := 120) rfl rfl rfl ?_
      refine x_icmp_gt (tgt := 144) (pc' := 123) rfl rfl rfl (fun _ => ?_) (fun c120 => absurd ((nI_lt (by omega) (by omega))) c120)
      exact K'
  | succ m ih =>
    intro j hj
    have e1 : M.2.2 0 (nI (k - (lo + j))).toNatClampNeg = w (k - (lo + j)) := by rw [nI_clamp (by omega), hw _ (by omega)]
    refine x_iload (pc' := 111) rfl rfl rfl ?_
    refine x_iload (pc' := 113) rfl rfl rfl ?_
    refine x_icmp_gt (tgt := 144) (pc' := 116) rfl rfl rfl (fun c113 => absurd c113 ((nI_nlt (by omega) (by omega)))) (fun _ => ?_)
    refine x_iload (pc' := 118) rfl rfl rfl ?_
    refine x_iload (pc' := 120) rfl rfl rfl ?_
    refine x_icmp_gt (tgt := 144) (pc' := 123) rfl rfl rfl (fun c120 => absurd c120 ((nI_nlt (by omega) (by omega)))) (fun _ => ?_)
    refine x_lload (pc' := 125) rfl rfl rfl ?_
    refine x_aload_n (pc' := 126) rfl rfl rfl ?_
    refine x_get (pc' := 129) rfl rfl rfl (hM.1) rfl ?_
    refine x_iload (pc' := 131) rfl rfl rfl ?_
    refine x_iload (pc' := 133) rfl rfl rfl ?_
    refine x_isub (pc' := 134) rfl rfl ?_
    refine x_eqi (pk_sub (by omega)) ?_
    refine x_laload (pc' := 135) rfl rfl (hM.2.2 0 (by decide)) (vp_in_nI (n := k - (lo + j)) (N := 41) (by omega) (by decide)) ?_
    refine x_eql e1 ?_
    refine x_ladd (pc' := 136) rfl rfl ?_
    refine x_lstore (pc' := 138) (lv' := [(7, _), (9, _), (6, _), (5, _), (4, _), (3, _), (2, _), (0, _), (1, _)]) rfl rfl (Nat.le_of_ble_eq_true rfl) rfl ?_
    refine x_iinc (pc' := 141) (lv' := [(9, _), (7, _), (6, _), (5, _), (4, _), (3, _), (2, _), (0, _), (1, _)]) rfl rfl (Nat.le_of_ble_eq_true rfl) rfl (nI_1 _) rfl ?_
    refine x_goto (tgt := 109) rfl rfl ?_
    exact ih (j + 1) (by omega)
theorem r_wK {n lo hi a3 a2 : Nat} (hlo : lo ≤ 1000) (hhi : hi ≤ 20) (f0 : x_H) (M0 : x_N) (hw : ∀ j, j ≤ 40 → M0.2.2 0 j = w j) (K : ∀ f' : x_H, x_Mdl z f' (M0.1, M0.2.1, x_ul M0.2.2 1 (q_cpL 41 (q_w1 w lo hi) (M0.2.2 1))) → x_fr (fun q => q < 59) f0 f' → X E (x_rm 3 0 0) mX6_waysOf (x_QM E z 0 0 post) 159 [(6, .int (nI 41)), (5, .int (nI hi)), (4, .int (nI lo)), (3, .int (nI a3)), (2, .int (nI a2)), (0, .ref 59), (1, .int (nI n))] [] z f' 0 0) : ∀ (m k : Nat) (f : x_H), k + m = 41 → x_Mdl z f (M0.1, M0.2.1, x_ul M0.2.2 1 (q_cpL k (q_w1 w lo hi) (M0.2.2 1))) → x_fr (fun q => q < 59) f0 f → X E (x_rm 3 0 0) mX6_waysOf (x_QM E z 0 0 post) 95 [(6, .int (nI k)), (5, .int (nI hi)), (4, .int (nI lo)), (3, .int (nI a3)), (2, .int (nI a2)), (0, .ref 59), (1, .int (nI n))] [] z f 0 0 := by
  intro m
  induction m with
  | zero =>
    intro k f hk hM hF
    have hk2 : k = 41 := by omega
    subst hk2
    refine x_iload (pc' := 97) rfl rfl rfl ?_
    refine x_bipush (pc' := 99) rfl rfl bipush_40 ?_
    refine x_icmp_gt (tgt := 159) (pc' := 102) rfl rfl rfl (fun _ => ?_) (fun c99 => absurd ((by decide : (40 : Int32) < nI 41)) c99)
    exact K _ hM hF
  | succ m ih =>
    intro k f hk hM hF
    have hcl : (nI k).toNatClampNeg = k := nI_clamp (by omega)
    have e9 : x_ul (x_ul M0.2.2 1 (q_cpL k (q_w1 w lo hi) (M0.2.2 1))) 1 (vp_updL (q_cpL k (q_w1 w lo hi) (M0.2.2 1)) (nI k).toNatClampNeg (q_w1 w lo hi k)) = x_ul M0.2.2 1 (q_cpL (k + 1) (q_w1 w lo hi) (M0.2.2 1)) := by rw [x_ul_ul, hcl, q_cpL_s]
    have h9 := fun f => ih (k + 1) f (by omega)
    rw [← e9] at h9
    refine x_iload (pc' := 97) rfl rfl rfl ?_
    refine x_bipush (pc' := 99) rfl rfl bipush_40 ?_
    refine x_icmp_gt (tgt := 159) (pc' := 102) rfl rfl rfl (fun c99 => absurd c99 ((nI_nlt (a := 40) (b := k) (by omega) (by decide)))) (fun _ => ?_)
    refine x_lconst (pc' := 103) rfl rfl lconst_0 ?_
    refine x_lstore (pc' := 105) (lv' := [(7, _), (6, _), (5, _), (4, _), (3, _), (2, _), (0, _), (1, _)]) rfl rfl (Nat.le_of_ble_eq_true rfl) rfl ?_
    refine x_iload (pc' := 107) rfl rfl rfl ?_
    refine x_istore (pc' := 109) (lv' := [(9, _), (7, _), (6, _), (5, _), (4, _), (3, _), (2, _), (0, _), (1, _)]) rfl rfl (Nat.le_of_ble_eq_true rfl) rfl ?_
    refine r_wV (w := w) (by omega) hlo hhi hM hw (fun v => ?_) (min hi k + 1 - lo) 0 (by omega)
    refine x_aload_n (pc' := 145) rfl rfl rfl ?_
    refine x_get (pc' := 148) rfl rfl rfl (hM.1) rfl ?_
    refine x_iload (pc' := 150) rfl rfl rfl ?_
    refine x_lload (pc' := 152) rfl rfl rfl ?_
    refine x_lastore (pc' := 153) rfl rfl (hM.2.2 1 (by decide)) (vp_in_nI (n := k) (N := 41) (by omega) (by decide)) (fun f1 e1 => ?_)
    have hM1 := hM.lng 1 (by decide) e1
    have hF1 := hF.up e1 (by decide)
    refine x_iinc (pc' := 156) (lv' := [(6, _), (9, _), (7, _), (5, _), (4, _), (3, _), (2, _), (0, _), (1, _)]) rfl rfl (Nat.le_of_ble_eq_true rfl) rfl (nI_1 k) rfl ?_
    refine x_goto (tgt := 95) rfl rfl ?_
    refine x_lvp [0, 3, 4, 5, 6, 7, 8] rfl ?_
    exact h9 _ hM1 hF1
theorem r_wC {n lo hi a3 a2 : Nat} (f0 : x_H) (M0 : x_N) (K : ∀ f' : x_H, x_Mdl z f' (M0.1, M0.2.1, x_ul M0.2.2 0 (q_cpL 41 (M0.2.2 1) (M0.2.2 0))) → x_fr (fun q => q < 59) f0 f' → X E (x_rm 3 0 0) mX6_waysOf (x_QM E z 0 0 post) 189 [(6, .int (nI 41)), (5, .int (nI hi)), (4, .int (nI lo)), (3, .int (nI a3)), (2, .int (nI a2)), (0, .ref 59), (1, .int (nI n))] [] z f' 0 0) : ∀ (m k : Nat) (f : x_H), k + m = 41 → x_Mdl z f (M0.1, M0.2.1, x_ul M0.2.2 0 (q_cpL k (M0.2.2 1) (M0.2.2 0))) → x_fr (fun q => q < 59) f0 f → X E (x_rm 3 0 0) mX6_waysOf (x_QM E z 0 0 post) 162 [(6, .int (nI k)), (5, .int (nI hi)), (4, .int (nI lo)), (3, .int (nI a3)), (2, .int (nI a2)), (0, .ref 59), (1, .int (nI n))] [] z f 0 0 := by
  intro m
  induction m with
  | zero =>
    intro k f hk hM hF
    have hk2 : k = 41 := by omega
    subst hk2
    refine x_iload (pc' := 164) rfl rfl rfl ?_
    refine x_bipush (pc' := 166) rfl rfl bipush_40 ?_
    refine x_icmp_gt (tgt := 189) (pc' := 169) rfl rfl rfl (fun _ => ?_) (fun c166 => absurd ((by decide : (40 : Int32) < nI 41)) c166)
    exact K _ hM hF
  | succ m ih =>
    intro k f hk hM hF
    have hcl : (nI k).toNatClampNeg = k := nI_clamp (by omega)
    have e9 : x_ul (x_ul M0.2.2 0 (q_cpL k (M0.2.2 1) (M0.2.2 0))) 0 (vp_updL (q_cpL k (M0.2.2 1) (M0.2.2 0)) (nI k).toNatClampNeg (M0.2.2 1 k)) = x_ul M0.2.2 0 (q_cpL (k + 1) (M0.2.2 1) (M0.2.2 0)) := by rw [x_ul_ul, hcl, q_cpL_s]
    have h9 := fun f => ih (k + 1) f (by omega)
    rw [← e9] at h9
    refine x_iload (pc' := 164) rfl rfl rfl ?_
    refine x_bipush (pc' := 166) rfl rfl bipush_40 ?_
    refine x_icmp_gt (tgt := 189) (pc' := 169) rfl rfl rfl (fun c166 => absurd c166 ((nI_nlt (a := 40) (b := k) (by omega) (by decide)))) (fun _ => ?_)
    refine x_aload_n (pc' := 170) rfl rfl rfl ?_
    refine x_get (pc' := 173) rfl rfl rfl (hM.1) rfl ?_
    refine x_iload (pc' := 175) rfl rfl rfl ?_
    refine x_aload_n (pc' := 176) rfl rfl rfl ?_
    refine x_get (pc' := 179) rfl rfl rfl (hM.1) rfl ?_
    refine x_iload (pc' := 181) rfl rfl rfl ?_
    refine x_laload (pc' := 182) rfl rfl (hM.2.2 1 (by decide)) (vp_in_nI (n := k) (N := 41) (by omega) (by decide)) ?_
    refine x_eql (show M0.2.2 1 (nI k).toNatClampNeg = M0.2.2 1 k from by rw [hcl]) ?_
    refine x_lastore (pc' := 183) rfl rfl (hM.2.2 0 (by decide)) (vp_in_nI (n := k) (N := 41) (by omega) (by decide)) (fun f1 e1 => ?_)
    have hM1 := hM.lng 0 (by decide) e1
    have hF1 := hF.up e1 (by decide)
    refine x_iinc (pc' := 186) (lv' := [(6, _), (5, _), (4, _), (3, _), (2, _), (0, _), (1, _)]) rfl rfl (Nat.le_of_ble_eq_true rfl) rfl (nI_1 k) rfl ?_
    refine x_goto (tgt := 162) rfl rfl ?_
    exact h9 _ hM1 hF1
theorem q_fwI {g : q_G} {b : Nat} : (if g_κ g b = 2 then (1000 : Int32) else nI (q_from (g_κ g b) (g_f g))) = nI (q_fw g b) := by
  unfold q_fw
  split <;> rfl
theorem r_wB {n : Nat} (hn : n ≤ 40) (hg : g_ok C g) (f0 : x_H) (M0 : x_N) (hm : m_is M0 g) (hrw : M0.2.1 5 = fun i => nI (rw' i)) (hr9 : ∀ i, rw' i ≤ 9) (h : ∀ (f' : x_H) (W : Nat → Nat → Int64), x_Mdl z f' (M0.1, M0.2.1, W) → x_fr (fun q => q < 59) f0 f' → post (some (.int (q_cap (q_wy g rw' (g_n g) n)))) f') : ∀ (m b : Nat) (f : x_H) (W : Nat → Nat → Int64), b + m = g_n g → x_Mdl z f (M0.1, M0.2.1, W) → (∀ j, j ≤ 40 → W 0 j = q_wy g rw' b j) → x_fr (fun q => q < 59) f0 f → X E (x_rm 3 0 0) mX6_waysOf (x_QM E z 0 0 post) 31 [(2, .int (nI b)), (0, .ref 59), (1, .int (nI n))] [] z f 0 0 := by
  have hn9 := hg.1
  intro m
  induction m with
  | zero =>
    intro b f W hb hM hW hF
    have hb2 : b = g_n g := by omega
    subst hb2
    have e1 : W 0 (nI n).toNatClampNeg = q_wy g rw' (g_n g) n := by rw [nI_clamp (by omega), hW n hn]
    unfold q_cap at h
    refine x_iload_n (pc' := 32) rfl rfl rfl ?_
    refine x_aload_n (pc' := 33) rfl rfl rfl ?_
    refine x_get (pc' := 36) rfl rfl rfl (hM.1) rfl ?_
    refine x_eqi hm.2.2.2.1 ?_
    refine x_icmp_ge (tgt := 195) (pc' := 39) rfl rfl rfl (fun _ => ?_) (fun c36 => absurd ((Int32.le_refl _)) c36)
    refine x_aload_n (pc' := 196) rfl rfl rfl ?_
    refine x_get (pc' := 199) rfl rfl rfl (hM.1) rfl ?_
    refine x_iload_n (pc' := 200) rfl rfl rfl ?_
    refine x_laload (pc' := 201) rfl rfl (hM.2.2 0 (by decide)) (vp_in_nI (n := n) (N := 41) (by omega) (by decide)) ?_
    refine x_eql e1 ?_
    refine x_ldc2 (pc' := 204) rfl rfl rfl ?_
    refine x_lcmp (pc' := 205) rfl rfl ?_
    by_cases d : 1000000000 < q_wy g rw' (g_n g) n
    · rw [if_pos d] at h
      refine x_if_le (tgt := 213) (pc' := 208) rfl rfl rfl (fun q => absurd (lg_gt.mpr d) (Int32.not_lt.mpr q)) (fun _ => ?_)
      refine x_ldc (pc' := 210) rfl rfl rfl ?_
      refine x_goto (tgt := 220) rfl rfl ?_
      exact x_ireturn rfl rfl rfl (Nat.le_of_ble_eq_true rfl) (Nat.le_of_ble_eq_true rfl) (h _ _ hM hF)
    · rw [if_neg d] at h
      refine x_if_le (tgt := 213) (pc' := 208) rfl rfl rfl (fun _ => ?_) (fun q => absurd (lg_gt.mp (Int32.not_le.mp q)) d)
      refine x_aload_n (pc' := 214) rfl rfl rfl ?_
      refine x_get (pc' := 217) rfl rfl rfl (hM.1) rfl ?_
      refine x_iload_n (pc' := 218) rfl rfl rfl ?_
      refine x_laload (pc' := 219) rfl rfl (hM.2.2 0 (by decide)) (vp_in_nI (n := n) (N := 41) (by omega) (by decide)) ?_
      refine x_eql e1 ?_
      refine x_l2i (pc' := 220) rfl rfl ?_
      exact x_ireturn rfl rfl rfl (Nat.le_of_ble_eq_true rfl) (Nat.le_of_ble_eq_true rfl) (h _ _ hM hF)
  | succ m ih =>
    intro b f W hb hM hW hF
    have hκ := hg.2.2.2.2.1 b
    have hfu := hg.2.1
    have hfw := q_fw_in (b := b) hg
    have hlo := q_lo_in (rw := rw') (b := b) hg
    have hhi := q_hi_20 (rw := rw') (b := b) hg
    have hr := hr9 b
    have hcl : (nI b).toNatClampNeg = b := nI_clamp (by omega)
    have eκ : M0.2.1 0 (nI b).toNatClampNeg = nI (g_κ g b) := by rw [hcl, hm.1]
    have er : M0.2.1 5 (nI b).toNatClampNeg = nI (rw' b) := by rw [hcl, hrw]
    refine x_iload_n (pc' := 32) rfl rfl rfl ?_
    refine x_aload_n (pc' := 33) rfl rfl rfl ?_
    refine x_get (pc' := 36) rfl rfl rfl (hM.1) rfl ?_
    refine x_eqi hm.2.2.2.1 ?_
    refine x_icmp_ge (tgt := 195) (pc' := 39) rfl rfl rfl (fun c36 => absurd c36 ((nI_ge (by omega) (by omega)))) (fun _ => ?_)
    refine x_aload_n (pc' := 40) rfl rfl rfl ?_
    refine x_aload_n (pc' := 41) rfl rfl rfl ?_
    refine x_get (pc' := 44) rfl rfl rfl (hM.1) rfl ?_
    refine x_iload_n (pc' := 45) rfl rfl rfl ?_
    refine x_iaload (pc' := 46) rfl rfl (hM.2.1 0 (by decide)) (vp_in_nI (n := b) (N := 9) (by omega) (by decide)) ?_
    refine x_eqi eκ ?_
    refine x_cV1i (d := 1) (pc' := 49) rfl rfl sX6_93 gX6_soundsFrom (hM.1) ⟨Nat.le_of_ble_eq_true rfl, Nat.le_of_ble_eq_true rfl⟩ (Nat.le_of_ble_eq_true rfl) ⟨Nat.le_of_ble_eq_true rfl, Nat.le_of_ble_eq_true rfl⟩ ?_
    refine m_sounds1 hM hm.2.2.2.2.1 (by omega) hκ ⟨_, rfl, ?_⟩
    rw [q_fwI]
    refine x_istore_n (pc' := 50) (lv' := [(3, _), (2, _), (0, _), (1, _)]) rfl rfl (Nat.le_of_ble_eq_true rfl) rfl ?_
    have K95 : X E (x_rm 3 0 0) mX6_waysOf (x_QM E z 0 0 post) 95 [(6, .int (nI 0)), (5, .int (nI (q_hi g rw' b))), (4, .int (nI (q_lo g rw' b))), (3, .int (nI (q_fw g b))), (2, .int (nI b)), (0, .ref 59), (1, .int (nI n))] [] z f 0 0 := by
      refine r_wK (w := q_wy g rw' b) hlo hhi f (M0.1, M0.2.1, W) hW (fun f1 hM1 hF1 => ?_) 41 0 f (by decide) (by rw [q_cpL_0, x_ul_id]; exact hM) x_fr.rf
      refine x_iconst (pc' := 160) rfl rfl iconst_0 ?_
      refine x_istore (pc' := 162) (lv' := [(6, _), (5, _), (4, _), (3, _), (2, _), (0, _), (1, _)]) rfl rfl (Nat.le_of_ble_eq_true rfl) rfl ?_
      refine r_wC f1 (M0.1, M0.2.1, x_ul W 1 (q_cpL 41 (q_w1 (q_wy g rw' b) (q_lo g rw' b) (q_hi g rw' b)) (W 1))) (fun f2 hM2 hF2 => ?_) 41 0 f1 (by decide) (by rw [q_cpL_0, x_ul_id]; exact hM1) x_fr.rf
      refine x_iinc (pc' := 192) (lv' := [(2, _), (6, _), (5, _), (4, _), (3, _), (0, _), (1, _)]) rfl rfl (Nat.le_of_ble_eq_true rfl) rfl (nI_1 b) rfl ?_
      refine x_goto (tgt := 31) rfl rfl ?_
      refine x_lvp [0, 5, 6] rfl ?_
      refine ih (b + 1) f2 _ (by omega) hM2 (fun j hj => ?_) ((hF.trans hF1).trans hF2)
      show q_cpL 41 (q_cpL 41 (q_w1 (q_wy g rw' b) (q_lo g rw' b) (q_hi g rw' b)) (W 1)) _ j = _
      unfold q_cpL
      rw [if_pos (by omega), if_pos (by omega)]
      rfl
    refine x_aload_n (pc' := 51) rfl rfl rfl ?_
    refine x_get (pc' := 54) rfl rfl rfl (hM.1) rfl ?_
    refine x_iload_n (pc' := 55) rfl rfl rfl ?_
    refine x_iaload (pc' := 56) rfl rfl (hM.2.1 5 (by decide)) (vp_in_nI (n := b) (N := 12) (by omega) (by decide)) ?_
    refine x_eqi er ?_
    refine x_iconst (pc' := 57) rfl rfl iconst_1 ?_
    by_cases d : rw' b = 1
    · have elo : nI (q_fw g b) = nI (q_lo g rw' b) := by unfold q_lo; rw [if_pos d]
      refine x_icmp_ne (tgt := 64) (pc' := 60) rfl rfl rfl (fun q => absurd (by rw [d]; rfl) q) (fun _ => ?_)
      refine x_iload_n (pc' := 61) rfl rfl rfl ?_
      refine x_goto (tgt := 65) rfl rfl ?_
      refine x_eqi elo ?_
      refine x_istore (pc' := 67) (lv' := [(4, _), (3, _), (2, _), (0, _), (1, _)]) rfl rfl (Nat.le_of_ble_eq_true rfl) rfl ?_
      refine x_aload_n (pc' := 68) rfl rfl rfl ?_
      refine x_get (pc' := 71) rfl rfl rfl (hM.1) rfl ?_
      refine x_iload_n (pc' := 72) rfl rfl rfl ?_
      refine x_iaload (pc' := 73) rfl rfl (hM.2.1 5 (by decide)) (vp_in_nI (n := b) (N := 12) (by omega) (by decide)) ?_
      refine x_eqi er ?_
      by_cases d5 : rw' b = 0
      · refine x_if_ne (tgt := 88) (pc' := 76) rfl rfl rfl (fun q => absurd (by rw [d5]; rfl) q) (fun _ => ?_)
        refine x_iload_n (pc' := 77) rfl rfl rfl ?_
        refine x_bipush (pc' := 79) rfl rfl bipush_20 ?_
        by_cases d6 : q_fw g b ≤ 20
        · have ehi : nI (q_fw g b - 1) = nI (q_hi g rw' b) := by unfold q_hi; rw [if_pos ⟨d5, d6⟩]
          refine x_icmp_gt (tgt := 88) (pc' := 82) rfl rfl rfl (fun q => absurd q (nI_nlt (a := 20) d6 (by decide))) (fun _ => ?_)
          refine x_iload_n (pc' := 83) rfl rfl rfl ?_
          refine x_iconst (pc' := 84) rfl rfl iconst_1 ?_
          refine x_isub (pc' := 85) rfl rfl ?_
          refine x_eqi (show nI (q_fw g b) - 1 = nI (q_fw g b - 1) from pk_sub (b := 1) hfw.1) ?_
          refine x_goto (tgt := 90) rfl rfl ?_
          refine x_eqi ehi ?_
          refine x_istore (pc' := 92) (lv' := [(5, _), (4, _), (3, _), (2, _), (0, _), (1, _)]) rfl rfl (Nat.le_of_ble_eq_true rfl) rfl ?_
          refine x_iconst (pc' := 93) rfl rfl iconst_0 ?_
          refine x_istore (pc' := 95) (lv' := [(6, _), (5, _), (4, _), (3, _), (2, _), (0, _), (1, _)]) rfl rfl (Nat.le_of_ble_eq_true rfl) rfl ?_
          exact K95
        · have ehi : 20 = nI (q_hi g rw' b) := by unfold q_hi; rw [if_neg (fun q => d6 q.2)]; rfl
          refine x_icmp_gt (tgt := 88) (pc' := 82) rfl rfl rfl (fun _ => ?_) (fun q => absurd (nI_lt (a := 20) (by omega) (by omega)) q)
          refine x_bipush (pc' := 90) rfl rfl bipush_20 ?_
          refine x_eqi ehi ?_
          refine x_istore (pc' := 92) (lv' := [(5, _), (4, _), (3, _), (2, _), (0, _), (1, _)]) rfl rfl (Nat.le_of_ble_eq_true rfl) rfl ?_
          refine x_iconst (pc' := 93) rfl rfl iconst_0 ?_
          refine x_istore (pc' := 95) (lv' := [(6, _), (5, _), (4, _), (3, _), (2, _), (0, _), (1, _)]) rfl rfl (Nat.le_of_ble_eq_true rfl) rfl ?_
          exact K95
      · have ehi : 20 = nI (q_hi g rw' b) := by unfold q_hi; rw [if_neg (fun q => d5 q.1)]; rfl
        refine x_if_ne (tgt := 88) (pc' := 76) rfl rfl rfl (fun _ => ?_) (fun q => absurd q (nI_ne0 (by omega) (by omega)))
        refine x_bipush (pc' := 90) rfl rfl bipush_20 ?_
        refine x_eqi ehi ?_
        refine x_istore (pc' := 92) (lv' := [(5, _), (4, _), (3, _), (2, _), (0, _), (1, _)]) rfl rfl (Nat.le_of_ble_eq_true rfl) rfl ?_
        refine x_iconst (pc' := 93) rfl rfl iconst_0 ?_
        refine x_istore (pc' := 95) (lv' := [(6, _), (5, _), (4, _), (3, _), (2, _), (0, _), (1, _)]) rfl rfl (Nat.le_of_ble_eq_true rfl) rfl ?_
        exact K95
    · have elo : 0 = nI (q_lo g rw' b) := by unfold q_lo; rw [if_neg d]; rfl
      refine x_icmp_ne (tgt := 64) (pc' := 60) rfl rfl rfl (fun _ => ?_) (fun q => absurd ((nI_eq (b := 1) (by omega) (by decide)).mp q) d)
      refine x_iconst (pc' := 65) rfl rfl iconst_0 ?_
      refine x_eqi elo ?_
      refine x_istore (pc' := 67) (lv' := [(4, _), (3, _), (2, _), (0, _), (1, _)]) rfl rfl (Nat.le_of_ble_eq_true rfl) rfl ?_
      refine x_aload_n (pc' := 68) rfl rfl rfl ?_
      refine x_get (pc' := 71) rfl rfl rfl (hM.1) rfl ?_
      refine x_iload_n (pc' := 72) rfl rfl rfl ?_
      refine x_iaload (pc' := 73) rfl rfl (hM.2.1 5 (by decide)) (vp_in_nI (n := b) (N := 12) (by omega) (by decide)) ?_
      refine x_eqi er ?_
      by_cases d5 : rw' b = 0
      · refine x_if_ne (tgt := 88) (pc' := 76) rfl rfl rfl (fun q => absurd (by rw [d5]; rfl) q) (fun _ => ?_)
        refine x_iload_n (pc' := 77) rfl rfl rfl ?_
        refine x_bipush (pc' := 79) rfl rfl bipush_20 ?_
        by_cases d6 : q_fw g b ≤ 20
        · have ehi : nI (q_fw g b - 1) = nI (q_hi g rw' b) := by unfold q_hi; rw [if_pos ⟨d5, d6⟩]
          refine x_icmp_gt (tgt := 88) (pc' := 82) rfl rfl rfl (fun q => absurd q (nI_nlt (a := 20) d6 (by decide))) (fun _ => ?_)
          refine x_iload_n (pc' := 83) rfl rfl rfl ?_
          refine x_iconst (pc' := 84) rfl rfl iconst_1 ?_
          refine x_isub (pc' := 85) rfl rfl ?_
          refine x_eqi (show nI (q_fw g b) - 1 = nI (q_fw g b - 1) from pk_sub (b := 1) hfw.1) ?_
          refine x_goto (tgt := 90) rfl rfl ?_
          refine x_eqi ehi ?_
          refine x_istore (pc' := 92) (lv' := [(5, _), (4, _), (3, _), (2, _), (0, _), (1, _)]) rfl rfl (Nat.le_of_ble_eq_true rfl) rfl ?_
          refine x_iconst (pc' := 93) rfl rfl iconst_0 ?_
          refine x_istore (pc' := 95) (lv' := [(6, _), (5, _), (4, _), (3, _), (2, _), (0, _), (1, _)]) rfl rfl (Nat.le_of_ble_eq_true rfl) rfl ?_
          exact K95
        · have ehi : 20 = nI (q_hi g rw' b) := by unfold q_hi; rw [if_neg (fun q => d6 q.2)]; rfl
          refine x_icmp_gt (tgt := 88) (pc' := 82) rfl rfl rfl (fun _ => ?_) (fun q => absurd (nI_lt (a := 20) (by omega) (by omega)) q)
          refine x_bipush (pc' := 90) rfl rfl bipush_20 ?_
          refine x_eqi ehi ?_
          refine x_istore (pc' := 92) (lv' := [(5, _), (4, _), (3, _), (2, _), (0, _), (1, _)]) rfl rfl (Nat.le_of_ble_eq_true rfl) rfl ?_
          refine x_iconst (pc' := 93) rfl rfl iconst_0 ?_
          refine x_istore (pc' := 95) (lv' := [(6, _), (5, _), (4, _), (3, _), (2, _), (0, _), (1, _)]) rfl rfl (Nat.le_of_ble_eq_true rfl) rfl ?_
          exact K95
      · have ehi : 20 = nI (q_hi g rw' b) := by unfold q_hi; rw [if_neg (fun q => d5 q.1)]; rfl
        refine x_if_ne (tgt := 88) (pc' := 76) rfl rfl rfl (fun _ => ?_) (fun q => absurd q (nI_ne0 (by omega) (by omega)))
        refine x_bipush (pc' := 90) rfl rfl bipush_20 ?_
        refine x_eqi ehi ?_
        refine x_istore (pc' := 92) (lv' := [(5, _), (4, _), (3, _), (2, _), (0, _), (1, _)]) rfl rfl (Nat.le_of_ble_eq_true rfl) rfl ?_
        refine x_iconst (pc' := 93) rfl rfl iconst_0 ?_
        refine x_istore (pc' := 95) (lv' := [(6, _), (5, _), (4, _), (3, _), (2, _), (0, _), (1, _)]) rfl rfl (Nat.le_of_ble_eq_true rfl) rfl ?_
        exact K95
theorem m_waysOf {n : Nat} (hn : n ≤ 40) (hM : x_Mdl z f M) (hm : m_is M g) (hg : g_ok C g) (hrw : M.2.1 5 = fun i => nI (rw' i)) (hr9 : ∀ i, rw' i ≤ 9) (h : ∀ (f' : x_H) (W : Nat → Nat → Int64), x_Mdl z f' (M.1, M.2.1, W) → x_fr (fun q => q < 59) f f' → post (some (.int (q_cap (q_wy g rw' (g_n g) n)))) f') : Y E 3 mX6_waysOf [.ref 59, .int (nI n)] z f 0 0 post := by
  refine Y.intro gX6_waysOf (lv := [(0, .ref 59), (1, .int (nI n))]) rfl (Nat.le_of_ble_eq_true rfl) ?_
  refine x_iconst (pc' := 1) rfl rfl iconst_0 ?_
  refine x_istore_n (pc' := 2) (lv' := [(2, _), (0, _), (1, _)]) rfl rfl (Nat.le_of_ble_eq_true rfl) rfl ?_
  refine r_wI0 f M (fun f1 hM1 hF1 => ?_) 41 0 f (by decide) (by rw [q_cpL_0, x_ul_id]; exact hM) x_fr.rf
  refine x_iconst (pc' := 30) rfl rfl iconst_0 ?_
  refine x_istore_n (pc' := 31) (lv' := [(2, _), (0, _), (1, _)]) rfl rfl (Nat.le_of_ble_eq_true rfl) rfl ?_
  exact r_wB hn hg f M hm hrw hr9 h (g_n g) 0 f1 _ (by omega) hM1 (fun j hj => by rw [show x_ul M.2.2 0 (q_cpL 41 (fun k => if k = 0 then (1 : Int64) else 0) (M.2.2 0)) 0 = q_cpL 41 (fun k => if k = 0 then (1 : Int64) else 0) (M.2.2 0) from rfl]; unfold q_cpL; rw [if_pos (by omega)]; rfl) hF1
theorem m_isRL (hM : x_Mdl z f M) (hA : r_is M A) (ho : a_ok A) (h1 : (∀ i, i < a_rc A → a_rf A i ≤ 2) → post (some (.int 1)) f) (h0 : ¬ (∀ i, i < a_rc A → a_rf A i ≤ 2) → post (some (.int 0)) f) : ∀ (m i : Nat), i + m = a_rc A → (∀ j, j < i → a_rf A j ≤ 2) → X E (x_rm 1 0 0) mX6_isRow (x_QM E z 0 0 post) 15 [(1, .int (nI i)), (0, .ref 59)] [] z f 0 0 := by
  obtain ⟨b1, b2, b3, b4, b5, b6, b7, b8, b9⟩ := id hA
  have hrc := ho.2.2.2.2.2.1
  intro m
  induction m with
  | zero =>
    intro i hi hj
    have hi2 : i = a_rc A := by omega
    subst hi2
    refine x_iload_n (pc' := 16) rfl rfl rfl ?_
    refine x_aload_n (pc' := 17) rfl rfl rfl ?_
    refine x_get (pc' := 20) rfl rfl rfl (hM.1) rfl ?_
    refine x_eqi b7 ?_
    refine x_icmp_ge (tgt := 41) (pc' := 23) rfl rfl rfl (fun _ => ?_) (fun c20 => absurd ((Int32.le_refl _)) c20)
    refine x_iconst (pc' := 42) rfl rfl iconst_1 ?_
    exact x_ireturn rfl rfl rfl (Nat.le_of_ble_eq_true rfl) (Nat.le_of_ble_eq_true rfl) (h1 hj)
  | succ m ih =>
    intro i hi hj
    have h9 := ho.2.2.2.2.2.2 i
    have er : M.2.1 5 (nI i).toNatClampNeg = nI (a_rf A i) := by rw [nI_clamp (by omega), b8]
    refine x_iload_n (pc' := 16) rfl rfl rfl ?_
    refine x_aload_n (pc' := 17) rfl rfl rfl ?_
    refine x_get (pc' := 20) rfl rfl rfl (hM.1) rfl ?_
    refine x_eqi b7 ?_
    refine x_icmp_ge (tgt := 41) (pc' := 23) rfl rfl rfl (fun c20 => absurd c20 ((nI_ge (by omega) (by omega)))) (fun _ => ?_)
    refine x_aload_n (pc' := 24) rfl rfl rfl ?_
    refine x_get (pc' := 27) rfl rfl rfl (hM.1) rfl ?_
    refine x_iload_n (pc' := 28) rfl rfl rfl ?_
    refine x_iaload (pc' := 29) rfl rfl (hM.2.1 5 (by decide)) (vp_in_nI (n := i) (N := 12) (by omega) (by decide)) ?_
    refine x_eqi er ?_
    refine x_iconst (pc' := 30) rfl rfl iconst_2 ?_
    by_cases d : a_rf A i ≤ 2
    · refine x_icmp_le (tgt := 35) (pc' := 33) rfl rfl rfl (fun _ => ?_) (fun q => absurd (nI_le (b := 2) d (by decide)) q)
      refine x_iinc (pc' := 38) (lv' := [(1, _), (0, _)]) rfl rfl (Nat.le_of_ble_eq_true rfl) rfl (nI_1 i) rfl ?_
      refine x_goto (tgt := 15) rfl rfl ?_
      exact ih (i + 1) (by omega) (fun j hj2 => by
        by_cases e : j = i
        · rw [e]
          exact d
        · exact hj j (by omega))
    · refine x_icmp_le (tgt := 35) (pc' := 33) rfl rfl rfl (fun q => absurd q (nI_ge (a := 2) (by omega) (by omega))) (fun _ => ?_)
      refine x_iconst (pc' := 34) rfl rfl iconst_0 ?_
      exact x_ireturn rfl rfl rfl (Nat.le_of_ble_eq_true rfl) (Nat.le_of_ble_eq_true rfl) (h0 (fun q => d (q i (by omega))))
theorem m_isR (hM : x_Mdl z f M) (hA : r_is M A) (ho : a_ok A) (h1 : q_isR A → post (some (.int 1)) f) (h0 : ¬ q_isR A → post (some (.int 0)) f) : Y E 1 mX6_isRow [.ref 59] z f 0 0 post := by
  refine Y.intro gX6_isRow (lv := [(0, .ref 59)]) rfl (Nat.le_of_ble_eq_true rfl) ?_
  obtain ⟨b1, b2, b3, b4, b5, b6, b7, b8, b9⟩ := id hA
  have hrc := ho.2.2.2.2.2.1
  have hn9 := ho.1.1
  refine x_aload_n (pc' := 1) rfl rfl rfl ?_
  refine x_get (pc' := 4) rfl rfl rfl (hM.1) rfl ?_
  refine x_eqi b7 ?_
  refine x_aload_n (pc' := 5) rfl rfl rfl ?_
  refine x_get (pc' := 8) rfl rfl rfl (hM.1) rfl ?_
  refine x_eqi b1.2.2.2.1 ?_
  by_cases d : a_rc A = g_n (a_g A)
  · refine x_icmp_eq (tgt := 13) (pc' := 11) rfl rfl rfl (fun _ => ?_) (fun q => absurd (by rw [d]) q)
    refine x_iconst (pc' := 14) rfl rfl iconst_0 ?_
    refine x_istore_n (pc' := 15) (lv' := [(1, _), (0, _)]) rfl rfl (Nat.le_of_ble_eq_true rfl) rfl ?_
    exact m_isRL hM hA ho (fun q => h1 ⟨d, q⟩) (fun q => h0 (fun k => q k.2)) (a_rc A) 0 (by omega) (fun j hj => absurd hj (Nat.not_lt_zero j))
  · refine x_icmp_eq (tgt := 13) (pc' := 11) rfl rfl rfl (fun q => absurd ((nI_eq (by omega) (by omega)).mp q) d) (fun _ => ?_)
    refine x_iconst (pc' := 12) rfl rfl iconst_0 ?_
    exact x_ireturn rfl rfl rfl (Nat.le_of_ble_eq_true rfl) (Nat.le_of_ble_eq_true rfl) (h0 (fun q => d q.1))
def s_soR (A : q_A) (a : Int32) : q_A × Int32 := if a < 0 then (s_no A 4, -4) else if 40 < a then (s_no A 6, -6) else if q_isR A then (A, q_cap (q_wy (a_g A) (a_rf A) (g_n (a_g A)) a.toNatClampNeg)) else (s_no A 3, -3)
theorem r_sounds (hM : x_Mdl z f M) (hA : r_is M A) (ho : a_ok A) (h : r_ends z f post (s_soR A a)) : Y E 9 mX6_sounds [.ref 59, .int a] z f 0 0 post := by
  refine Y.intro gX6_sounds (lv := [(0, .ref 59), (1, .int a)]) rfl (Nat.le_of_ble_eq_true rfl) ?_
  obtain ⟨b1, b2, b3, b4, b5, b6, b7, b8, b9⟩ := id hA
  refine x_iload_n (pc' := 1) rfl rfl rfl ?_
  refine x_if_ge (tgt := 11) (pc' := 4) rfl rfl rfl (fun c1 => ?_) (fun c1 => ?_)
  · have d1 : ¬ a < 0 := Int32.not_lt.mpr c1
    refine x_iload_n (pc' := 12) rfl rfl rfl ?_
    refine x_bipush (pc' := 14) rfl rfl bipush_40 ?_
    refine x_icmp_le (tgt := 24) (pc' := 17) rfl rfl rfl (fun c14 => ?_) (fun c14 => ?_)
    · have d2 : ¬ 40 < a := Int32.not_lt.mpr c14
      rw [show s_soR A a = _ from (if_neg d1).trans (if_neg d2)] at h
      refine x_aload_n (pc' := 25) rfl rfl rfl ?_
      refine x_cV0i (d := 1) (pc' := 28) rfl rfl sX6_208 gX6_isRow (hM.1) ⟨Nat.le_of_ble_eq_true rfl, Nat.le_of_ble_eq_true rfl⟩ (Nat.le_of_ble_eq_true rfl) ⟨Nat.le_of_ble_eq_true rfl, Nat.le_of_ble_eq_true rfl⟩ ?_
      refine m_isR hM hA ho (fun d3 => ⟨_, rfl, ?_⟩) (fun d3 => ⟨_, rfl, ?_⟩)
      · rw [if_pos d3] at h
        obtain ⟨n, hn, rfl⟩ := nI_of2 (n := 40) (M := 40) rfl d1 (Int32.not_lt.mp d2)
        rw [nI_clamp (by omega)] at h
        refine x_if_eq (tgt := 39) (pc' := 31) rfl rfl rfl (fun c28 => absurd c28 ((by decide))) (fun _ => ?_)
        refine x_aload_n (pc' := 32) rfl rfl rfl ?_
        refine x_iload_n (pc' := 33) rfl rfl rfl ?_
        refine x_cV1i (d := 3) (pc' := 36) rfl rfl sX6_212 gX6_waysOf (hM.1) ⟨Nat.le_of_ble_eq_true rfl, Nat.le_of_ble_eq_true rfl⟩ (Nat.le_of_ble_eq_true rfl) ⟨Nat.le_of_ble_eq_true rfl, Nat.le_of_ble_eq_true rfl⟩ ?_
        refine m_waysOf (C := 99) hn hM b1 ho.1 b8 ho.2.2.2.2.2.2 (fun f1 W hM1 hF1 => ⟨_, rfl, ?_⟩)
        refine x_goto (tgt := 45) rfl rfl ?_
        exact x_ireturn rfl rfl rfl (Nat.le_of_ble_eq_true rfl) (Nat.le_of_ble_eq_true rfl) (h _ _ hM1 hA hF1)
      · rw [if_neg d3] at h
        refine x_if_eq (tgt := 39) (pc' := 31) rfl rfl rfl (fun _ => ?_) (fun c28 => absurd (rfl) c28)
        refine x_aload_n (pc' := 40) rfl rfl rfl ?_
        refine x_bipush (pc' := 42) rfl rfl bipush_m3 ?_
        refine x_cV1i (d := 1) (pc' := 45) rfl rfl sX6_110 gX6_refuse (hM.1) ⟨Nat.le_of_ble_eq_true rfl, Nat.le_of_ble_eq_true rfl⟩ (Nat.le_of_ble_eq_true rfl) ⟨Nat.le_of_ble_eq_true rfl, Nat.le_of_ble_eq_true rfl⟩ ?_
        refine r_refuse (k := 2) (by decide) (by decide) hM hA (fun f1 M1 hM1 hA1 hF1 => ⟨_, rfl, ?_⟩)
        exact x_ireturn rfl rfl rfl (Nat.le_of_ble_eq_true rfl) (Nat.le_of_ble_eq_true rfl) (h _ _ hM1 hA1 hF1)
    · rw [show s_soR A a = _ from (if_neg d1).trans (if_pos (Int32.not_le.mp c14))] at h
      refine x_aload_n (pc' := 18) rfl rfl rfl ?_
      refine x_bipush (pc' := 20) rfl rfl bipush_m6 ?_
      refine x_cV1i (d := 1) (pc' := 23) rfl rfl sX6_110 gX6_refuse (hM.1) ⟨Nat.le_of_ble_eq_true rfl, Nat.le_of_ble_eq_true rfl⟩ (Nat.le_of_ble_eq_true rfl) ⟨Nat.le_of_ble_eq_true rfl, Nat.le_of_ble_eq_true rfl⟩ ?_
      refine r_refuse (k := 5) (by decide) (by decide) hM hA (fun f1 M1 hM1 hA1 hF1 => ⟨_, rfl, ?_⟩)
      exact x_ireturn rfl rfl rfl (Nat.le_of_ble_eq_true rfl) (Nat.le_of_ble_eq_true rfl) (h _ _ hM1 hA1 hF1)
  · rw [show s_soR A a = _ from if_pos (Int32.not_le.mp c1)] at h
    refine x_aload_n (pc' := 5) rfl rfl rfl ?_
    refine x_bipush (pc' := 7) rfl rfl bipush_m4 ?_
    refine x_cV1i (d := 1) (pc' := 10) rfl rfl sX6_110 gX6_refuse (hM.1) ⟨Nat.le_of_ble_eq_true rfl, Nat.le_of_ble_eq_true rfl⟩ (Nat.le_of_ble_eq_true rfl) ⟨Nat.le_of_ble_eq_true rfl, Nat.le_of_ble_eq_true rfl⟩ ?_
    refine r_refuse (k := 3) (by decide) (by decide) hM hA (fun f1 M1 hM1 hA1 hF1 => ⟨_, rfl, ?_⟩)
    exact x_ireturn rfl rfl rfl (Nat.le_of_ble_eq_true rfl) (Nat.le_of_ble_eq_true rfl) (h _ _ hM1 hA1 hF1)
def q_neV (g : q_G) (rw : Nat → Nat) (n b : Nat) : Int32 := if q_cap (q_wy g (q_up rw b 0) (g_n g) n) < q_cap (q_wy g (q_up rw b 1) (g_n g) n) then q_cap (q_wy g (q_up rw b 0) (g_n g) n) else q_cap (q_wy g (q_up rw b 1) (g_n g) n)
def q_ne (V : Nat → Int32) (rw : Nat → Nat) : Nat → Int32 × Int32
  | 0 => (-1, -9)
  | b + 1 => if rw b = 2 ∧ (q_ne V rw b).1 < V b then (V b, nI b) else q_ne V rw b
def s_neR (A : q_A) (a : Int32) : q_A × Int32 := if a < 0 then (s_no A 4, -4) else if 40 < a then (s_no A 6, -6) else if q_isR A then (A, (q_ne (q_neV (a_g A) (a_rf A) a.toNatClampNeg) (a_rf A) (g_n (a_g A))).2) else (s_no A 3, -3)
theorem r_neL {n : Nat} (hn : n ≤ 40) (ho : a_ok A) (f0 : x_H) (M0 : x_N) (hA : r_is M0 A) (h : r_ends z f0 post (A, (q_ne (q_neV (a_g A) (a_rf A) n) (a_rf A) (g_n (a_g A))).2)) : ∀ (m b : Nat) (f : x_H) (W : Nat → Nat → Int64), b + m = g_n (a_g A) → x_Mdl z f (M0.1, M0.2.1, W) → x_fr (fun q => q < 59) f0 f → X E (x_rm 9 0 0) mX6_next (x_QM E z 0 0 post) 46 [(4, .int (nI b)), (3, .int (q_ne (q_neV (a_g A) (a_rf A) n) (a_rf A) b).1), (2, .int (q_ne (q_neV (a_g A) (a_rf A) n) (a_rf A) b).2), (0, .ref 59), (1, .int (nI n))] [] z f 0 0 := by
  obtain ⟨b1, b2, b3, b4, b5, b6, b7, b8, b9⟩ := id hA
  have hn9 := ho.1.1
  have hr9 := ho.2.2.2.2.2.2
  intro m
  induction m with
  | zero =>
    intro b f W hb hM hF
    have hb2 : b = g_n (a_g A) := by omega
    subst hb2
    refine x_iload (pc' := 48) rfl rfl rfl ?_
    refine x_aload_n (pc' := 49) rfl rfl rfl ?_
    refine x_get (pc' := 52) rfl rfl rfl (hM.1) rfl ?_
    refine x_eqi b1.2.2.2.1 ?_
    refine x_icmp_ge (tgt := 138) (pc' := 55) rfl rfl rfl (fun _ => ?_) (fun c52 => absurd ((Int32.le_refl _)) c52)
    refine x_iload_n (pc' := 139) rfl rfl rfl ?_
    exact x_ireturn rfl rfl rfl (Nat.le_of_ble_eq_true rfl) (Nat.le_of_ble_eq_true rfl) (h _ _ hM hA hF)
  | succ m ih =>
    intro b f W hb hM hF
    have eq1 : q_ne (q_neV (a_g A) (a_rf A) n) (a_rf A) (b + 1) = if a_rf A b = 2 ∧ (q_ne (q_neV (a_g A) (a_rf A) n) (a_rf A) b).1 < q_neV (a_g A) (a_rf A) n b then (q_neV (a_g A) (a_rf A) n b, nI b) else q_ne (q_neV (a_g A) (a_rf A) n) (a_rf A) b := rfl
    have h9 := fun f W => ih (b + 1) f W (by omega)
    generalize q_ne (q_neV (a_g A) (a_rf A) n) (a_rf A) (b + 1) = s1 at eq1 h9
    generalize q_ne (q_neV (a_g A) (a_rf A) n) (a_rf A) b = s0 at eq1 ⊢
    have hrb := hr9 b
    have hcl : (nI b).toNatClampNeg = b := nI_clamp (by omega)
    have er : M0.2.1 5 (nI b).toNatClampNeg = nI (a_rf A b) := by rw [hcl, b8]
    refine x_iload (pc' := 48) rfl rfl rfl ?_
    refine x_aload_n (pc' := 49) rfl rfl rfl ?_
    refine x_get (pc' := 52) rfl rfl rfl (hM.1) rfl ?_
    refine x_eqi b1.2.2.2.1 ?_
    refine x_icmp_ge (tgt := 138) (pc' := 55) rfl rfl rfl (fun c52 => absurd c52 ((nI_ge (by omega) (by omega)))) (fun _ => ?_)
    refine x_aload_n (pc' := 56) rfl rfl rfl ?_
    refine x_get (pc' := 59) rfl rfl rfl (hM.1) rfl ?_
    refine x_iload (pc' := 61) rfl rfl rfl ?_
    refine x_iaload (pc' := 62) rfl rfl (hM.2.1 5 (by decide)) (vp_in_nI (n := b) (N := 12) (by omega) (by decide)) ?_
    refine x_eqi er ?_
    refine x_iconst (pc' := 63) rfl rfl iconst_2 ?_
    by_cases d : a_rf A b = 2
    · refine x_icmp_ne (tgt := 132) (pc' := 66) rfl rfl rfl (fun q => absurd (by rw [d]; rfl) q) (fun _ => ?_)
      refine x_aload_n (pc' := 67) rfl rfl rfl ?_
      refine x_get (pc' := 70) rfl rfl rfl (hM.1) rfl ?_
      refine x_iload (pc' := 72) rfl rfl rfl ?_
      refine x_iconst (pc' := 73) rfl rfl iconst_0 ?_
      refine x_iastore (pc' := 74) rfl rfl (hM.2.1 5 (by decide)) (vp_in_nI (n := b) (N := 12) (by omega) (by decide)) (fun f1 e1 => ?_)
      have hM1 := hM.arr 5 (by decide) e1
      have hF1 := hF.trans (r_fr0 e1 (by decide))
      have e15 : upd (M0.2.1 5) (nI b).toNatClampNeg 0 = fun i => nI (q_up (a_rf A) b 0 i) := by rw [hcl, b8]; exact q_up_I _ _ _
      refine x_aload_n (pc' := 75) rfl rfl rfl ?_
      refine x_iload_n (pc' := 76) rfl rfl rfl ?_
      refine x_cV1i (d := 3) (pc' := 79) rfl rfl sX6_212 gX6_waysOf (hM1.1) ⟨Nat.le_of_ble_eq_true rfl, Nat.le_of_ble_eq_true rfl⟩ (Nat.le_of_ble_eq_true rfl) ⟨Nat.le_of_ble_eq_true rfl, Nat.le_of_ble_eq_true rfl⟩ ?_
      refine m_waysOf (C := 99) (rw' := q_up (a_rf A) b 0) hn hM1 b1 ho.1 e15 (q_up_le hr9 (by decide)) (fun f2 W2 hM2 hF2 => ⟨_, rfl, ?_⟩)
      refine x_istore (pc' := 81) (lv' := [(5, _), (4, _), (3, _), (2, _), (0, _), (1, _)]) rfl rfl (Nat.le_of_ble_eq_true rfl) rfl ?_
      refine x_aload_n (pc' := 82) rfl rfl rfl ?_
      refine x_get (pc' := 85) rfl rfl rfl (hM2.1) rfl ?_
      refine x_iload (pc' := 87) rfl rfl rfl ?_
      refine x_iconst (pc' := 88) rfl rfl iconst_1 ?_
      refine x_iastore (pc' := 89) rfl rfl (hM2.2.1 5 (by decide)) (vp_in_nI (n := b) (N := 12) (by omega) (by decide)) (fun f2 e2 => ?_)
      have hM3 := hM2.arr 5 (by decide) e2
      have hF3 := (hF1.trans hF2).trans (r_fr0 e2 (by decide))
      rw [x_ua_ua] at hM3
      have e35 : upd (upd (M0.2.1 5) (nI b).toNatClampNeg 0) (nI b).toNatClampNeg 1 = fun i => nI (q_up (a_rf A) b 1 i) := by rw [hcl, u_uu, b8]; exact q_up_I _ _ _
      refine x_aload_n (pc' := 90) rfl rfl rfl ?_
      refine x_iload_n (pc' := 91) rfl rfl rfl ?_
      refine x_cV1i (d := 3) (pc' := 94) rfl rfl sX6_212 gX6_waysOf (hM3.1) ⟨Nat.le_of_ble_eq_true rfl, Nat.le_of_ble_eq_true rfl⟩ (Nat.le_of_ble_eq_true rfl) ⟨Nat.le_of_ble_eq_true rfl, Nat.le_of_ble_eq_true rfl⟩ ?_
      refine m_waysOf (C := 99) (rw' := q_up (a_rf A) b 1) hn hM3 b1 ho.1 e35 (q_up_le hr9 (by decide)) (fun f4 W4 hM4 hF4 => ⟨_, rfl, ?_⟩)
      refine x_istore (pc' := 96) (lv' := [(6, _), (5, _), (4, _), (3, _), (2, _), (0, _), (1, _)]) rfl rfl (Nat.le_of_ble_eq_true rfl) rfl ?_
      refine x_aload_n (pc' := 97) rfl rfl rfl ?_
      refine x_get (pc' := 100) rfl rfl rfl (hM4.1) rfl ?_
      refine x_iload (pc' := 102) rfl rfl rfl ?_
      refine x_iconst (pc' := 103) rfl rfl iconst_2 ?_
      refine x_iastore (pc' := 104) rfl rfl (hM4.2.1 5 (by decide)) (vp_in_nI (n := b) (N := 12) (by omega) (by decide)) (fun f3 e3 => ?_)
      have hM5 := hM4.arr 5 (by decide) e3
      have hF5 := (hF3.trans hF4).trans (r_fr0 e3 (by decide))
      rw [x_ua_ua] at hM5
      have e55 : x_ua M0.2.1 5 (upd (upd (upd (M0.2.1 5) (nI b).toNatClampNeg 0) (nI b).toNatClampNeg 1) (nI b).toNatClampNeg 2) = M0.2.1 := by rw [hcl, u_uu, u_uu, u_id (show M0.2.1 5 b = 2 from by rw [b8]; show nI (a_rf A b) = 2; rw [d]; rfl), x_ua_id]
      have hM6 : x_Mdl z f3 (M0.1, M0.2.1, W4) := by rw [← e55]; exact hM5
      have hv : ∀ vv, q_neV (a_g A) (a_rf A) n b = vv → X E (x_rm 9 0 0) mX6_next (x_QM E z 0 0 post) 118 [(6, .int (q_cap (q_wy (a_g A) (q_up (a_rf A) b 1) (g_n (a_g A)) n))), (5, .int (q_cap (q_wy (a_g A) (q_up (a_rf A) b 0) (g_n (a_g A)) n))), (4, .int (nI b)), (3, .int s0.1), (2, .int s0.2), (0, .ref 59), (1, .int (nI n))] [.int vv] z f3 0 0 := by
        intro vv ev
        rw [ev] at eq1
        refine x_istore (pc' := 120) (lv' := [(7, _), (6, _), (5, _), (4, _), (3, _), (2, _), (0, _), (1, _)]) rfl rfl (Nat.le_of_ble_eq_true rfl) rfl ?_
        refine x_iload (pc' := 122) rfl rfl rfl ?_
        refine x_iload_n (pc' := 123) rfl rfl rfl ?_
        by_cases d8 : s0.1 < vv
        · rw [if_pos ⟨d, d8⟩] at eq1
          rw [eq1] at h9
          refine x_icmp_le (tgt := 132) (pc' := 126) rfl rfl rfl (fun q => absurd q (Int32.not_le.mpr d8)) (fun _ => ?_)
          refine x_iload (pc' := 128) rfl rfl rfl ?_
          refine x_istore_n (pc' := 129) (lv' := [(2, _), (7, _), (6, _), (5, _), (4, _), (3, _), (0, _), (1, _)]) rfl rfl (Nat.le_of_ble_eq_true rfl) rfl ?_
          refine x_iload (pc' := 131) rfl rfl rfl ?_
          refine x_istore_n (pc' := 132) (lv' := [(3, _), (2, _), (7, _), (6, _), (5, _), (4, _), (0, _), (1, _)]) rfl rfl (Nat.le_of_ble_eq_true rfl) rfl ?_
          refine x_iinc (pc' := 135) (lv' := [(4, _), (3, _), (2, _), (7, _), (6, _), (5, _), (0, _), (1, _)]) rfl rfl (Nat.le_of_ble_eq_true rfl) rfl (nI_1 b) rfl ?_
          refine x_goto (tgt := 46) rfl rfl ?_
          refine x_lvp [0, 1, 2, 6, 7] rfl ?_
          exact h9 _ _ hM6 hF5
        · rw [if_neg (fun q => d8 q.2)] at eq1
          rw [eq1] at h9
          refine x_icmp_le (tgt := 132) (pc' := 126) rfl rfl rfl (fun _ => ?_) (fun q => absurd (Int32.not_lt.mp d8) q)
          refine x_iinc (pc' := 135) (lv' := [(4, _), (7, _), (6, _), (5, _), (3, _), (2, _), (0, _), (1, _)]) rfl rfl (Nat.le_of_ble_eq_true rfl) rfl (nI_1 b) rfl ?_
          refine x_goto (tgt := 46) rfl rfl ?_
          refine x_lvp [0, 4, 5, 6, 7] rfl ?_
          exact h9 _ _ hM6 hF5
      refine x_iload (pc' := 106) rfl rfl rfl ?_
      refine x_iload (pc' := 108) rfl rfl rfl ?_
      refine x_icmp_ge (tgt := 116) (pc' := 111) rfl rfl rfl (fun c108 => ?_) (fun c108 => ?_)
      · refine x_iload (pc' := 118) rfl rfl rfl ?_
        exact hv _ (if_neg (Int32.not_lt.mpr c108))
      · refine x_iload (pc' := 113) rfl rfl rfl ?_
        refine x_goto (tgt := 118) rfl rfl ?_
        exact hv _ (if_pos (Int32.not_le.mp c108))
    · rw [if_neg (fun q => d q.1)] at eq1
      rw [eq1] at h9
      refine x_icmp_ne (tgt := 132) (pc' := 66) rfl rfl rfl (fun _ => ?_) (fun q => absurd ((nI_eq (b := 2) (by omega) (by decide)).mp q) d)
      refine x_iinc (pc' := 135) (lv' := [(4, _), (3, _), (2, _), (0, _), (1, _)]) rfl rfl (Nat.le_of_ble_eq_true rfl) rfl (nI_1 b) rfl ?_
      refine x_goto (tgt := 46) rfl rfl ?_
      exact h9 f W hM hF
theorem r_next (hM : x_Mdl z f M) (hA : r_is M A) (ho : a_ok A) (h : r_ends z f post (s_neR A a)) : Y E 9 mX6_next [.ref 59, .int a] z f 0 0 post := by
  refine Y.intro gX6_next (lv := [(0, .ref 59), (1, .int a)]) rfl (Nat.le_of_ble_eq_true rfl) ?_
  refine x_iload_n (pc' := 1) rfl rfl rfl ?_
  refine x_if_ge (tgt := 11) (pc' := 4) rfl rfl rfl (fun c1 => ?_) (fun c1 => ?_)
  · have d1 : ¬ a < 0 := Int32.not_lt.mpr c1
    refine x_iload_n (pc' := 12) rfl rfl rfl ?_
    refine x_bipush (pc' := 14) rfl rfl bipush_40 ?_
    refine x_icmp_le (tgt := 24) (pc' := 17) rfl rfl rfl (fun c14 => ?_) (fun c14 => ?_)
    · have d2 : ¬ 40 < a := Int32.not_lt.mpr c14
      rw [show s_neR A a = _ from (if_neg d1).trans (if_neg d2)] at h
      refine x_aload_n (pc' := 25) rfl rfl rfl ?_
      refine x_cV0i (d := 1) (pc' := 28) rfl rfl sX6_208 gX6_isRow (hM.1) ⟨Nat.le_of_ble_eq_true rfl, Nat.le_of_ble_eq_true rfl⟩ (Nat.le_of_ble_eq_true rfl) ⟨Nat.le_of_ble_eq_true rfl, Nat.le_of_ble_eq_true rfl⟩ ?_
      refine m_isR hM hA ho (fun d3 => ⟨_, rfl, ?_⟩) (fun d3 => ⟨_, rfl, ?_⟩)
      · rw [if_pos d3] at h
        obtain ⟨n, hn, rfl⟩ := nI_of2 (n := 40) (M := 40) rfl d1 (Int32.not_lt.mp d2)
        rw [nI_clamp (by omega)] at h
        refine x_if_ne (tgt := 38) (pc' := 31) rfl rfl rfl (fun _ => ?_) (fun c28 => absurd c28 ((by decide)))
        refine x_bipush (pc' := 40) rfl rfl bipush_m9 ?_
        refine x_istore_n (pc' := 41) (lv' := [(2, _), (0, _), (1, _)]) rfl rfl (Nat.le_of_ble_eq_true rfl) rfl ?_
        refine x_iconst (pc' := 42) rfl rfl iconst_m1 ?_
        refine x_istore_n (pc' := 43) (lv' := [(3, _), (2, _), (0, _), (1, _)]) rfl rfl (Nat.le_of_ble_eq_true rfl) rfl ?_
        refine x_iconst (pc' := 44) rfl rfl iconst_0 ?_
        refine x_istore (pc' := 46) (lv' := [(4, _), (3, _), (2, _), (0, _), (1, _)]) rfl rfl (Nat.le_of_ble_eq_true rfl) rfl ?_
        exact r_neL hn ho f M hA h (g_n (a_g A)) 0 f M.2.2 (by omega) hM x_fr.rf
      · rw [if_neg d3] at h
        refine x_if_ne (tgt := 38) (pc' := 31) rfl rfl rfl (fun c28 => absurd (rfl) c28) (fun _ => ?_)
        refine x_aload_n (pc' := 32) rfl rfl rfl ?_
        refine x_bipush (pc' := 34) rfl rfl bipush_m3 ?_
        refine x_cV1i (d := 1) (pc' := 37) rfl rfl sX6_110 gX6_refuse (hM.1) ⟨Nat.le_of_ble_eq_true rfl, Nat.le_of_ble_eq_true rfl⟩ (Nat.le_of_ble_eq_true rfl) ⟨Nat.le_of_ble_eq_true rfl, Nat.le_of_ble_eq_true rfl⟩ ?_
        refine r_refuse (k := 2) (by decide) (by decide) hM hA (fun f1 M1 hM1 hA1 hF1 => ⟨_, rfl, ?_⟩)
        exact x_ireturn rfl rfl rfl (Nat.le_of_ble_eq_true rfl) (Nat.le_of_ble_eq_true rfl) (h _ _ hM1 hA1 hF1)
    · rw [show s_neR A a = _ from (if_neg d1).trans (if_pos (Int32.not_le.mp c14))] at h
      refine x_aload_n (pc' := 18) rfl rfl rfl ?_
      refine x_bipush (pc' := 20) rfl rfl bipush_m6 ?_
      refine x_cV1i (d := 1) (pc' := 23) rfl rfl sX6_110 gX6_refuse (hM.1) ⟨Nat.le_of_ble_eq_true rfl, Nat.le_of_ble_eq_true rfl⟩ (Nat.le_of_ble_eq_true rfl) ⟨Nat.le_of_ble_eq_true rfl, Nat.le_of_ble_eq_true rfl⟩ ?_
      refine r_refuse (k := 5) (by decide) (by decide) hM hA (fun f1 M1 hM1 hA1 hF1 => ⟨_, rfl, ?_⟩)
      exact x_ireturn rfl rfl rfl (Nat.le_of_ble_eq_true rfl) (Nat.le_of_ble_eq_true rfl) (h _ _ hM1 hA1 hF1)
  · rw [show s_neR A a = _ from if_pos (Int32.not_le.mp c1)] at h
    refine x_aload_n (pc' := 5) rfl rfl rfl ?_
    refine x_bipush (pc' := 7) rfl rfl bipush_m4 ?_
    refine x_cV1i (d := 1) (pc' := 10) rfl rfl sX6_110 gX6_refuse (hM.1) ⟨Nat.le_of_ble_eq_true rfl, Nat.le_of_ble_eq_true rfl⟩ (Nat.le_of_ble_eq_true rfl) ⟨Nat.le_of_ble_eq_true rfl, Nat.le_of_ble_eq_true rfl⟩ ?_
    refine r_refuse (k := 3) (by decide) (by decide) hM hA (fun f1 M1 hM1 hA1 hF1 => ⟨_, rfl, ?_⟩)
    exact x_ireturn rfl rfl rfl (Nat.le_of_ble_eq_true rfl) (Nat.le_of_ble_eq_true rfl) (h _ _ hM1 hA1 hF1)
end WR
