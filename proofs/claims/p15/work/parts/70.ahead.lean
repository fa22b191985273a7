/-! The class thinks ahead. -/
def g_tk (g : q_G) (b : Nat) : Int32 := if q_tk1 (g_v g b).1 (g_π g (g_t g)) (g_v g b).2.2.2 = true then 1 else 0
def q_al (V : Nat → Int32 → Int32) (c : Nat → Bool) (en : Int32) : Nat → Nat → Int32 × Int32 → Int32 × Int32
  | 0, _, r => r
  | m + 1, b, r => if r.2 = -9 ∨ r.1 < en then (if c b = true ∧ (r.1 < V b r.1 ∨ r.2 = -9) then q_al V c en m (b + 1) (V b r.1, nI b) else q_al V c en m (b + 1) r) else r
def q_en (k : Nat) (hi : Int32) : Int32 := if nI (k + 2) / 2 < hi then nI (k + 2) / 2 else hi
def q_ab : Nat → q_G → Int32 → Int32 → Int32 × Int32
  | 0, _, _, _ => (0, -9)
  | k + 1, g, lo, hi => (if (q_al (fun b mo => g_tk g b - (q_ab k (g_mv g b) (g_tk g b - hi) (g_tk g b - mo)).1) (fun b => decide (g_can g b)) (q_en k hi) (g_n g) 0 (lo - 1, -9)).2 = -9 then 0 else (q_al (fun b mo => g_tk g b - (q_ab k (g_mv g b) (g_tk g b - hi) (g_tk g b - mo)).1) (fun b => decide (g_can g b)) (q_en k hi) (g_n g) 0 (lo - 1, -9)).1, (q_al (fun b mo => g_tk g b - (q_ab k (g_mv g b) (g_tk g b - hi) (g_tk g b - mo)).1) (fun b => decide (g_can g b)) (q_en k hi) (g_n g) 0 (lo - 1, -9)).2)
abbrev q_aV (k : Nat) (g : q_G) (hi : Int32) : Nat → Int32 → Int32 := fun b mo => g_tk g b - (q_ab k (g_mv g b) (g_tk g b - hi) (g_tk g b - mo)).1
/-- what stays while the class thinks from a line on -/
def c_ln (S S' : x_S) (i : Nat) : Prop := S'.1 = S.1 ∧ (∀ j, j ≤ 6 + i → S'.2.1 j = S.2.1 j) ∧ (∀ j, j ≠ 1 → S'.2.2.1 j = S.2.2.1 j) ∧ (∀ j, j < i → S'.2.2.1 1 j = S.2.2.1 1 j) ∧ S'.2.2.2 = S.2.2.2
theorem c_ln.rf {S : x_S} {i : Nat} : c_ln S S i := ⟨rfl, fun _ _ => rfl, fun _ _ => rfl, fun _ _ => rfl, rfl⟩
theorem c_ln.trans {S S1 S2 : x_S} {i j : Nat} (h : c_ln S S1 i) (h2 : c_ln S1 S2 j) (hj : i ≤ j) : c_ln S S2 i := ⟨h2.1.trans h.1, fun t ht => (h2.2.1 t (by omega)).trans (h.2.1 t ht), fun t ht => (h2.2.2.1 t ht).trans (h.2.2.1 t ht), fun t ht => (h2.2.2.2.1 t (by omega)).trans (h.2.2.2.1 t ht), h2.2.2.2.2.trans h.2.2.2.2⟩
theorem c_ln.tab {S : x_S} {i : Nat} (T : x_T) : c_ln S (S.1, x_ut S.2.1 (7 + i) T, S.2.2.1, S.2.2.2) i := ⟨rfl, fun j hj => if_neg (by omega), fun _ _ => rfl, fun _ _ => rfl, rfl⟩
theorem c_ln.arr {S : x_S} {i : Nat} (v : Int32) : c_ln S (S.1, S.2.1, x_ua S.2.2.1 1 (upd (S.2.2.1 1) i v), S.2.2.2) i := ⟨rfl, fun _ _ => rfl, fun j hj => if_neg hj, fun j hj => (show upd (S.2.2.1 1) i v j = S.2.2.1 1 j from pk_un (by omega)), rfl⟩
theorem x_tp_l {i : Nat} (h : i < 5) : x_tp (6 + i) = 22 + 4 * i := by
  rcases (show i = 0 ∨ i = 1 ∨ i = 2 ∨ i = 3 ∨ i = 4 by omega) with rfl | rfl | rfl | rfl | rfl <;> rfl
theorem x_tp_m {i : Nat} (h : i < 4) : x_tp (7 + i) = 22 + 4 * (i + 1) := by
  rcases (show i = 0 ∨ i = 1 ∨ i = 2 ∨ i = 3 by omega) with rfl | rfl | rfl | rfl <;> rfl
theorem x_line_at {i : Nat} (h : i < 5) : x_line (nI i).toNatClampNeg = some (22 + 4 * i) := by
  rw [nI_clamp (by omega)]
  exact if_pos h
section AH
variable {E : x_E} {z : Nat} {f : x_H} {S S0 : x_S} {A : q_A} {post : Option Value → x_H → Prop} {g : q_G} {C : Nat} {a b : Int32}
theorem c_gaL {k i : Nat} {lo hi : Int32} (hik : i + k + 1 ≤ 4) (hC : 99 ≤ C) (hC2 : C ≤ 100) (hg : g_ok C g)
    (IH : ∀ (g : q_G) (lo hi : Int32) (f : x_H) (S : x_S) (post : Option Value → x_H → Prop), x_Sys z f S → t_is (S.2.1 (6 + (i + 1))) g → g_ok C g → (∀ (f' : x_H) (S' : x_S), x_Sys z f' S' → c_ln S S' (i + 1) → (k ≠ 0 → S'.2.2.1 1 (i + 1) = (q_ab k g lo hi).2) → x_fr (fun q => 59 ≤ q) f f' → post (some (.int (q_ab k g lo hi).1)) f') → Y E (k + 5) mX0_gainOf [.ref 20, .ref 21, .int (nI (i + 1)), .int (nI k), .int lo, .int hi] z f 0 0 post)
    (f0 : x_H) (S0 : x_S) (R : Int32 × Int32)
    (h : ∀ (f' : x_H) (S' : x_S), x_Sys z f' S' → c_ln S0 S' i → S'.2.2.1 1 i = R.2 → x_fr (fun q => 59 ≤ q) f0 f' → post (some (.int (if R.2 = -9 then 0 else R.1))) f') :
    ∀ (m b : Nat) (r : Int32 × Int32) (f : x_H) (S : x_S), b + m = g_n g → q_al (q_aV k g hi) (fun b => decide (g_can g b)) (q_en k hi) m b r = R → x_Sys z f S → t_is (S.2.1 (6 + i)) g → c_ln S0 S i → S.2.2.1 1 i = r.2 → x_fr (fun q => 59 ≤ q) f0 f → X E (x_rm (k + 6) 0 0) mX0_gainOf (x_QM E z 0 0 post) 62 [(10, .int (nI b)), (9, .int r.1), (8, .int (q_en k hi)), (7, .ref (22 + 4 * (i + 1))), (6, .ref (22 + 4 * i)), (0, .ref 20), (1, .ref 21), (2, .int (nI i)), (3, .int (nI (k + 1))), (4, .int lo), (5, .int hi)] [] z f 0 0 := by
  have hn9 := hg.1
  have e6 := x_tp_l (i := i) (by omega)
  have e7 := x_tp_m (i := i) (by omega)
  have fin : ∀ (v : Int32) (f : x_H) (S : x_S), x_Sys z f S → c_ln S0 S i → S.2.2.1 1 i = R.2 → x_fr (fun q => 59 ≤ q) f0 f → X E (x_rm (k + 6) 0 0) mX0_gainOf (x_QM E z 0 0 post) 174 [(10, .int v), (9, .int R.1), (8, .int (q_en k hi)), (7, .ref (22 + 4 * (i + 1))), (6, .ref (22 + 4 * i)), (0, .ref 20), (1, .ref 21), (2, .int (nI i)), (3, .int (nI (k + 1))), (4, .int lo), (5, .int hi)] [] z f 0 0 := by
    intro v f S hS hl hch hF
    have ec : S.2.2.1 1 (nI i).toNatClampNeg = R.2 := by rw [nI_clamp (by omega)]; exact hch
    have h9 := h f S hS hl hch hF
    refine x_aload_n (pc' := 175) rfl rfl rfl ?_
    refine x_iload_n (pc' := 176) rfl rfl rfl ?_
    refine x_iaload (pc' := 177) rfl rfl (hS.2.2.1 1 (by decide)) (vp_in_nI (n := i) (N := 5) (by omega) (by decide)) ?_
    refine x_eqi ec ?_
    refine x_bipush (pc' := 179) rfl rfl bipush_m9 ?_
    by_cases d : R.2 = -9
    · rw [if_pos d] at h9
      refine x_icmp_ne (tgt := 186) (pc' := 182) rfl rfl rfl (fun q => absurd d q) (fun _ => ?_)
      refine x_iconst (pc' := 183) rfl rfl iconst_0 ?_
      refine x_goto (tgt := 188) rfl rfl ?_
      exact x_ireturn rfl rfl rfl (Nat.le_of_ble_eq_true rfl) (Nat.le_of_ble_eq_true rfl) (h9)
    · rw [if_neg d] at h9
      refine x_icmp_ne (tgt := 186) (pc' := 182) rfl rfl rfl (fun _ => ?_) (fun q => absurd q d)
      refine x_iload (pc' := 188) rfl rfl rfl ?_
      exact x_ireturn rfl rfl rfl (Nat.le_of_ble_eq_true rfl) (Nat.le_of_ble_eq_true rfl) (h9)
  intro m
  induction m with
  | zero =>
    intro b r f S hb hR hS ht hl hch hF
    have hb2 : b = g_n g := by omega
    subst hb2
    have hR2 : r = R := hR
    subst hR2
    have hTi := hS.2.1 (6 + i) (by omega)
    rw [e6] at hTi
    refine x_iload (pc' := 64) rfl rfl rfl ?_
    refine x_aload (pc' := 66) rfl rfl rfl ?_
    refine x_get (pc' := 69) rfl rfl rfl (hTi.1) rfl ?_
    refine x_eqi ht.2.2.2.1 ?_
    refine x_icmp_ge (tgt := 174) (pc' := 72) rfl rfl rfl (fun _ => ?_) (fun c69 => absurd ((Int32.le_refl _)) c69)
    exact fin _ f S hS hl hch hF
  | succ m ih =>
    intro b r f S hb hR hS ht hl hch hF
    replace hR : (if r.2 = -9 ∨ r.1 < q_en k hi then (if decide (g_can g b) = true ∧ (r.1 < q_aV k g hi b r.1 ∨ r.2 = -9) then q_al (q_aV k g hi) (fun b => decide (g_can g b)) (q_en k hi) m (b + 1) (q_aV k g hi b r.1, nI b) else q_al (q_aV k g hi) (fun b => decide (g_can g b)) (q_en k hi) m (b + 1) r) else r) = R := hR
    have hTi := hS.2.1 (6 + i) (by omega)
    rw [e6] at hTi
    have hTo := hS.2.1 (7 + i) (by omega)
    rw [e7] at hTo
    have hcl : (nI i).toNatClampNeg = i := nI_clamp (by omega)
    have ec : S.2.2.1 1 (nI i).toNatClampNeg = r.2 := by rw [hcl]; exact hch
    refine x_iload (pc' := 64) rfl rfl rfl ?_
    refine x_aload (pc' := 66) rfl rfl rfl ?_
    refine x_get (pc' := 69) rfl rfl rfl (hTi.1) rfl ?_
    refine x_eqi ht.2.2.2.1 ?_
    refine x_icmp_ge (tgt := 174) (pc' := 72) rfl rfl rfl (fun c69 => absurd c69 ((nI_ge (by omega) (by omega)))) (fun _ => ?_)
    refine x_aload_n (pc' := 73) rfl rfl rfl ?_
    refine x_iload_n (pc' := 74) rfl rfl rfl ?_
    refine x_iaload (pc' := 75) rfl rfl (hS.2.2.1 1 (by decide)) (vp_in_nI (n := i) (N := 5) (by omega) (by decide)) ?_
    refine x_eqi ec ?_
    refine x_bipush (pc' := 77) rfl rfl bipush_m9 ?_
    by_cases d0 : r.2 = -9 ∨ r.1 < q_en k hi
    · rw [if_pos d0] at hR
      have K87 : X E (x_rm (k + 6) 0 0) mX0_gainOf (x_QM E z 0 0 post) 87 [(10, .int (nI b)), (9, .int r.1), (8, .int (q_en k hi)), (7, .ref (22 + 4 * (i + 1))), (6, .ref (22 + 4 * i)), (0, .ref 20), (1, .ref 21), (2, .int (nI i)), (3, .int (nI (k + 1))), (4, .int lo), (5, .int hi)] [] z f 0 0 := by
        refine x_aload (pc' := 89) rfl rfl rfl ?_
        refine x_iload (pc' := 91) rfl rfl rfl ?_
        refine x_cV1i (d := 2) (pc' := 94) rfl rfl sX0_44 gX3_canMove (hTi.1) (x_room (by omega) (Nat.le_of_ble_eq_true rfl)) (Nat.le_of_ble_eq_true rfl) ⟨Nat.le_of_ble_eq_true rfl, Nat.le_of_ble_eq_true rfl⟩ ?_
        refine w_can hTi ht hg hC2 (by omega) (fun d2 => ⟨_, rfl, ?_⟩) (fun d2 => ⟨_, rfl, ?_⟩)
        · refine x_if_eq (tgt := 168) (pc' := 97) rfl rfl rfl (fun c94 => absurd c94 ((by decide))) (fun _ => ?_)
          refine x_aload (pc' := 99) rfl rfl rfl ?_
          refine x_aload (pc' := 101) rfl rfl rfl ?_
          refine x_cV1v (d := 1) (pc' := 104) rfl rfl sX0_22 gX3_copyFrom (hTo.1) (x_room (by omega) (Nat.le_of_ble_eq_true rfl)) (Nat.le_of_ble_eq_true rfl) ⟨Nat.le_of_ble_eq_true rfl, Nat.le_of_ble_eq_true rfl⟩ ?_
          refine w_copyFrom hTo hTi (by omega) (fun f1 hT1 hF1 => ⟨rfl, ?_⟩)
          have hS1 := hS.tab (7 + i) (by omega) (by rw [e7]; exact hT1) (by rw [e7]; exact hF1)
          refine x_aload (pc' := 106) rfl rfl rfl ?_
          refine x_iload (pc' := 108) rfl rfl rfl ?_
          refine x_cV1v (d := 4) (pc' := 111) rfl rfl sX0_48 gX3_makeMove (hT1.1) (x_room (by omega) (Nat.le_of_ble_eq_true rfl)) (Nat.le_of_ble_eq_true rfl) ⟨Nat.le_of_ble_eq_true rfl, Nat.le_of_ble_eq_true rfl⟩ ?_
          refine w_move hT1 (x_cp_is ht) hg hC2 d2.2.1 (fun f2 T2 hT2 g2 u4 u5 u6 u7 u8 hF2 => ⟨rfl, ?_⟩)
          have hS2 := hS1.tab (7 + i) (by omega) (by rw [e7]; exact hT2) (by rw [e7]; exact hF2)
          have ok2 := g_mv_ok hg hC hC2 d2.2.1
          rw [x_ut_ut] at hS2
          have hF12 : x_fr (fun q => 59 ≤ q) f f2 := (c_fr0 (j := 7 + i) (by omega) (by rw [e7]; exact hF1)).trans (c_fr0 (j := 7 + i) (by omega) (by rw [e7]; exact hF2))
          refine x_aload (pc' := 113) rfl rfl rfl ?_
          refine x_get (pc' := 116) rfl rfl rfl (hT2.1) rfl ?_
          refine x_eqi (show T2.2.2.2 8 = g_tk g b from u8) ?_
          refine x_istore (pc' := 118) (lv' := [(11, _), (10, _), (9, _), (8, _), (7, _), (6, _), (0, _), (1, _), (2, _), (3, _), (4, _), (5, _)]) rfl rfl (Nat.le_of_ble_eq_true rfl) rfl ?_
          refine x_iload (pc' := 120) rfl rfl rfl ?_
          refine x_aload_n (pc' := 121) rfl rfl rfl ?_
          refine x_aload_n (pc' := 122) rfl rfl rfl ?_
          refine x_iload_n (pc' := 123) rfl rfl rfl ?_
          refine x_iconst (pc' := 124) rfl rfl iconst_1 ?_
          refine x_iadd (pc' := 125) rfl rfl ?_
          refine x_eqi (nI_1 i) ?_
          refine x_iload_n (pc' := 126) rfl rfl rfl ?_
          refine x_iconst (pc' := 127) rfl rfl iconst_1 ?_
          refine x_isub (pc' := 128) rfl rfl ?_
          refine x_eqi (nI_pred k) ?_
          refine x_iload (pc' := 130) rfl rfl rfl ?_
          refine x_iload (pc' := 132) rfl rfl rfl ?_
          refine x_isub (pc' := 133) rfl rfl ?_
          refine x_iload (pc' := 135) rfl rfl rfl ?_
          refine x_iload (pc' := 137) rfl rfl rfl ?_
          refine x_isub (pc' := 138) rfl rfl ?_
          refine x_cS6i (d := (k + 5)) (pc' := 141) rfl rfl sX0_26 gX0_gainOf (x_room (by omega) (Nat.le_of_ble_eq_true rfl)) (Nat.le_of_ble_eq_true rfl) ⟨Nat.le_of_ble_eq_true rfl, Nat.le_of_ble_eq_true rfl⟩ ?_
          refine IH (g_mv g b) _ _ f2 (S.1, x_ut S.2.1 (7 + i) T2, S.2.2.1, S.2.2.2) _ hS2 (by rw [show 6 + (i + 1) = 7 + i by omega]; show t_is (if 7 + i = 7 + i then T2 else _) _; rw [if_pos rfl]; exact g2) ok2 (fun f3 S3 hS3 l3 c3 hF3 => ⟨_, rfl, ?_⟩)
          have l03 : c_ln S0 S3 i := (hl.trans (c_ln.tab T2) (Nat.le_refl i)).trans l3 (by omega)
          have l13 : c_ln S S3 i := (c_ln.tab T2).trans l3 (by omega)
          have hF03 := (hF.trans hF12).trans hF3
          have ch3 : S3.2.2.1 1 i = r.2 := (l3.2.2.2.1 i (by omega)).trans hch
          have ht3 : t_is (S3.2.1 (6 + i)) g := by rw [l13.2.1 (6 + i) (Nat.le_refl _)]; exact ht
          refine x_isub (pc' := 142) rfl rfl ?_
          refine x_eqi (show _ = q_aV k g hi b r.1 from rfl) ?_
          refine x_istore (pc' := 144) (lv' := [(12, _), (11, _), (10, _), (9, _), (8, _), (7, _), (6, _), (0, _), (1, _), (2, _), (3, _), (4, _), (5, _)]) rfl rfl (Nat.le_of_ble_eq_true rfl) rfl ?_
          refine x_iload (pc' := 146) rfl rfl rfl ?_
          refine x_iload (pc' := 148) rfl rfl rfl ?_
          by_cases d3 : r.1 < q_aV k g hi b r.1 ∨ r.2 = -9
          · rw [if_pos ⟨decide_eq_true d2, d3⟩] at hR
            have K159 : X E (x_rm (k + 6) 0 0) mX0_gainOf (x_QM E z 0 0 post) 159 [(12, .int (q_aV k g hi b r.1)), (11, .int (g_tk g b)), (10, .int (nI b)), (9, .int r.1), (8, .int (q_en k hi)), (7, .ref (22 + 4 * (i + 1))), (6, .ref (22 + 4 * i)), (0, .ref 20), (1, .ref 21), (2, .int (nI i)), (3, .int (nI (k + 1))), (4, .int lo), (5, .int hi)] [] z f3 0 0 := by
              refine x_iload (pc' := 161) rfl rfl rfl ?_
              refine x_istore (pc' := 163) (lv' := [(9, _), (12, _), (11, _), (10, _), (8, _), (7, _), (6, _), (0, _), (1, _), (2, _), (3, _), (4, _), (5, _)]) rfl rfl (Nat.le_of_ble_eq_true rfl) rfl ?_
              refine x_aload_n (pc' := 164) rfl rfl rfl ?_
              refine x_iload_n (pc' := 165) rfl rfl rfl ?_
              refine x_iload (pc' := 167) rfl rfl rfl ?_
              refine x_iastore (pc' := 168) rfl rfl (hS3.2.2.1 1 (by decide)) (vp_in_nI (n := i) (N := 5) (by omega) (by decide)) (fun f1 e1 => ?_)
              have hS4 := hS3.arr 1 (by decide) e1
              have hF4 : x_fr (fun q => 59 ≤ q) f3 f1 := (x_fr.rf (P := fun q => 59 ≤ q)).up e1 (by decide)
              rw [hcl] at hS4
              refine x_iinc (pc' := 171) (lv' := [(10, _), (9, _), (12, _), (11, _), (8, _), (7, _), (6, _), (0, _), (1, _), (2, _), (3, _), (4, _), (5, _)]) rfl rfl (Nat.le_of_ble_eq_true rfl) rfl (nI_1 b) rfl ?_
              refine x_goto (tgt := 62) rfl rfl ?_
              refine x_lvp [0, 1, 4, 5, 6, 7, 8, 9, 10, 11, 12] rfl ?_
              exact ih (b + 1) (q_aV k g hi b r.1, nI b) _ (S3.1, S3.2.1, x_ua S3.2.2.1 1 (upd (S3.2.2.1 1) i (nI b)), S3.2.2.2) (by omega) hR hS4 ht3 (l03.trans (c_ln.arr (nI b)) (Nat.le_refl i)) pk_us (hF03.trans hF4)
            refine x_icmp_gt (tgt := 159) (pc' := 151) rfl rfl rfl (fun q => K159) (fun q => ?_)
            refine x_aload_n (pc' := 152) rfl rfl rfl ?_
            refine x_iload_n (pc' := 153) rfl rfl rfl ?_
            refine x_iaload (pc' := 154) rfl rfl (hS3.2.2.1 1 (by decide)) (vp_in_nI (n := i) (N := 5) (by omega) (by decide)) ?_
            refine x_eqi (show S3.2.2.1 1 (nI i).toNatClampNeg = r.2 from by rw [hcl]; exact ch3) ?_
            refine x_bipush (pc' := 156) rfl rfl bipush_m9 ?_
            refine x_icmp_ne (tgt := 168) (pc' := 159) rfl rfl rfl (fun c156 => absurd ((d3.resolve_left q)) c156) (fun _ => ?_)
            exact K159
          · rw [if_neg (fun q => d3 q.2)] at hR
            refine x_icmp_gt (tgt := 159) (pc' := 151) rfl rfl rfl (fun q => absurd (Or.inl q) d3) (fun q => ?_)
            refine x_aload_n (pc' := 152) rfl rfl rfl ?_
            refine x_iload_n (pc' := 153) rfl rfl rfl ?_
            refine x_iaload (pc' := 154) rfl rfl (hS3.2.2.1 1 (by decide)) (vp_in_nI (n := i) (N := 5) (by omega) (by decide)) ?_
            refine x_eqi (show S3.2.2.1 1 (nI i).toNatClampNeg = r.2 from by rw [hcl]; exact ch3) ?_
            refine x_bipush (pc' := 156) rfl rfl bipush_m9 ?_
            refine x_icmp_ne (tgt := 168) (pc' := 159) rfl rfl rfl (fun _ => ?_) (fun c156 => absurd c156 ((fun q => d3 (Or.inr q))))
            refine x_iinc (pc' := 171) (lv' := [(10, _), (12, _), (11, _), (9, _), (8, _), (7, _), (6, _), (0, _), (1, _), (2, _), (3, _), (4, _), (5, _)]) rfl rfl (Nat.le_of_ble_eq_true rfl) rfl (nI_1 b) rfl ?_
            refine x_goto (tgt := 62) rfl rfl ?_
            refine x_lvp [0, 3, 4, 5, 6, 7, 8, 9, 10, 11, 12] rfl ?_
            exact ih (b + 1) r f3 S3 (by omega) hR hS3 ht3 l03 ch3 hF03
        · rw [if_neg (fun q => d2 (of_decide_eq_true q.1))] at hR
          refine x_if_eq (tgt := 168) (pc' := 97) rfl rfl rfl (fun _ => ?_) (fun c94 => absurd (rfl) c94)
          refine x_iinc (pc' := 171) (lv' := [(10, _), (9, _), (8, _), (7, _), (6, _), (0, _), (1, _), (2, _), (3, _), (4, _), (5, _)]) rfl rfl (Nat.le_of_ble_eq_true rfl) rfl (nI_1 b) rfl ?_
          refine x_goto (tgt := 62) rfl rfl ?_
          exact ih (b + 1) r f S (by omega) hR hS ht hl hch hF
      refine x_icmp_eq (tgt := 87) (pc' := 80) rfl rfl rfl (fun q => K87) (fun q => ?_)
      have d1 := d0.resolve_left q
      refine x_iload (pc' := 82) rfl rfl rfl ?_
      refine x_iload (pc' := 84) rfl rfl rfl ?_
      refine x_icmp_ge (tgt := 174) (pc' := 87) rfl rfl rfl (fun c84 => absurd c84 ((Int32.not_le.mpr d1))) (fun _ => ?_)
      exact K87
    · rw [if_neg d0] at hR
      subst hR
      refine x_icmp_eq (tgt := 87) (pc' := 80) rfl rfl rfl (fun q => absurd (Or.inl q) d0) (fun q => ?_)
      refine x_iload (pc' := 82) rfl rfl rfl ?_
      refine x_iload (pc' := 84) rfl rfl rfl ?_
      refine x_icmp_ge (tgt := 174) (pc' := 87) rfl rfl rfl (fun _ => ?_) (fun c84 => absurd ((Int32.not_lt.mp (fun q => d0 (Or.inr q)))) c84)
      exact fin _ f S hS hl hch hF
theorem c_gainOf (hC : 99 ≤ C) (hC2 : C ≤ 100) : ∀ (k i : Nat) (g : q_G) (lo hi : Int32) (f : x_H) (S : x_S) (post : Option Value → x_H → Prop), i + k ≤ 4 → x_Sys z f S → t_is (S.2.1 (6 + i)) g → g_ok C g → (∀ (f' : x_H) (S' : x_S), x_Sys z f' S' → c_ln S S' i → (k ≠ 0 → S'.2.2.1 1 i = (q_ab k g lo hi).2) → x_fr (fun q => 59 ≤ q) f f' → post (some (.int (q_ab k g lo hi).1)) f') → Y E (k + 5) mX0_gainOf [.ref 20, .ref 21, .int (nI i), .int (nI k), .int lo, .int hi] z f 0 0 post := by
  intro k
  induction k with
  | zero =>
    intro i g lo hi f S post hik hS ht hg h
    refine Y.intro gX0_gainOf (lv := [(0, .ref 20), (1, .ref 21), (2, .int (nI i)), (3, .int (nI 0)), (4, .int lo), (5, .int hi)]) rfl (Nat.le_of_ble_eq_true rfl) ?_
    refine x_iload_n (pc' := 1) rfl rfl rfl ?_
    refine x_if_le (tgt := 22) (pc' := 4) rfl rfl rfl (fun _ => ?_) (fun c1 => absurd ((by decide : nI 0 ≤ 0)) c1)
    refine x_iconst (pc' := 23) rfl rfl iconst_0 ?_
    exact x_ireturn rfl rfl rfl (Nat.le_of_ble_eq_true rfl) (Nat.le_of_ble_eq_true rfl) (h _ _ hS c_ln.rf (fun q => absurd rfl q) x_fr.rf)
  | succ k IH =>
    intro i g lo hi f S post hik hS ht hg h
    have hcl : (nI i).toNatClampNeg = i := nI_clamp (by omega)
    refine Y.intro gX0_gainOf (lv := [(0, .ref 20), (1, .ref 21), (2, .int (nI i)), (3, .int (nI (k + 1))), (4, .int lo), (5, .int hi)]) rfl (Nat.le_of_ble_eq_true rfl) ?_
    refine x_iload_n (pc' := 1) rfl rfl rfl ?_
    refine x_if_le (tgt := 22) (pc' := 4) rfl rfl rfl (fun c1 => absurd c1 ((nI_nle (by omega) (by omega)))) (fun _ => ?_)
    refine x_iload_n (pc' := 5) rfl rfl rfl ?_
    refine x_if_lt (tgt := 22) (pc' := 8) rfl rfl rfl (fun c5 => absurd c5 ((nI_pos (by omega)))) (fun _ => ?_)
    refine x_iload_n (pc' := 9) rfl rfl rfl ?_
    refine x_iconst (pc' := 10) rfl rfl iconst_1 ?_
    refine x_iadd (pc' := 11) rfl rfl ?_
    refine x_eqi (nI_1 i) ?_
    refine x_aload_n (pc' := 12) rfl rfl rfl ?_
    refine x_alen (pc' := 13) rfl rfl (hS.li) ?_
    refine x_icmp_ge (tgt := 22) (pc' := 16) rfl rfl rfl (fun c13 => absurd c13 ((show ¬ nI 5 ≤ nI (i + 1) from nI_ge (by omega) (by decide)))) (fun _ => ?_)
    refine x_iload_n (pc' := 17) rfl rfl rfl ?_
    refine x_aload_n (pc' := 18) rfl rfl rfl ?_
    refine x_alen (pc' := 19) rfl rfl (hS.2.2.1 1 (by decide)) ?_
    refine x_icmp_lt (tgt := 24) (pc' := 22) rfl rfl rfl (fun _ => ?_) (fun c19 => absurd ((show nI i < nI 5 from nI_lt (by omega) (by decide))) c19)
    refine x_aload_n (pc' := 25) rfl rfl rfl ?_
    refine x_iload_n (pc' := 26) rfl rfl rfl ?_
    refine x_aaload (pc' := 27) rfl rfl (hS.li) (vp_in_nI (n := i) (N := 5) (by omega) (by decide)) (x_line_at (i := i) (by omega)) ?_
    refine x_astore (pc' := 29) (lv' := [(6, _), (0, _), (1, _), (2, _), (3, _), (4, _), (5, _)]) rfl rfl (Nat.le_of_ble_eq_true rfl) rfl ?_
    refine x_aload_n (pc' := 30) rfl rfl rfl ?_
    refine x_iload_n (pc' := 31) rfl rfl rfl ?_
    refine x_iconst (pc' := 32) rfl rfl iconst_1 ?_
    refine x_iadd (pc' := 33) rfl rfl ?_
    refine x_eqi (nI_1 i) ?_
    refine x_aaload (pc' := 34) rfl rfl (hS.li) (vp_in_nI (n := i + 1) (N := 5) (by omega) (by decide)) (x_line_at (i := i + 1) (by omega)) ?_
    refine x_astore (pc' := 36) (lv' := [(7, _), (6, _), (0, _), (1, _), (2, _), (3, _), (4, _), (5, _)]) rfl rfl (Nat.le_of_ble_eq_true rfl) rfl ?_
    refine x_iload (pc' := 38) rfl rfl rfl ?_
    refine x_iload_n (pc' := 39) rfl rfl rfl ?_
    refine x_iconst (pc' := 40) rfl rfl iconst_1 ?_
    refine x_iadd (pc' := 41) rfl rfl ?_
    refine x_eqi (nI_1 (k + 1)) ?_
    refine x_iconst (pc' := 42) rfl rfl iconst_2 ?_
    refine x_idiv (pc' := 43) rfl rfl (by decide) ?_
    refine x_mmin (pc' := 46) rfl rfl sX0_34 (x_room (by omega) (Nat.le_of_ble_eq_true rfl)) (Nat.le_of_ble_eq_true rfl) (Nat.le_of_ble_eq_true rfl) (Nat.le_of_ble_eq_true rfl) ?_
    refine x_istore (pc' := 48) (lv' := [(8, _), (7, _), (6, _), (0, _), (1, _), (2, _), (3, _), (4, _), (5, _)]) rfl rfl (Nat.le_of_ble_eq_true rfl) rfl ?_
    refine x_iload (pc' := 50) rfl rfl rfl ?_
    refine x_iconst (pc' := 51) rfl rfl iconst_1 ?_
    refine x_isub (pc' := 52) rfl rfl ?_
    refine x_istore (pc' := 54) (lv' := [(9, _), (8, _), (7, _), (6, _), (0, _), (1, _), (2, _), (3, _), (4, _), (5, _)]) rfl rfl (Nat.le_of_ble_eq_true rfl) rfl ?_
    refine x_aload_n (pc' := 55) rfl rfl rfl ?_
    refine x_iload_n (pc' := 56) rfl rfl rfl ?_
    refine x_bipush (pc' := 58) rfl rfl bipush_m9 ?_
    refine x_iastore (pc' := 59) rfl rfl (hS.2.2.1 1 (by decide)) (vp_in_nI (n := i) (N := 5) (by omega) (by decide)) (fun f1 e1 => ?_)
    have hS1 := hS.arr 1 (by decide) e1
    have hF1 : x_fr (fun q => 59 ≤ q) f f1 := (x_fr.rf (P := fun q => 59 ≤ q)).up e1 (by decide)
    rw [hcl] at hS1
    refine x_iconst (pc' := 60) rfl rfl iconst_0 ?_
    refine x_istore (pc' := 62) (lv' := [(10, _), (9, _), (8, _), (7, _), (6, _), (0, _), (1, _), (2, _), (3, _), (4, _), (5, _)]) rfl rfl (Nat.le_of_ble_eq_true rfl) rfl ?_
    exact c_gaL hik hC hC2 hg (fun g lo hi f S post a1 a2 a3 a4 => IH (i + 1) g lo hi f S post (by omega) a1 a2 a3 a4) f S _ (fun f' S' b1 b2 b3 b4 => h f' S' b1 b2 (fun _ => b3) b4) (g_n g) 0 (lo - 1, -9) _ (S.1, S.2.1, x_ua S.2.2.1 1 (upd (S.2.2.1 1) i (-9)), S.2.2.2) (by omega) rfl hS1 ht (c_ln.arr (-9)) pk_us hF1
end AH
