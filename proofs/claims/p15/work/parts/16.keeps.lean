/-! The reference keeps a frame, and lays it. -/
def x_kpB (l b : Nat) (bs old : Nat → Int32) : Nat → Int32 := fun j => if 12 * l ≤ j ∧ j < 12 * l + b then bs (j - 12 * l) else old j
/-- a frame kept -/
def x_kp (l : Nat) (bs : Nat → Int32) (p0 p1 t : Int32) (old : Nat → Int32) : Nat → Int32 := upd (upd (upd (x_kpB l 9 bs old) (12 * l + 9) p0) (12 * l + 10) p1) (12 * l + 11) t
theorem x_kpB_0 (l : Nat) (bs old : Nat → Int32) : x_kpB l 0 bs old = old := by
  funext j
  unfold x_kpB
  rw [if_neg (by omega)]
theorem x_kpB_s (l b : Nat) (bs old : Nat → Int32) : upd (x_kpB l b bs old) (12 * l + b) (bs b) = x_kpB l (b + 1) bs old := by
  funext j
  unfold upd x_kpB
  by_cases h : j = 12 * l + b
  · rw [if_pos h, if_pos (by omega), h]
    congr 1
    omega
  · rw [if_neg h]
    by_cases h2 : 12 * l ≤ j ∧ j < 12 * l + b
    · rw [if_pos h2, if_pos (by omega)]
    · rw [if_neg h2, if_neg (by omega)]
def x_lyB (l b : Nat) (fr old : Nat → Int32) : Nat → Int32 := fun j => if j < b then fr (12 * l + j) else old j
theorem x_lyB_0 (l : Nat) (fr old : Nat → Int32) : x_lyB l 0 fr old = old := by
  funext j
  unfold x_lyB
  rw [if_neg (by omega)]
theorem x_lyB_s (l b : Nat) (fr old : Nat → Int32) : upd (x_lyB l b fr old) b (fr (12 * l + b)) = x_lyB l (b + 1) fr old := by
  funext j
  unfold upd x_lyB
  by_cases h : j = b
  · rw [if_pos h, if_pos (by omega), h]
  · rw [if_neg h]
    by_cases h2 : j < b
    · rw [if_pos h2, if_pos (by omega)]
    · rw [if_neg h2, if_neg (by omega)]
section KEEPS
variable {E : x_E} {z : Nat} {f : x_H} {M : x_N} {post : Option Value → x_H → Prop}
theorem x_mul12 (l : Nat) : (12 : Int32) * nI l = nI (12 * l) := by
  rw [show (12 : Int32) = nI 12 from by decide]
  exact pk_mul 12 l
theorem w_keepsL {l : Nat} (hl : l ≤ 7) (h : ∀ f' : x_H, x_Mdl z f' (M.1, x_ua M.2.1 6 (x_kp l (M.2.1 1) (M.2.1 2 0) (M.2.1 2 1) (M.1 7) (M.2.1 6)), M.2.2) → x_fr (fun q => q < 59) f f' → post none f') :
    ∀ (n b : Nat) (g : x_H), b + n = 9 → x_Mdl z g (M.1, x_ua M.2.1 6 (x_kpB l b (M.2.1 1) (M.2.1 6)), M.2.2) → x_fr (fun q => q < 59) f g → X E (x_rm 1 0 0) mX6_keeps (x_QM E z 0 0 post) 7 [(3, .int (nI b)), (2, .int (nI (12 * l))), (0, .ref 59), (1, .int (nI l))] [] z g 0 0 := by
  intro n
  induction n with
  | zero =>
    intro b g hbn hM hF
    have hb : b = 9 := by omega
    subst hb
    refine x_iload_n (pc' := 8) rfl rfl rfl ?_
    refine x_bipush (pc' := 10) rfl rfl bipush_9 ?_
    refine x_icmp_ge (tgt := 33) (pc' := 13) rfl rfl rfl (fun _ => ?_) (fun c10 => absurd ((by decide : (9 : Int32) ≤ nI 9)) c10)
    refine x_aload_n (pc' := 34) rfl rfl rfl ?_
    refine x_get (pc' := 37) rfl rfl rfl (hM.1) rfl ?_
    refine x_iload_n (pc' := 38) rfl rfl rfl ?_
    refine x_bipush (pc' := 40) rfl rfl bipush_9 ?_
    refine x_iadd (pc' := 41) rfl rfl ?_
    refine x_eqi (show nI (12 * l) + 9 = nI (12 * l + 9) from nI_add (12 * l) 9) ?_
    refine x_aload_n (pc' := 42) rfl rfl rfl ?_
    refine x_get (pc' := 45) rfl rfl rfl (hM.1) rfl ?_
    refine x_iconst (pc' := 46) rfl rfl iconst_0 ?_
    refine x_iaload (pc' := 47) rfl rfl (hM.2.1 2 (by decide)) (vp_in_nI (n := 0) (N := 2) (by decide) (by decide)) ?_
    refine x_iastore (pc' := 48) rfl rfl (hM.2.1 6 (by decide)) (vp_in_nI (n := 12 * l + 9) (N := 96) (by omega) (by decide)) (fun f1 e1 => ?_)
    have hM1 := hM.arr 6 (by decide) e1
    have hF1 := hF.up e1 (by decide)
    refine x_aload_n (pc' := 49) rfl rfl rfl ?_
    refine x_get (pc' := 52) rfl rfl rfl (hM1.1) rfl ?_
    refine x_iload_n (pc' := 53) rfl rfl rfl ?_
    refine x_bipush (pc' := 55) rfl rfl bipush_10 ?_
    refine x_iadd (pc' := 56) rfl rfl ?_
    refine x_eqi (show nI (12 * l) + 10 = nI (12 * l + 10) from nI_add (12 * l) 10) ?_
    refine x_aload_n (pc' := 57) rfl rfl rfl ?_
    refine x_get (pc' := 60) rfl rfl rfl (hM1.1) rfl ?_
    refine x_iconst (pc' := 61) rfl rfl iconst_1 ?_
    refine x_iaload (pc' := 62) rfl rfl (hM1.2.1 2 (by decide)) (vp_in_nI (n := 1) (N := 2) (by decide) (by decide)) ?_
    refine x_iastore (pc' := 63) rfl rfl (hM1.2.1 6 (by decide)) (vp_in_nI (n := 12 * l + 10) (N := 96) (by omega) (by decide)) (fun f2 e2 => ?_)
    have hM2 := hM1.arr 6 (by decide) e2
    have hF2 := hF1.up e2 (by decide)
    refine x_aload_n (pc' := 64) rfl rfl rfl ?_
    refine x_get (pc' := 67) rfl rfl rfl (hM2.1) rfl ?_
    refine x_iload_n (pc' := 68) rfl rfl rfl ?_
    refine x_bipush (pc' := 70) rfl rfl bipush_11 ?_
    refine x_iadd (pc' := 71) rfl rfl ?_
    refine x_eqi (show nI (12 * l) + 11 = nI (12 * l + 11) from nI_add (12 * l) 11) ?_
    refine x_aload_n (pc' := 72) rfl rfl rfl ?_
    refine x_get (pc' := 75) rfl rfl rfl (hM2.1) rfl ?_
    refine x_iastore (pc' := 76) rfl rfl (hM2.2.1 6 (by decide)) (vp_in_nI (n := 12 * l + 11) (N := 96) (by omega) (by decide)) (fun f3 e3 => ?_)
    have hM3 := hM2.arr 6 (by decide) e3
    have hF3 := hF2.up e3 (by decide)
    refine x_return rfl rfl (Nat.le_refl _) (Nat.le_refl _) (h _ ?_ hF3)
    refine ⟨hM3.1, fun i hi => ?_, hM3.2.2⟩
    have h9 := hM3.2.1 i hi
    by_cases h6 : i = 6
    · subst h6
      rw [nI_clamp (by omega), nI_clamp (by omega), nI_clamp (by omega)] at h9
      exact h9
    · simp only [x_ua, if_neg h6] at h9 ⊢
      exact h9
  | succ n ih =>
    intro b g hbn hM hF
    refine x_iload_n (pc' := 8) rfl rfl rfl ?_
    refine x_bipush (pc' := 10) rfl rfl bipush_9 ?_
    refine x_icmp_ge (tgt := 33) (pc' := 13) rfl rfl rfl (fun c10 => absurd c10 (Int32.not_le.mpr (nI_lt (a := b) (b := 9) (by omega) (by decide)))) (fun _ => ?_)
    refine x_aload_n (pc' := 14) rfl rfl rfl ?_
    refine x_get (pc' := 17) rfl rfl rfl (hM.1) rfl ?_
    refine x_iload_n (pc' := 18) rfl rfl rfl ?_
    refine x_iload_n (pc' := 19) rfl rfl rfl ?_
    refine x_iadd (pc' := 20) rfl rfl ?_
    refine x_eqi (nI_add (12 * l) b) ?_
    refine x_aload_n (pc' := 21) rfl rfl rfl ?_
    refine x_get (pc' := 24) rfl rfl rfl (hM.1) rfl ?_
    refine x_iload_n (pc' := 25) rfl rfl rfl ?_
    refine x_iaload (pc' := 26) rfl rfl (hM.2.1 1 (by decide)) (vp_in_nI (n := b) (N := 9) (by omega) (by decide)) ?_
    refine x_iastore (pc' := 27) rfl rfl (hM.2.1 6 (by decide)) (vp_in_nI (n := 12 * l + b) (N := 96) (by omega) (by decide)) (fun f1 e1 => ?_)
    have hM1 := hM.arr 6 (by decide) e1
    have hF1 := hF.up e1 (by decide)
    refine x_iinc (pc' := 30) (lv' := [(3, _), (2, _), (0, _), (1, _)]) rfl rfl (Nat.le_of_ble_eq_true rfl) rfl (nI_1 b) rfl ?_
    refine x_goto (tgt := 7) rfl rfl ?_
    refine ih (b + 1) _ (by omega) ?_ hF1
    refine ⟨hM1.1, fun i hi => ?_, hM1.2.2⟩
    have h9 := hM1.2.1 i hi
    by_cases h6 : i = 6
    · subst h6
      rw [nI_clamp (by omega), nI_clamp (by omega)] at h9
      simp only [x_ua, if_pos] at h9 ⊢
      rw [← x_kpB_s]
      exact h9
    · simp only [x_ua, if_neg h6] at h9 ⊢
      exact h9
theorem w_keeps {l : Nat} (hl : l ≤ 7) (hM : x_Mdl z f M) (h : ∀ f' : x_H, x_Mdl z f' (M.1, x_ua M.2.1 6 (x_kp l (M.2.1 1) (M.2.1 2 0) (M.2.1 2 1) (M.1 7) (M.2.1 6)), M.2.2) → x_fr (fun q => q < 59) f f' → post none f') : Y E 1 mX6_keeps [.ref 59, .int (nI l)] z f 0 0 post := by
  refine Y.intro gX6_keeps (lv := [(0, .ref 59), (1, .int (nI l))]) rfl (Nat.le_of_ble_eq_true rfl) ?_
  refine x_bipush (pc' := 2) rfl rfl bipush_12 ?_
  refine x_iload_n (pc' := 3) rfl rfl rfl ?_
  refine x_imul (pc' := 4) rfl rfl ?_
  refine x_eqi (x_mul12 l) ?_
  refine x_istore_n (pc' := 5) (lv' := [(2, _), (0, _), (1, _)]) rfl rfl (Nat.le_of_ble_eq_true rfl) rfl ?_
  refine x_iconst (pc' := 6) rfl rfl iconst_0 ?_
  refine x_istore_n (pc' := 7) (lv' := [(3, _), (2, _), (0, _), (1, _)]) rfl rfl (Nat.le_of_ble_eq_true rfl) rfl ?_
  refine w_keepsL hl h 9 0 _ rfl ?_ x_fr.rf
  refine ⟨hM.1, fun i hi => ?_, hM.2.2⟩
  have h9 := hM.2.1 i hi
  by_cases h6 : i = 6
  · subst h6
    simp only [x_ua, if_pos]
    rw [x_kpB_0]
    exact h9
  · simp only [x_ua, if_neg h6]
    exact h9
/-- what a laid frame leaves: beans, purses, turn -/
def x_ly (l : Nat) (M : x_N) : x_N := (upd M.1 7 (M.2.1 6 (12 * l + 11)), x_ua (x_ua M.2.1 1 (x_lyB l 9 (M.2.1 6) (M.2.1 1))) 2 (upd (upd (M.2.1 2) 0 (M.2.1 6 (12 * l + 9))) 1 (M.2.1 6 (12 * l + 10))), M.2.2)
theorem w_laysL {l : Nat} (hl : l ≤ 7) (h : ∀ f' : x_H, x_Mdl z f' (x_ly l M) → x_fr (fun q => q < 59) f f' → post none f') :
    ∀ (n b : Nat) (g : x_H), b + n = 9 → x_Mdl z g (M.1, x_ua M.2.1 1 (x_lyB l b (M.2.1 6) (M.2.1 1)), M.2.2) → x_fr (fun q => q < 59) f g → X E (x_rm 1 0 0) mX6_lays (x_QM E z 0 0 post) 7 [(3, .int (nI b)), (2, .int (nI (12 * l))), (0, .ref 59), (1, .int (nI l))] [] z g 0 0 := by
  intro n
  induction n with
  | zero =>
    intro b g hbn hM hF
    have hb : b = 9 := by omega
    subst hb
    refine x_iload_n (pc' := 8) rfl rfl rfl ?_
    refine x_bipush (pc' := 10) rfl rfl bipush_9 ?_
    refine x_icmp_ge (tgt := 33) (pc' := 13) rfl rfl rfl (fun _ => ?_) (fun c10 => absurd ((by decide : (9 : Int32) ≤ nI 9)) c10)
    refine x_aload_n (pc' := 34) rfl rfl rfl ?_
    refine x_get (pc' := 37) rfl rfl rfl (hM.1) rfl ?_
    refine x_iconst (pc' := 38) rfl rfl iconst_0 ?_
    refine x_aload_n (pc' := 39) rfl rfl rfl ?_
    refine x_get (pc' := 42) rfl rfl rfl (hM.1) rfl ?_
    refine x_iload_n (pc' := 43) rfl rfl rfl ?_
    refine x_bipush (pc' := 45) rfl rfl bipush_9 ?_
    refine x_iadd (pc' := 46) rfl rfl ?_
    refine x_eqi (show nI (12 * l) + 9 = nI (12 * l + 9) from nI_add (12 * l) 9) ?_
    refine x_iaload (pc' := 47) rfl rfl (hM.2.1 6 (by decide)) (vp_in_nI (n := 12 * l + 9) (N := 96) (by omega) (by decide)) ?_
    refine x_iastore (pc' := 48) rfl rfl (hM.2.1 2 (by decide)) (vp_in_nI (n := 0) (N := 2) (by decide) (by decide)) (fun f1 e1 => ?_)
    have hM1 := hM.arr 2 (by decide) e1
    have hF1 := hF.up e1 (by decide)
    refine x_aload_n (pc' := 49) rfl rfl rfl ?_
    refine x_get (pc' := 52) rfl rfl rfl (hM1.1) rfl ?_
    refine x_iconst (pc' := 53) rfl rfl iconst_1 ?_
    refine x_aload_n (pc' := 54) rfl rfl rfl ?_
    refine x_get (pc' := 57) rfl rfl rfl (hM1.1) rfl ?_
    refine x_iload_n (pc' := 58) rfl rfl rfl ?_
    refine x_bipush (pc' := 60) rfl rfl bipush_10 ?_
    refine x_iadd (pc' := 61) rfl rfl ?_
    refine x_eqi (show nI (12 * l) + 10 = nI (12 * l + 10) from nI_add (12 * l) 10) ?_
    refine x_iaload (pc' := 62) rfl rfl (hM1.2.1 6 (by decide)) (vp_in_nI (n := 12 * l + 10) (N := 96) (by omega) (by decide)) ?_
    refine x_iastore (pc' := 63) rfl rfl (hM1.2.1 2 (by decide)) (vp_in_nI (n := 1) (N := 2) (by decide) (by decide)) (fun f2 e2 => ?_)
    have hM2 := hM1.arr 2 (by decide) e2
    have hF2 := hF1.up e2 (by decide)
    refine x_aload_n (pc' := 64) rfl rfl rfl ?_
    refine x_aload_n (pc' := 65) rfl rfl rfl ?_
    refine x_get (pc' := 68) rfl rfl rfl (hM2.1) rfl ?_
    refine x_iload_n (pc' := 69) rfl rfl rfl ?_
    refine x_bipush (pc' := 71) rfl rfl bipush_11 ?_
    refine x_iadd (pc' := 72) rfl rfl ?_
    refine x_eqi (show nI (12 * l) + 11 = nI (12 * l + 11) from nI_add (12 * l) 11) ?_
    refine x_iaload (pc' := 73) rfl rfl (hM2.2.1 6 (by decide)) (vp_in_nI (n := 12 * l + 11) (N := 96) (by omega) (by decide)) ?_
    refine x_put (pc' := 76) rfl rfl rfl (hM2.1) (Nat.le_of_ble_eq_true rfl) rfl rfl rfl rfl (fun f3 e3 => ?_)
    have hM3 := hM2.num 7 e3 (x_mFs7 _ _)
    have hF3 := hF2.up e3 (by decide)
    refine x_return rfl rfl (Nat.le_refl _) (Nat.le_refl _) (h _ ?_ hF3)
    refine ⟨?_, fun i hi => ?_, hM3.2.2⟩
    · have h9 := hM3.1
      simp only [x_ua, if_pos, if_neg (show ¬ (6 = 2) by decide), if_neg (show ¬ (6 = 1) by decide)] at h9
      rw [nI_clamp (by omega)] at h9
      exact h9
    · have h9 := hM3.2.1 i hi
      by_cases h6 : i = 2
      · subst h6
        simp only [x_ua, if_pos, if_neg (show ¬ (6 = 2) by decide), if_neg (show ¬ (6 = 1) by decide), if_neg (show ¬ (2 = 1) by decide)] at h9
        rw [nI_clamp (by omega), nI_clamp (by omega)] at h9
        exact h9
      · simp only [x_ly, x_ua, if_neg h6] at h9 ⊢
        exact h9
  | succ n ih =>
    intro b g hbn hM hF
    refine x_iload_n (pc' := 8) rfl rfl rfl ?_
    refine x_bipush (pc' := 10) rfl rfl bipush_9 ?_
    refine x_icmp_ge (tgt := 33) (pc' := 13) rfl rfl rfl (fun c10 => absurd c10 (Int32.not_le.mpr (nI_lt (a := b) (b := 9) (by omega) (by decide)))) (fun _ => ?_)
    refine x_aload_n (pc' := 14) rfl rfl rfl ?_
    refine x_get (pc' := 17) rfl rfl rfl (hM.1) rfl ?_
    refine x_iload_n (pc' := 18) rfl rfl rfl ?_
    refine x_aload_n (pc' := 19) rfl rfl rfl ?_
    refine x_get (pc' := 22) rfl rfl rfl (hM.1) rfl ?_
    refine x_iload_n (pc' := 23) rfl rfl rfl ?_
    refine x_iload_n (pc' := 24) rfl rfl rfl ?_
    refine x_iadd (pc' := 25) rfl rfl ?_
    refine x_eqi (nI_add (12 * l) b) ?_
    refine x_iaload (pc' := 26) rfl rfl (hM.2.1 6 (by decide)) (vp_in_nI (n := 12 * l + b) (N := 96) (by omega) (by decide)) ?_
    refine x_iastore (pc' := 27) rfl rfl (hM.2.1 1 (by decide)) (vp_in_nI (n := b) (N := 9) (by omega) (by decide)) (fun f1 e1 => ?_)
    have hM1 := hM.arr 1 (by decide) e1
    have hF1 := hF.up e1 (by decide)
    refine x_iinc (pc' := 30) (lv' := [(3, _), (2, _), (0, _), (1, _)]) rfl rfl (Nat.le_of_ble_eq_true rfl) rfl (nI_1 b) rfl ?_
    refine x_goto (tgt := 7) rfl rfl ?_
    refine ih (b + 1) _ (by omega) ?_ hF1
    refine ⟨hM1.1, fun i hi => ?_, hM1.2.2⟩
    have h9 := hM1.2.1 i hi
    by_cases h6 : i = 1
    · subst h6
      rw [nI_clamp (by omega), nI_clamp (by omega)] at h9
      simp only [x_ua, if_pos, if_neg (show ¬ (6 = 1) by decide)] at h9 ⊢
      rw [← x_lyB_s]
      exact h9
    · simp only [x_ua, if_neg h6] at h9 ⊢
      exact h9
theorem w_lays {l : Nat} (hl : l ≤ 7) (hM : x_Mdl z f M) (h : ∀ f' : x_H, x_Mdl z f' (x_ly l M) → x_fr (fun q => q < 59) f f' → post none f') : Y E 1 mX6_lays [.ref 59, .int (nI l)] z f 0 0 post := by
  refine Y.intro gX6_lays (lv := [(0, .ref 59), (1, .int (nI l))]) rfl (Nat.le_of_ble_eq_true rfl) ?_
  refine x_bipush (pc' := 2) rfl rfl bipush_12 ?_
  refine x_iload_n (pc' := 3) rfl rfl rfl ?_
  refine x_imul (pc' := 4) rfl rfl ?_
  refine x_eqi (x_mul12 l) ?_
  refine x_istore_n (pc' := 5) (lv' := [(2, _), (0, _), (1, _)]) rfl rfl (Nat.le_of_ble_eq_true rfl) rfl ?_
  refine x_iconst (pc' := 6) rfl rfl iconst_0 ?_
  refine x_istore_n (pc' := 7) (lv' := [(3, _), (2, _), (0, _), (1, _)]) rfl rfl (Nat.le_of_ble_eq_true rfl) rfl ?_
  refine w_laysL hl h 9 0 _ rfl ?_ x_fr.rf
  refine ⟨hM.1, fun i hi => ?_, hM.2.2⟩
  have h9 := hM.2.1 i hi
  by_cases h6 : i = 1
  · subst h6
    simp only [x_ua, if_pos]
    rw [x_lyB_0]
    exact h9
  · simp only [x_ua, if_neg h6]
    exact h9
end KEEPS
