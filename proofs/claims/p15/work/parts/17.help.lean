/-! Helpers of the class. -/
theorem x_tpq (i : Nat) (hi : i < 11) {q : Nat} (hq : 59 ≤ q) : x_ot (x_tp i) q := by
  have := x_pos5.1 i hi
  unfold x_ot
  omega
def x_sum (g : Nat → Int32) : Nat → Int32
  | 0 => 0
  | n + 1 => x_sum g n + g n
section HELP
variable {E : x_E} {z : Nat} {f : x_H} {S : x_S} {M : x_N} {t : Nat} {T : x_T} {post : Option Value → x_H → Prop}
theorem x_Sys.lt (h : x_Sys z f S) : x_o z f 17 2 [.ref 18, .int (S.1 2)] := h.2.2.2.2.1
theorem x_Sys.ah (h : x_Sys z f S) : x_o z f 19 0 [.ref 20, .ref 21] := h.2.2.2.2.2.1
theorem x_Sys.li (h : x_Sys z f S) : x_a z f 20 (5, .inr (.inr (.inr (.inr x_line)))) := h.2.2.2.2.2.2.1
theorem x_Sys.em (h : x_Sys z f S) : x_o z f 42 1 (x_eF S.1) := h.2.2.2.2.2.2.2.1
theorem x_Sys.wy (h : x_Sys z f S) : x_o z f 54 4 [.ref 55, .ref 56] := h.2.2.2.2.2.2.2.2
theorem w_purseOf {b : Int32} (hT : x_t z f t T) (h1 : ¬ b < 0 ∧ b < 2 → post (some (.int (T.2.2.1 b.toNatClampNeg))) f) (h0 : ¬ (¬ b < 0 ∧ b < 2) → post (some (.int 0)) f) : Y E 1 mX3_purseOf [.ref t, .int b] z f 0 0 post := by
  refine Y.intro gX3_purseOf (lv := [(0, .ref t), (1, .int b)]) rfl (Nat.le_of_ble_eq_true rfl) ?_
  refine x_iload_n (pc' := 1) rfl rfl rfl ?_
  refine x_if_lt (tgt := 22) (pc' := 4) rfl rfl rfl (fun c1 => ?_) (fun c1 => ?_)
  · refine x_iconst (pc' := 23) rfl rfl iconst_0 ?_
    exact x_ireturn rfl rfl rfl (Nat.le_of_ble_eq_true rfl) (Nat.le_of_ble_eq_true rfl) (h0 (fun q => q.1 c1))
  · refine x_iload_n (pc' := 5) rfl rfl rfl ?_
    refine x_aload_n (pc' := 6) rfl rfl rfl ?_
    refine x_get (pc' := 9) rfl rfl rfl (hT.1) rfl ?_
    refine x_alen (pc' := 10) rfl rfl (hT.2.2.2) ?_
    refine x_icmp_ge (tgt := 22) (pc' := 13) rfl rfl rfl (fun c10 => ?_) (fun c10 => ?_)
    · refine x_iconst (pc' := 23) rfl rfl iconst_0 ?_
      exact x_ireturn rfl rfl rfl (Nat.le_of_ble_eq_true rfl) (Nat.le_of_ble_eq_true rfl) (h0 (fun q => Int32.not_lt.mpr c10 q.2))
    · refine x_aload_n (pc' := 14) rfl rfl rfl ?_
      refine x_get (pc' := 17) rfl rfl rfl (hT.1) rfl ?_
      refine x_iload_n (pc' := 18) rfl rfl rfl ?_
      refine x_iaload (pc' := 19) rfl rfl (hT.2.2.2) ((by have h2 : (2 : Int32).toInt = 2 := (by decide); have h3 : (0 : Int32).toInt = 0 := (by decide); rw [vp_in_iff]; rw [Int32.lt_iff_toInt_lt] at c1; have c11 := c10; rw [show Int32.ofNat (2, (Sum.inl T.2.2.1 : (Nat → Int32) ⊕ (Nat → Int64) ⊕ (Nat → UInt32) ⊕ (Nat → UInt64) ⊕ (Nat → Option Nat))).1 = 2 from rfl, Int32.not_le, Int32.lt_iff_toInt_lt] at c11; omega)) ?_
      refine x_goto (tgt := 23) rfl rfl ?_
      exact x_ireturn rfl rfl rfl (Nat.le_of_ble_eq_true rfl) (Nat.le_of_ble_eq_true rfl) (h1 ⟨c1, Int32.not_le.mp c10⟩)
theorem w_beansOf {b : Int32} (hT : x_t z f t T) (h1 : t_has T b → post (some (.int (T.2.1 b.toNatClampNeg))) f) (h0 : ¬ t_has T b → post (some (.int 0)) f) : Y E 2 mX3_beansOf [.ref t, .int b] z f 0 0 post := by
  refine Y.intro gX3_beansOf (lv := [(0, .ref t), (1, .int b)]) rfl (Nat.le_of_ble_eq_true rfl) ?_
  refine x_aload_n (pc' := 1) rfl rfl rfl ?_
  refine x_iload_n (pc' := 2) rfl rfl rfl ?_
  refine x_cV1i (d := 1) (pc' := 5) rfl rfl sX3_55 gX3_has (hT.1) ⟨Nat.le_of_ble_eq_true rfl, Nat.le_of_ble_eq_true rfl⟩ (Nat.le_of_ble_eq_true rfl) ⟨Nat.le_of_ble_eq_true rfl, Nat.le_of_ble_eq_true rfl⟩ ?_
  refine w_has hT (fun g => ⟨_, rfl, ?_⟩) (fun g => ⟨_, rfl, ?_⟩)
  · refine x_if_eq (tgt := 17) (pc' := 8) rfl rfl rfl (fun c5 => absurd c5 (by decide)) (fun _ => ?_)
    refine x_aload_n (pc' := 9) rfl rfl rfl ?_
    refine x_get (pc' := 12) rfl rfl rfl (hT.1) rfl ?_
    refine x_iload_n (pc' := 13) rfl rfl rfl ?_
    refine x_iaload (pc' := 14) rfl rfl (hT.2.2.1) (vp_in_9 g.1 g.2.2) ?_
    refine x_goto (tgt := 18) rfl rfl ?_
    exact x_ireturn rfl rfl rfl (Nat.le_of_ble_eq_true rfl) (Nat.le_of_ble_eq_true rfl) (h1 g)
  · refine x_if_eq (tgt := 17) (pc' := 8) rfl rfl rfl (fun _ => ?_) (fun c5 => absurd (by decide) c5)
    refine x_iconst (pc' := 18) rfl rfl iconst_0 ?_
    exact x_ireturn rfl rfl rfl (Nat.le_of_ble_eq_true rfl) (Nat.le_of_ble_eq_true rfl) (h0 g)
theorem t_has_nI {n i : Nat} (hn : T.2.2.2 0 = nI n) (hn9 : n ≤ 9) (hi : i < n) : t_has T (nI i) := ⟨nI_pos (by omega), by rw [hn]; exact nI_lt hi (by omega), nI_lt (a := i) (b := 9) (by omega) (by decide)⟩
theorem w_allL {n : Nat} (hT : x_t z f t T) (hn : T.2.2.2 0 = nI n) (hn9 : n ≤ 9) (h : post (some (.int (x_sum T.2.1 n))) f) : ∀ (k i : Nat), i + k = n → X E (x_rm 3 0 0) mX3_allBeans (x_QM E z 0 0 post) 4 [(2, .int (nI i)), (1, .int (x_sum T.2.1 i)), (0, .ref t)] [] z f 0 0 := by
  intro k
  induction k with
  | zero =>
    intro i hi
    have hi2 : i = n := by omega
    subst hi2
    refine x_iload_n (pc' := 5) rfl rfl rfl ?_
    refine x_aload_n (pc' := 6) rfl rfl rfl ?_
    refine x_get (pc' := 9) rfl rfl rfl (hT.1) rfl ?_
    refine x_icmp_ge (tgt := 26) (pc' := 12) rfl rfl rfl (fun _ => ?_) (fun c9 => absurd ((by rw [hn]; exact Int32.le_refl _)) c9)
    refine x_iload_n (pc' := 27) rfl rfl rfl ?_
    exact x_ireturn rfl rfl rfl (Nat.le_of_ble_eq_true rfl) (Nat.le_of_ble_eq_true rfl) (h)
  | succ k ih =>
    intro i hi
    refine x_iload_n (pc' := 5) rfl rfl rfl ?_
    refine x_aload_n (pc' := 6) rfl rfl rfl ?_
    refine x_get (pc' := 9) rfl rfl rfl (hT.1) rfl ?_
    refine x_icmp_ge (tgt := 26) (pc' := 12) rfl rfl rfl (fun c9 => absurd c9 ((by rw [hn]; exact Int32.not_le.mpr (nI_lt (by omega) (by omega))))) (fun _ => ?_)
    refine x_iload_n (pc' := 13) rfl rfl rfl ?_
    refine x_aload_n (pc' := 14) rfl rfl rfl ?_
    refine x_iload_n (pc' := 15) rfl rfl rfl ?_
    refine x_cV1i (d := 2) (pc' := 18) rfl rfl sX3_59 gX3_beansOf (hT.1) ⟨Nat.le_of_ble_eq_true rfl, Nat.le_of_ble_eq_true rfl⟩ (Nat.le_of_ble_eq_true rfl) ⟨Nat.le_of_ble_eq_true rfl, Nat.le_of_ble_eq_true rfl⟩ ?_
    refine w_beansOf hT (fun g => ⟨_, rfl, ?_⟩) (fun g => absurd (t_has_nI hn hn9 (by omega)) g)
    rw [nI_clamp (by omega)]
    refine x_iadd (pc' := 19) rfl rfl ?_
    refine x_istore_n (pc' := 20) (lv' := [(1, _), (2, _), (0, _)]) rfl rfl (Nat.le_of_ble_eq_true rfl) rfl ?_
    refine x_iinc (pc' := 23) (lv' := [(2, _), (1, _), (0, _)]) rfl rfl (Nat.le_of_ble_eq_true rfl) rfl (nI_1 i) rfl ?_
    refine x_goto (tgt := 4) rfl rfl ?_
    exact ih (i + 1) (by omega)
theorem w_allBeans {n : Nat} (hT : x_t z f t T) (hn : T.2.2.2 0 = nI n) (hn9 : n ≤ 9) (h : post (some (.int (x_sum T.2.1 n))) f) : Y E 3 mX3_allBeans [.ref t] z f 0 0 post := by
  refine Y.intro gX3_allBeans (lv := [(0, .ref t)]) rfl (Nat.le_of_ble_eq_true rfl) ?_
  refine x_iconst (pc' := 1) rfl rfl iconst_0 ?_
  refine x_istore_n (pc' := 2) (lv' := [(1, _), (0, _)]) rfl rfl (Nat.le_of_ble_eq_true rfl) rfl ?_
  refine x_iconst (pc' := 3) rfl rfl iconst_0 ?_
  refine x_istore_n (pc' := 4) (lv' := [(2, _), (1, _), (0, _)]) rfl rfl (Nat.le_of_ble_eq_true rfl) rfl ?_
  exact w_allL hT hn hn9 h n 0 (by omega)
-- letters
theorem w_letterAt {p : Int32} (hS : x_Sys z f S) (h1 : ¬ p < 0 ∧ p < S.1 2 ∧ p < 96 → post (some (.int (S.2.2.1 0 p.toNatClampNeg))) f) (h0 : ¬ (¬ p < 0 ∧ p < S.1 2 ∧ p < 96) → post (some (.int (-1))) f) : Y E 1 mX2_letterAt [.ref 17, .int p] z f 0 0 post := by
  refine Y.intro gX2_letterAt (lv := [(0, .ref 17), (1, .int p)]) rfl (Nat.le_of_ble_eq_true rfl) ?_
  refine x_iload_n (pc' := 1) rfl rfl rfl ?_
  refine x_if_lt (tgt := 27) (pc' := 4) rfl rfl rfl (fun c1 => ?_) (fun c1 => ?_)
  · refine x_iconst (pc' := 28) rfl rfl iconst_m1 ?_
    exact x_ireturn rfl rfl rfl (Nat.le_of_ble_eq_true rfl) (Nat.le_of_ble_eq_true rfl) (h0 (fun q => q.1 c1))
  · refine x_iload_n (pc' := 5) rfl rfl rfl ?_
    refine x_aload_n (pc' := 6) rfl rfl rfl ?_
    refine x_get (pc' := 9) rfl rfl rfl (hS.lt) rfl ?_
    refine x_icmp_ge (tgt := 27) (pc' := 12) rfl rfl rfl (fun c9 => ?_) (fun c9 => ?_)
    · refine x_iconst (pc' := 28) rfl rfl iconst_m1 ?_
      exact x_ireturn rfl rfl rfl (Nat.le_of_ble_eq_true rfl) (Nat.le_of_ble_eq_true rfl) (h0 (fun q => Int32.not_lt.mpr c9 q.2.1))
    · refine x_iload_n (pc' := 13) rfl rfl rfl ?_
      refine x_bipush (pc' := 15) rfl rfl bipush_96 ?_
      refine x_icmp_ge (tgt := 27) (pc' := 18) rfl rfl rfl (fun c15 => ?_) (fun c15 => ?_)
      · refine x_iconst (pc' := 28) rfl rfl iconst_m1 ?_
        exact x_ireturn rfl rfl rfl (Nat.le_of_ble_eq_true rfl) (Nat.le_of_ble_eq_true rfl) (h0 (fun q => Int32.not_lt.mpr c15 q.2.2))
      · refine x_aload_n (pc' := 19) rfl rfl rfl ?_
        refine x_get (pc' := 22) rfl rfl rfl (hS.lt) rfl ?_
        refine x_iload_n (pc' := 23) rfl rfl rfl ?_
        refine x_iaload (pc' := 24) rfl rfl (hS.2.2.1 0 (by decide)) ((by have h2 : (96 : Int32).toInt = 96 := (by decide); have h3 : (0 : Int32).toInt = 0 := (by decide); rw [vp_in_iff]; rw [Int32.lt_iff_toInt_lt] at c1; have c16 := c15; rw [Int32.not_le, Int32.lt_iff_toInt_lt] at c16; exact ⟨by omega, by show _ < ((96 : Nat) : Int); omega⟩)) ?_
        refine x_goto (tgt := 28) rfl rfl ?_
        exact x_ireturn rfl rfl rfl (Nat.le_of_ble_eq_true rfl) (Nat.le_of_ble_eq_true rfl) (h1 ⟨c1, Int32.not_le.mp c9, Int32.not_le.mp c15⟩)
theorem w_add {c : Int32} {n : Nat} (hS : x_Sys z f S) (hn : S.1 2 = nI n) (h1 : n < 96 → ∀ f' : x_H, x_Sys z f' (upd S.1 2 (nI (n + 1)), S.2.1, x_ua S.2.2.1 0 (upd (S.2.2.1 0) n c), S.2.2.2) → x_fr (fun q => 59 ≤ q) f f' → post (some (.int 1)) f') (h0 : 96 ≤ n → n < 2 ^ 31 → post (some (.int 0)) f) (hn2 : n < 2 ^ 31) : Y E 1 mX2_add [.ref 17, .int c] z f 0 0 post := by
  refine Y.intro gX2_add (lv := [(0, .ref 17), (1, .int c)]) rfl (Nat.le_of_ble_eq_true rfl) ?_
  refine x_aload_n (pc' := 1) rfl rfl rfl ?_
  refine x_get (pc' := 4) rfl rfl rfl (hS.lt) rfl ?_
  refine x_eqi hn ?_
  refine x_if_lt (tgt := 16) (pc' := 7) rfl rfl rfl (fun c4 => absurd c4 (nI_pos hn2)) (fun _ => ?_)
  refine x_aload_n (pc' := 8) rfl rfl rfl ?_
  refine x_get (pc' := 11) rfl rfl rfl (hS.lt) rfl ?_
  refine x_eqi hn ?_
  refine x_bipush (pc' := 13) rfl rfl bipush_96 ?_
  refine x_icmp_lt (tgt := 18) (pc' := 16) rfl rfl rfl (fun c13 => ?_) (fun c13 => ?_)
  · have hn96 : n < 96 := Nat.not_le.mp (fun q => Int32.not_lt.mpr (nI_le (a := 96) (b := n) q hn2) c13)
    refine x_aload_n (pc' := 19) rfl rfl rfl ?_
    refine x_get (pc' := 22) rfl rfl rfl (hS.lt) rfl ?_
    refine x_aload_n (pc' := 23) rfl rfl rfl ?_
    refine x_get (pc' := 26) rfl rfl rfl (hS.lt) rfl ?_
    refine x_eqi hn ?_
    refine x_iload_n (pc' := 27) rfl rfl rfl ?_
    refine x_iastore (pc' := 28) rfl rfl (hS.2.2.1 0 (by decide)) (vp_in_nI (n := n) (N := 96) hn96 (by decide)) (fun f1 e1 => ?_)
    have hS1 := hS.arr 0 (by decide) e1
    have hF1 := (x_fr.rf (P := fun q => 59 ≤ q)).up e1 (by decide)
    refine x_aload_n (pc' := 29) rfl rfl rfl ?_
    refine x_dup (pc' := 30) rfl rfl rfl ?_
    refine x_get (pc' := 33) rfl rfl rfl (hS1.lt) rfl ?_
    refine x_eqi hn ?_
    refine x_iconst (pc' := 34) rfl rfl iconst_1 ?_
    refine x_iadd (pc' := 35) rfl rfl ?_
    refine x_eqi (nI_1 n) ?_
    refine x_put (pc' := 38) rfl rfl rfl (hS1.lt) (Nat.le_of_ble_eq_true rfl) rfl rfl rfl rfl (fun f2 e2 => ?_)
    have hS2 := hS1.num2 _ e2
    have hF2 := hF1.up e2 (by decide)
    rw [nI_clamp hn2] at hS2
    refine x_iconst (pc' := 39) rfl rfl iconst_1 ?_
    exact x_ireturn rfl rfl rfl (Nat.le_of_ble_eq_true rfl) (Nat.le_of_ble_eq_true rfl) (h1 hn96 _ hS2 hF2)
  · refine x_iconst (pc' := 17) rfl rfl iconst_0 ?_
    exact x_ireturn rfl rfl rfl (Nat.le_of_ble_eq_true rfl) (Nat.le_of_ble_eq_true rfl) (h0 (Nat.not_lt.mp (fun q => c13 (nI_lt (a := n) (b := 96) q (by decide)))) hn2)
theorem w_clear (hS : x_Sys z f S) (h : ∀ f' : x_H, x_Sys z f' (upd S.1 2 0, S.2.1, S.2.2.1, S.2.2.2) → x_fr (fun q => 59 ≤ q) f f' → post none f') : Y E 1 mX2_clear [.ref 17] z f 0 0 post := by
  refine Y.intro gX2_clear (lv := [(0, .ref 17)]) rfl (Nat.le_of_ble_eq_true rfl) ?_
  refine x_aload_n (pc' := 1) rfl rfl rfl ?_
  refine x_iconst (pc' := 2) rfl rfl iconst_0 ?_
  refine x_put (pc' := 5) rfl rfl rfl (hS.lt) (Nat.le_of_ble_eq_true rfl) rfl rfl rfl rfl (fun f1 e1 => ?_)
  have hS2 := hS.num2 _ e1
  have hF2 := (x_fr.rf (P := fun q => 59 ≤ q)).up e1 (by decide)
  exact x_return rfl rfl (Nat.le_of_ble_eq_true rfl) (Nat.le_of_ble_eq_true rfl) (h _ hS2 hF2)
end HELP
