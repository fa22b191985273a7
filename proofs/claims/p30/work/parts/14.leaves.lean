section
-- == 14.sys
/-! How the system's and the reference's cells change. -/
def x_ua (A : Nat → Nat → Int32) (j : Nat) (g : Nat → Int32) : Nat → Nat → Int32 := fun i => if i = j then g else A i
def x_ul (A : Nat → Nat → Int64) (j : Nat) (g : Nat → Int64) : Nat → Nat → Int64 := fun i => if i = j then g else A i
def x_ut (A : Nat → x_T) (j : Nat) (g : x_T) : Nat → x_T := fun i => if i = j then g else A i
theorem x_pos1 : ∀ j, j < 7 → (∀ i, i < 11 → x_ap j < x_tp i ∨ x_tp i + 4 ≤ x_ap j) ∧ (∀ i, i < 7 → i ≠ j → x_ap i ≠ x_ap j) ∧ (∀ i, i < 2 → x_lp i ≠ x_ap j) ∧ 0 ≠ x_ap j ∧ 17 ≠ x_ap j ∧ 19 ≠ x_ap j ∧ 20 ≠ x_ap j ∧ 42 ≠ x_ap j ∧ 54 ≠ x_ap j := by decide +kernel
theorem x_pos2 : ∀ j, j < 2 → (∀ i, i < 11 → x_lp j < x_tp i ∨ x_tp i + 4 ≤ x_lp j) ∧ (∀ i, i < 7 → x_ap i ≠ x_lp j) ∧ (∀ i, i < 2 → i ≠ j → x_lp i ≠ x_lp j) ∧ 0 ≠ x_lp j ∧ 17 ≠ x_lp j ∧ 19 ≠ x_lp j ∧ 20 ≠ x_lp j ∧ 42 ≠ x_lp j ∧ 54 ≠ x_lp j := by decide +kernel
theorem x_pos3 : ∀ j, j < 11 → (∀ i, i < 11 → i ≠ j → x_tp i + 4 ≤ x_tp j ∨ x_tp j + 4 ≤ x_tp i) ∧ (∀ i, i < 7 → x_ot (x_tp j) (x_ap i)) ∧ (∀ i, i < 2 → x_ot (x_tp j) (x_lp i)) ∧ x_ot (x_tp j) 0 ∧ x_ot (x_tp j) 17 ∧ x_ot (x_tp j) 19 ∧ x_ot (x_tp j) 20 ∧ x_ot (x_tp j) 42 ∧ x_ot (x_tp j) 54 := by decide +kernel
theorem x_pos4 : ∀ k, (k = 0 ∨ k = 17 ∨ k = 42) → (∀ i, i < 11 → k < x_tp i ∨ x_tp i + 4 ≤ k) ∧ (∀ i, i < 7 → x_ap i ≠ k) ∧ (∀ i, i < 2 → x_lp i ≠ k) := by
  intro k hk
  rcases hk with rfl | rfl | rfl <;> decide +kernel
theorem x_pos5 : (∀ i, i < 11 → x_tp i + 4 ≤ 59) ∧ (∀ i, i < 7 → x_ap i < 59) ∧ (∀ i, i < 2 → x_lp i < 59) := by decide +kernel
theorem x_pos6 : (∀ j, j < 11 → 59 < x_mp j ∧ (∀ i, i < 11 → i ≠ j → x_mp i ≠ x_mp j) ∧ (∀ i, i < 2 → 69 + i ≠ x_mp j)) ∧ (∀ j, j < 2 → (∀ i, i < 11 → x_mp i ≠ 69 + j) ∧ (∀ i, i < 2 → i ≠ j → 69 + i ≠ 69 + j)) := by decide +kernel
theorem x_mFs0 (n : Nat → Int32) (v : Int32) : (x_mF n).set 0 (.int v) = x_mF (upd n 0 v) := rfl
theorem x_mFs3 (n : Nat → Int32) (v : Int32) : (x_mF n).set 3 (.int v) = x_mF (upd n 3 v) := rfl
theorem x_mFs4 (n : Nat → Int32) (v : Int32) : (x_mF n).set 4 (.int v) = x_mF (upd n 4 v) := rfl
theorem x_mFs5 (n : Nat → Int32) (v : Int32) : (x_mF n).set 5 (.int v) = x_mF (upd n 5 v) := rfl
theorem x_mFs7 (n : Nat → Int32) (v : Int32) : (x_mF n).set 7 (.int v) = x_mF (upd n 7 v) := rfl
theorem x_mFs8 (n : Nat → Int32) (v : Int32) : (x_mF n).set 8 (.int v) = x_mF (upd n 8 v) := rfl
theorem x_mFs11 (n : Nat → Int32) (v : Int32) : (x_mF n).set 11 (.int v) = x_mF (upd n 11 v) := rfl
theorem x_mFs13 (n : Nat → Int32) (v : Int32) : (x_mF n).set 13 (.int v) = x_mF (upd n 13 v) := rfl
theorem x_mFs14 (n : Nat → Int32) (v : Int32) : (x_mF n).set 14 (.int v) = x_mF (upd n 14 v) := rfl
theorem x_mFs15 (n : Nat → Int32) (v : Int32) : (x_mF n).set 15 (.int v) = x_mF (upd n 15 v) := rfl
theorem x_mFs16 (n : Nat → Int32) (v : Int32) : (x_mF n).set 16 (.int v) = x_mF (upd n 16 v) := rfl
theorem x_mFs17 (n : Nat → Int32) (v : Int32) : (x_mF n).set 17 (.int v) = x_mF (upd n 17 v) := rfl
theorem x_mFs18 (n : Nat → Int32) (v : Int32) : (x_mF n).set 18 (.int v) = x_mF (upd n 18 v) := rfl
theorem x_mFs20 (n : Nat → Int32) (v : Int32) : (x_mF n).set 20 (.int v) = x_mF (upd n 20 v) := rfl
theorem x_mFs22 (n : Nat → Int32) (v : Int32) : (x_mF n).set 22 (.int v) = x_mF (upd n 22 v) := rfl
theorem x_mFs28 (n : Nat → Int32) (v : Int32) : (x_mF n).set 28 (.int v) = x_mF (upd n 28 v) := rfl
theorem x_mFs29 (n : Nat → Int32) (v : Int32) : (x_mF n).set 29 (.int v) = x_mF (upd n 29 v) := rfl
theorem x_mFs30 (n : Nat → Int32) (v : Int32) : (x_mF n).set 30 (.int v) = x_mF (upd n 30 v) := rfl
theorem x_mFs31 (n : Nat → Int32) (v : Int32) : (x_mF n).set 31 (.int v) = x_mF (upd n 31 v) := rfl
theorem x_tFs0 (t : Nat) (n : Nat → Int32) (v : Int32) : (x_tF t n).set 3 (.int v) = x_tF t (upd n 0 v) := rfl
theorem x_tFs1 (t : Nat) (n : Nat → Int32) (v : Int32) : (x_tF t n).set 4 (.int v) = x_tF t (upd n 1 v) := rfl
theorem x_tFs2 (t : Nat) (n : Nat → Int32) (v : Int32) : (x_tF t n).set 5 (.int v) = x_tF t (upd n 2 v) := rfl
theorem x_tFs3 (t : Nat) (n : Nat → Int32) (v : Int32) : (x_tF t n).set 6 (.int v) = x_tF t (upd n 3 v) := rfl
theorem x_tFs4 (t : Nat) (n : Nat → Int32) (v : Int32) : (x_tF t n).set 7 (.int v) = x_tF t (upd n 4 v) := rfl
theorem x_tFs5 (t : Nat) (n : Nat → Int32) (v : Int32) : (x_tF t n).set 8 (.int v) = x_tF t (upd n 5 v) := rfl
theorem x_tFs6 (t : Nat) (n : Nat → Int32) (v : Int32) : (x_tF t n).set 9 (.int v) = x_tF t (upd n 6 v) := rfl
theorem x_tFs7 (t : Nat) (n : Nat → Int32) (v : Int32) : (x_tF t n).set 10 (.int v) = x_tF t (upd n 7 v) := rfl
theorem x_tFs8 (t : Nat) (n : Nat → Int32) (v : Int32) : (x_tF t n).set 11 (.int v) = x_tF t (upd n 8 v) := rfl
theorem x_oFs0 (n : Nat → Int32) (v : Int32) : (x_oF n).set 2 (.int v) = x_oF (upd n 0 v) := rfl
theorem x_oFs1 (n : Nat → Int32) (v : Int32) : (x_oF n).set 10 (.int v) = x_oF (upd n 1 v) := rfl
theorem x_eFs3 (n : Nat → Int32) (v : Int32) : (x_eF n).set 5 (.int v) = x_eF (upd n 3 v) := rfl
theorem x_eFs4 (n : Nat → Int32) (v : Int32) : (x_eF n).set 6 (.int v) = x_eF (upd n 4 v) := rfl
theorem x_eFs5 (n : Nat → Int32) (v : Int32) : (x_eF n).set 7 (.int v) = x_eF (upd n 5 v) := rfl
section SYS
variable {z : Nat} {f f' : x_H} {S : x_S} {M : x_N}
theorem x_Sys.arr (h : x_Sys z f S) (j : Nat) {g : Nat → Int32} (hj : j < 7) (e : f' = x_up f (x_ap j) (.inl (x_an j, .inl g))) : x_Sys z f' (S.1, S.2.1, x_ua S.2.2.1 j g, S.2.2.2) := by
  obtain ⟨h1, h2, h3, h4, h5, h6, h7, h8, h9⟩ := h
  obtain ⟨p1, p2, p3, p4, p5, p6, p7, p8, p9⟩ := x_pos1 j hj
  refine ⟨h1.n e p4, fun i hi => (h2 i hi).n e (p1 i hi), fun i hi => ?_, fun i hi => (h4 i hi).n e (p3 i hi), h5.n e p5, h6.n e p6, h7.n e p7, h8.n e p8, h9.n e p9⟩
  by_cases hij : i = j
  · subst hij
    have h9 := x_a.s e (h3 i hi).1
    simp only [x_ua, if_pos]
    exact h9
  · simp only [x_ua, if_neg hij]
    exact (h3 i hi).n e (p2 i hi hij)
theorem x_Sys.lng (h : x_Sys z f S) (j : Nat) {g : Nat → Int64} (hj : j < 2) (e : f' = x_up f (x_lp j) (.inl (x_ln j, .inr (.inl g)))) : x_Sys z f' (S.1, S.2.1, S.2.2.1, x_ul S.2.2.2 j g) := by
  obtain ⟨h1, h2, h3, h4, h5, h6, h7, h8, h9⟩ := h
  obtain ⟨p1, p2, p3, p4, p5, p6, p7, p8, p9⟩ := x_pos2 j hj
  refine ⟨h1.n e p4, fun i hi => (h2 i hi).n e (p1 i hi), fun i hi => (h3 i hi).n e (p2 i hi), fun i hi => ?_, h5.n e p5, h6.n e p6, h7.n e p7, h8.n e p8, h9.n e p9⟩
  by_cases hij : i = j
  · subst hij
    have h9 := x_a.s e (h4 i hi).1
    simp only [x_ul, if_pos]
    exact h9
  · simp only [x_ul, if_neg hij]
    exact (h4 i hi).n e (p3 i hi hij)
theorem x_Sys.tab (h : x_Sys z f S) (j : Nat) {T : x_T} (hj : j < 11) (ht : x_t z f' (x_tp j) T) (hf : x_fr (x_ot (x_tp j)) f f') : x_Sys z f' (S.1, x_ut S.2.1 j T, S.2.2.1, S.2.2.2) := by
  obtain ⟨h1, h2, h3, h4, h5, h6, h7, h8, h9⟩ := h
  obtain ⟨p1, p2, p3, p4, p5, p6, p7, p8, p9⟩ := x_pos3 j hj
  refine ⟨h1.fr hf p4, fun i hi => ?_, fun i hi => (h3 i hi).fr hf (p2 i hi), fun i hi => (h4 i hi).fr hf (p3 i hi), h5.fr hf p5, h6.fr hf p6, h7.fr hf p7, h8.fr hf p8, h9.fr hf p9⟩
  by_cases hij : i = j
  · subst hij
    simp only [x_ut, if_pos]
    exact ht
  · simp only [x_ut, if_neg hij]
    refine (h2 i hi).fr hf (fun a ha => ?_)
    have := p1 i hi hij
    unfold x_ot
    omega
theorem x_Sys.num0 (h : x_Sys z f S) (n' : Nat → Int32) (e : f' = x_up f 0 (.inr (5, x_oF n'))) (h2 : ∀ i, 2 ≤ i → n' i = S.1 i) : x_Sys z f' (n', S.2.1, S.2.2.1, S.2.2.2) := by
  obtain ⟨h1, g2, h3, h4, h5, h6, h7, h8, h9⟩ := h
  obtain ⟨p1, p2, p3⟩ := x_pos4 0 (Or.inl rfl)
  refine ⟨x_o.s e h1.1, fun i hi => (g2 i hi).n e (p1 i hi), fun i hi => (h3 i hi).n e (p2 i hi), fun i hi => (h4 i hi).n e (p3 i hi), ?_, h6.n e (by decide), h7.n e (by decide), ?_, h9.n e (by decide)⟩
  · show x_o z f' 17 2 [.ref 18, .int (n' 2)]
    rw [show n' 2 = S.1 2 from h2 2 (by decide)]
    exact h5.n e (by decide)
  · have h9 : x_eF n' = x_eF S.1 := by
      unfold x_eF
      rw [h2 3 (by decide), h2 4 (by decide), h2 5 (by decide)]
    show x_o z f' 42 1 (x_eF n')
    rw [h9]
    exact h8.n e (by decide)
theorem x_Sys.num2 (h : x_Sys z f S) (v : Int32) (e : f' = x_up f 17 (.inr (2, [.ref 18, .int v]))) : x_Sys z f' (upd S.1 2 v, S.2.1, S.2.2.1, S.2.2.2) := by
  obtain ⟨h1, g2, h3, h4, h5, h6, h7, h8, h9⟩ := h
  obtain ⟨p1, p2, p3⟩ := x_pos4 17 (Or.inr (Or.inl rfl))
  exact ⟨h1.n e (by decide), fun i hi => (g2 i hi).n e (p1 i hi), fun i hi => (h3 i hi).n e (p2 i hi), fun i hi => (h4 i hi).n e (p3 i hi), x_o.s e h5.1, h6.n e (by decide), h7.n e (by decide), h8.n e (by decide), h9.n e (by decide)⟩
theorem x_Sys.fr (h : x_Sys z f S) (hf : x_fr (fun q => q < 59) f f') : x_Sys z f' S := by
  obtain ⟨h1, h2, h3, h4, h5, h6, h7, h8, h9⟩ := h
  obtain ⟨p1, p2, p3⟩ := x_pos5
  exact ⟨h1.fr hf (by decide), fun i hi => (h2 i hi).fr hf (fun a ha => by have := p1 i hi; show _ < _; omega), fun i hi => (h3 i hi).fr hf (p2 i hi), fun i hi => (h4 i hi).fr hf (p3 i hi), h5.fr hf (by decide), h6.fr hf (by decide), h7.fr hf (by decide), h8.fr hf (by decide), h9.fr hf (by decide)⟩
theorem x_Sys.zz {z' : Nat} (h : x_Sys z f S) (hz : z ≤ z') : x_Sys z' f S := by
  obtain ⟨h1, h2, h3, h4, h5, h6, h7, h8, h9⟩ := h
  exact ⟨h1.zz hz, fun i hi => (h2 i hi).zz hz, fun i hi => (h3 i hi).zz hz, fun i hi => (h4 i hi).zz hz, h5.zz hz, h6.zz hz, h7.zz hz, h8.zz hz, h9.zz hz⟩
theorem x_Mdl.num (h : x_Mdl z f M) (k : Nat) {v : Int32} (e : f' = x_up f 59 (.inr (6, (x_mF M.1).set k (.int v)))) (hk : (x_mF M.1).set k (.int v) = x_mF (upd M.1 k v)) : x_Mdl z f' (upd M.1 k v, M.2.1, M.2.2) := by
  rw [hk] at e
  have p := x_pos6.1
  exact ⟨x_o.s e h.1.1, fun i hi => (h.2.1 i hi).n e (by have := (p i hi).1; omega), fun i hi => (h.2.2 i hi).n e (by omega)⟩
theorem x_Mdl.arr (h : x_Mdl z f M) (j : Nat) {g : Nat → Int32} (hj : j < 11) (e : f' = x_up f (x_mp j) (.inl (x_mn j, .inl g))) : x_Mdl z f' (M.1, x_ua M.2.1 j g, M.2.2) := by
  obtain ⟨p1, p2, p3⟩ := x_pos6.1 j hj
  refine ⟨h.1.n e (by omega), fun i hi => ?_, fun i hi => (h.2.2 i hi).n e (p3 i hi)⟩
  by_cases hij : i = j
  · subst hij
    have h9 := x_a.s e (h.2.1 i hi).1
    simp only [x_ua, if_pos]
    exact h9
  · simp only [x_ua, if_neg hij]
    exact (h.2.1 i hi).n e (p2 i hi hij)
theorem x_Mdl.lng (h : x_Mdl z f M) (j : Nat) {g : Nat → Int64} (hj : j < 2) (e : f' = x_up f (69 + j) (.inl (41, .inr (.inl g)))) : x_Mdl z f' (M.1, M.2.1, x_ul M.2.2 j g) := by
  obtain ⟨p2, p3⟩ := x_pos6.2 j hj
  refine ⟨h.1.n e (by omega), fun i hi => (h.2.1 i hi).n e (p2 i hi), fun i hi => ?_⟩
  by_cases hij : i = j
  · subst hij
    have h9 := x_a.s e (h.2.2 i hi).1
    simp only [x_ul, if_pos]
    exact h9
  · simp only [x_ul, if_neg hij]
    exact (h.2.2 i hi).n e (p3 i hi hij)
theorem x_Mdl.fr (h : x_Mdl z f M) (hf : x_fr (fun q => 59 ≤ q) f f') : x_Mdl z f' M :=
  ⟨h.1.fr hf (Nat.le_refl _), fun i hi => (h.2.1 i hi).fr hf (Nat.le_of_lt (x_pos6.1 i hi).1), fun i hi => (h.2.2 i hi).fr hf (by show 59 ≤ _; omega)⟩
end SYS
end
section
-- == 15.leaf
/-! Small methods of both sides. -/
theorem lg_lt {x y : Int64} : lg_cmp x y < 0 ↔ x < y := by
  unfold lg_cmp
  by_cases h1 : x > y
  · rw [if_pos h1]
    have h2 : ¬ x < y := fun h => Int64.lt_irrefl (Int64.lt_trans h h1)
    exact ⟨fun h => absurd h (by decide), fun h => absurd h h2⟩
  · rw [if_neg h1]
    by_cases h2 : x = y
    · rw [if_pos h2]
      exact ⟨fun h => absurd h (by decide), fun h => absurd (h2 ▸ h) Int64.lt_irrefl⟩
    · rw [if_neg h2]
      exact ⟨fun _ => Int64.lt_of_le_of_ne (Int64.not_lt.mp h1) h2, fun _ => by decide⟩
theorem lg_gt {x y : Int64} : 0 < lg_cmp x y ↔ y < x := by
  unfold lg_cmp
  by_cases h1 : x > y
  · rw [if_pos h1]
    exact ⟨fun _ => h1, fun _ => by decide⟩
  · rw [if_neg h1]
    by_cases h2 : x = y
    · rw [if_pos h2]
      exact ⟨fun h => absurd h (by decide), fun h => absurd h h1⟩
    · rw [if_neg h2]
      exact ⟨fun h => absurd h (by decide), fun h => absurd h h1⟩
theorem i64_lt {x y : Int32} : x.toInt64 < y.toInt64 ↔ x < y := by
  rw [Int64.lt_iff_toInt_lt, Int32.lt_iff_toInt_lt, Int32.toInt_toInt64, Int32.toInt_toInt64]
theorem i64_0 : (0 : Int64) = (0 : Int32).toInt64 := by decide
/-- one more refused -/
def x_rf (g : Nat → Int32) (k : Nat) : Nat → Int32 := upd g k (g k + 1)
section LEAF
variable {E : x_E} {z : Nat} {f : x_H} {S : x_S} {M : x_N} {post : Option Value → x_H → Prop}
/-- the class refuses with one of its numbers -/
theorem w_refuse {n : Int32} {k : Nat} (hn : -n = nI k) (hk : k < 7) (hS : x_Sys z f S) (h : ∀ f' : x_H, x_Sys z f' (S.1, S.2.1, x_ua S.2.2.1 6 (x_rf (S.2.2.1 6) k), S.2.2.2) → x_fr (fun q => 59 ≤ q) f f' → post (some (.int n)) f') : Y E 1 mX5_refuse [.ref 0, .int n] z f 0 0 post := by
  refine Y.intro gX5_refuse (lv := [(0, .ref 0), (1, .int n)]) rfl (Nat.le_of_ble_eq_true rfl) ?_
  have hin : vp_in (nI k) 7 := vp_in_nI hk (by decide)
  have hcl : (nI k).toNatClampNeg = k := nI_clamp (by omega)
  refine x_iload_n (pc' := 1) rfl rfl rfl ?_
  refine x_ineg (pc' := 2) rfl rfl ?_
  refine x_eqi hn ?_
  refine x_istore_n (pc' := 3) (lv' := [(2, _), (0, _), (1, _)]) rfl rfl (Nat.le_of_ble_eq_true rfl) rfl ?_
  refine x_iload_n (pc' := 4) rfl rfl rfl ?_
  refine x_if_lt (tgt := 26) (pc' := 7) rfl rfl rfl (fun c4 => absurd c4 (nI_pos (by omega))) (fun _ => ?_)
  refine x_iload_n (pc' := 8) rfl rfl rfl ?_
  refine x_aload_n (pc' := 9) rfl rfl rfl ?_
  refine x_get (pc' := 12) rfl rfl rfl (hS.1) rfl ?_
  refine x_alen (pc' := 13) rfl rfl (hS.2.2.1 6 (by decide)) ?_
  refine x_icmp_ge (tgt := 26) (pc' := 16) rfl rfl rfl (fun c13 => absurd c13 (Int32.not_le.mpr (nI_lt (a := k) (b := 7) hk (by decide)))) (fun _ => ?_)
  refine x_aload_n (pc' := 17) rfl rfl rfl ?_
  refine x_get (pc' := 20) rfl rfl rfl (hS.1) rfl ?_
  refine x_iload_n (pc' := 21) rfl rfl rfl ?_
  refine x_dup2 (pc' := 22) rfl rfl rfl rfl ?_
  refine x_iaload (pc' := 23) rfl rfl (hS.2.2.1 6 (by decide)) (hin) ?_
  refine x_iconst (pc' := 24) rfl rfl iconst_1 ?_
  refine x_iadd (pc' := 25) rfl rfl ?_
  refine x_iastore (pc' := 26) rfl rfl (hS.2.2.1 6 (by decide)) (hin) (fun f1 e1 => ?_)
  have hS1 := hS.arr 6 (by decide) e1
  rw [hcl] at hS1
  refine x_iload_n (pc' := 27) rfl rfl rfl ?_
  exact x_ireturn rfl rfl rfl (Nat.le_of_ble_eq_true rfl) (Nat.le_of_ble_eq_true rfl) (h _ hS1 (x_fr.rf.up e1 (by decide)))
theorem w_refuseFar {n : Int32} {k : Nat} (hn : -n = nI k) (hk : k < 7) (hS : x_Sys z f S) (h : ∀ f' : x_H, x_Sys z f' (S.1, S.2.1, x_ua S.2.2.1 6 (x_rf (S.2.2.1 6) k), S.2.2.2) → x_fr (fun q => 59 ≤ q) f f' → post (some (.int (1000000000 - n))) f') : Y E 2 mX5_refuseFar [.ref 0, .int n] z f 0 0 post := by
  refine Y.intro gX5_refuseFar (lv := [(0, .ref 0), (1, .int n)]) rfl (Nat.le_of_ble_eq_true rfl) ?_
  refine x_ldc (pc' := 2) rfl rfl rfl ?_
  refine x_aload_n (pc' := 3) rfl rfl rfl ?_
  refine x_iload_n (pc' := 4) rfl rfl rfl ?_
  refine x_cV1i (d := 1) (pc' := 7) rfl rfl sX5_68 gX5_refuse (hS.1) ⟨Nat.le_of_ble_eq_true rfl, Nat.le_of_ble_eq_true rfl⟩ (Nat.le_of_ble_eq_true rfl) ⟨Nat.le_of_ble_eq_true rfl, Nat.le_of_ble_eq_true rfl⟩ ?_
  refine w_refuse hn hk hS (fun f1 hS1 hF1 => ⟨_, rfl, ?_⟩)
  refine x_isub (pc' := 8) rfl rfl ?_
  exact x_ireturn rfl rfl rfl (Nat.le_of_ble_eq_true rfl) (Nat.le_of_ble_eq_true rfl) (h _ hS1 hF1)
theorem w_in {v a b : Int64} (h1 : ¬ v < a ∧ ¬ b < v → post (some (.int 1)) f) (h0 : ¬ (¬ v < a ∧ ¬ b < v) → post (some (.int 0)) f) : Y E 1 mX6_in [.long v, .long a, .long b] z f 0 0 post := by
  refine Y.intro gX6_in (lv := [(0, .long v), (2, .long a), (4, .long b)]) rfl (Nat.le_of_ble_eq_true rfl) ?_
  refine x_lload_n (pc' := 1) rfl rfl rfl ?_
  refine x_lload_n (pc' := 2) rfl rfl rfl ?_
  refine x_lcmp (pc' := 3) rfl rfl ?_
  refine x_if_lt (tgt := 17) (pc' := 6) rfl rfl rfl (fun c3 => ?_) (fun c3 => ?_)
  · refine x_iconst (pc' := 18) rfl rfl iconst_0 ?_
    exact x_ireturn rfl rfl rfl (Nat.le_of_ble_eq_true rfl) (Nat.le_of_ble_eq_true rfl) (h0 (fun q => q.1 (lg_lt.mp c3)))
  · refine x_lload_n (pc' := 7) rfl rfl rfl ?_
    refine x_lload (pc' := 9) rfl rfl rfl ?_
    refine x_lcmp (pc' := 10) rfl rfl ?_
    refine x_if_gt (tgt := 17) (pc' := 13) rfl rfl rfl (fun c10 => ?_) (fun c10 => ?_)
    · refine x_iconst (pc' := 18) rfl rfl iconst_0 ?_
      exact x_ireturn rfl rfl rfl (Nat.le_of_ble_eq_true rfl) (Nat.le_of_ble_eq_true rfl) (h0 (fun q => q.2 (lg_gt.mp c10)))
    · refine x_iconst (pc' := 14) rfl rfl iconst_1 ?_
      refine x_goto (tgt := 18) rfl rfl ?_
      exact x_ireturn rfl rfl rfl (Nat.le_of_ble_eq_true rfl) (Nat.le_of_ble_eq_true rfl) (h1 ⟨fun q => c3 (lg_lt.mpr q), fun q => c10 (lg_gt.mpr q)⟩)
theorem w_isBowl {b : Int32} (hM : x_Mdl z f M) (h1 : ¬ b < 0 ∧ ¬ M.1 3 - 1 < b → post (some (.int 1)) f) (h0 : ¬ (¬ b < 0 ∧ ¬ M.1 3 - 1 < b) → post (some (.int 0)) f) : Y E 2 mX6_isBowl [.ref 59, .int b] z f 0 0 post := by
  refine Y.intro gX6_isBowl (lv := [(0, .ref 59), (1, .int b)]) rfl (Nat.le_of_ble_eq_true rfl) ?_
  refine x_iload_n (pc' := 1) rfl rfl rfl ?_
  refine x_i2l (pc' := 2) rfl rfl ?_
  refine x_lconst (pc' := 3) rfl rfl lconst_0 ?_
  refine x_aload_n (pc' := 4) rfl rfl rfl ?_
  refine x_get (pc' := 7) rfl rfl rfl (hM.1) rfl ?_
  refine x_iconst (pc' := 8) rfl rfl iconst_1 ?_
  refine x_isub (pc' := 9) rfl rfl ?_
  refine x_i2l (pc' := 10) rfl rfl ?_
  refine x_cS3i (d := 1) (pc' := 13) rfl rfl sX6_63 gX6_in ⟨Nat.le_of_ble_eq_true rfl, Nat.le_of_ble_eq_true rfl⟩ (Nat.le_of_ble_eq_true rfl) ⟨Nat.le_of_ble_eq_true rfl, Nat.le_of_ble_eq_true rfl⟩ ?_
  refine w_in (fun g => ⟨_, rfl, ?_⟩) (fun g => ⟨_, rfl, ?_⟩)
  all_goals rw [i64_0, i64_lt, i64_lt] at g
  · exact x_ireturn rfl rfl rfl (Nat.le_of_ble_eq_true rfl) (Nat.le_of_ble_eq_true rfl) (h1 g)
  · exact x_ireturn rfl rfl rfl (Nat.le_of_ble_eq_true rfl) (Nat.le_of_ble_eq_true rfl) (h0 g)
theorem w_mRefuse {n : Int32} {k : Nat} (hn : -n - 1 = nI k) (hk : k < 6) (hM : x_Mdl z f M) (h : ∀ f' : x_H, x_Mdl z f' (M.1, x_ua M.2.1 3 (x_rf (M.2.1 3) k), M.2.2) → x_fr (fun q => q < 59) f f' → post (some (.int n)) f') : Y E 1 mX6_refuse [.ref 59, .int n] z f 0 0 post := by
  refine Y.intro gX6_refuse (lv := [(0, .ref 59), (1, .int n)]) rfl (Nat.le_of_ble_eq_true rfl) ?_
  have hin : vp_in (nI k) 6 := vp_in_nI hk (by decide)
  have hcl : (nI k).toNatClampNeg = k := nI_clamp (by omega)
  refine x_aload_n (pc' := 1) rfl rfl rfl ?_
  refine x_get (pc' := 4) rfl rfl rfl (hM.1) rfl ?_
  refine x_iload_n (pc' := 5) rfl rfl rfl ?_
  refine x_ineg (pc' := 6) rfl rfl ?_
  refine x_iconst (pc' := 7) rfl rfl iconst_1 ?_
  refine x_isub (pc' := 8) rfl rfl ?_
  refine x_eqi hn ?_
  refine x_dup2 (pc' := 9) rfl rfl rfl rfl ?_
  refine x_iaload (pc' := 10) rfl rfl (hM.2.1 3 (by decide)) (hin) ?_
  refine x_iconst (pc' := 11) rfl rfl iconst_1 ?_
  refine x_iadd (pc' := 12) rfl rfl ?_
  refine x_iastore (pc' := 13) rfl rfl (hM.2.1 3 (by decide)) (hin) (fun f1 e1 => ?_)
  have hM1 := hM.arr 3 (by decide) e1
  rw [hcl] at hM1
  refine x_iload_n (pc' := 14) rfl rfl rfl ?_
  exact x_ireturn rfl rfl rfl (Nat.le_of_ble_eq_true rfl) (Nat.le_of_ble_eq_true rfl) (h _ hM1 (x_fr.rf.up e1 (by decide)))
theorem w_told {n : Int32} {k : Nat} (hn : -n - 1 = nI k) (hk : k < 6) (hM : x_Mdl z f M) (h : ∀ f' : x_H, x_Mdl z f' (M.1, x_ua M.2.1 3 (x_rf (M.2.1 3) k), M.2.2) → x_fr (fun q => q < 59) f f' → post (some (.int (1000000000 - n))) f') : Y E 2 mX6_told [.ref 59, .int n] z f 0 0 post := by
  refine Y.intro gX6_told (lv := [(0, .ref 59), (1, .int n)]) rfl (Nat.le_of_ble_eq_true rfl) ?_
  refine x_ldc (pc' := 2) rfl rfl rfl ?_
  refine x_aload_n (pc' := 3) rfl rfl rfl ?_
  refine x_iload_n (pc' := 4) rfl rfl rfl ?_
  refine x_cV1i (d := 1) (pc' := 7) rfl rfl sX6_110 gX6_refuse (hM.1) ⟨Nat.le_of_ble_eq_true rfl, Nat.le_of_ble_eq_true rfl⟩ (Nat.le_of_ble_eq_true rfl) ⟨Nat.le_of_ble_eq_true rfl, Nat.le_of_ble_eq_true rfl⟩ ?_
  refine w_mRefuse hn hk hM (fun f1 hM1 hF1 => ⟨_, rfl, ?_⟩)
  refine x_isub (pc' := 8) rfl rfl ?_
  exact x_ireturn rfl rfl rfl (Nat.le_of_ble_eq_true rfl) (Nat.le_of_ble_eq_true rfl) (h _ hM1 hF1)
end LEAF
end
section
-- == 16.keeps
/-! The reference keeps a frame, and lays it. -/
def x_kpB (l b : Nat) (bs old : Nat → Int32) : Nat → Int32 := fun j => if 12 * l ≤ j ∧ j < 12 * l + b then bs (j - 12 * l) else old j
/-- a frame kept -/
def x_kp (l : Nat) (bs : Nat → Int32) (p0 p1 t : Int32) (old : Nat → Int32) : Nat → Int32 := upd (upd (upd (x_kpB l 9 bs old) (12 * l + 9) p0) (12 * l + 10) p1) (12 * l + 11) t
theorem x_kpB_0 (l : Nat) (bs old : Nat → Int32) : x_kpB l 0 bs old = old := by
  funext j
  unfold x_kpB
  rw [if_neg (by omega)]
theorem x_kpB_s (l b : Nat) (bs old : Nat → Int32) : upd (x_kpB l b bs old) (12 * l + b) (bs b) = x_kpB l (b + 1) bs old := by
  funext j
  unfold upd x_kpB
  by_cases h : j = 12 * l + b
  · rw [if_pos h, if_pos (by omega), h]
    congr 1
    omega
  · rw [if_neg h]
    by_cases h2 : 12 * l ≤ j ∧ j < 12 * l + b
    · rw [if_pos h2, if_pos (by omega)]
    · rw [if_neg h2, if_neg (by omega)]
def x_lyB (l b : Nat) (fr old : Nat → Int32) : Nat → Int32 := fun j => if j < b then fr (12 * l + j) else old j
theorem x_lyB_0 (l : Nat) (fr old : Nat → Int32) : x_lyB l 0 fr old = old := by
  funext j
  unfold x_lyB
  rw [if_neg (by omega)]
theorem x_lyB_s (l b : Nat) (fr old : Nat → Int32) : upd (x_lyB l b fr old) b (fr (12 * l + b)) = x_lyB l (b + 1) fr old := by
  funext j
  unfold upd x_lyB
  by_cases h : j = b
  · rw [if_pos h, if_pos (by omega), h]
  · rw [if_neg h]
    by_cases h2 : j < b
    · rw [if_pos h2, if_pos (by omega)]
    · rw [if_neg h2, if_neg (by omega)]
section KEEPS
variable {E : x_E} {z : Nat} {f : x_H} {M : x_N} {post : Option Value → x_H → Prop}
theorem x_mul12 (l : Nat) : (12 : Int32) * nI l = nI (12 * l) := by
  rw [show (12 : Int32) = nI 12 from by decide]
  exact pk_mul 12 l
theorem w_keepsL {l : Nat} (hl : l ≤ 7) (h : ∀ f' : x_H, x_Mdl z f' (M.1, x_ua M.2.1 6 (x_kp l (M.2.1 1) (M.2.1 2 0) (M.2.1 2 1) (M.1 7) (M.2.1 6)), M.2.2) → x_fr (fun q => q < 59) f f' → post none f') :
    ∀ (n b : Nat) (g : x_H), b + n = 9 → x_Mdl z g (M.1, x_ua M.2.1 6 (x_kpB l b (M.2.1 1) (M.2.1 6)), M.2.2) → x_fr (fun q => q < 59) f g → X E (x_rm 1 0 0) mX6_keeps (x_QM E z 0 0 post) 7 [(3, .int (nI b)), (2, .int (nI (12 * l))), (0, .ref 59), (1, .int (nI l))] [] z g 0 0 := by
  intro n
  induction n with
  | zero =>
    intro b g hbn hM hF
    have hb : b = 9 := by omega
    subst hb
    refine x_iload_n (pc' := 8) rfl rfl rfl ?_
    refine x_bipush (pc' := 10) rfl rfl bipush_9 ?_
    refine x_icmp_ge (tgt := 33) (pc' := 13) rfl rfl rfl (fun _ => ?_) (fun c10 => absurd ((by decide : (9 : Int32) ≤ nI 9)) c10)
    refine x_aload_n (pc' := 34) rfl rfl rfl ?_
    refine x_get (pc' := 37) rfl rfl rfl (hM.1) rfl ?_
    refine x_iload_n (pc' := 38) rfl rfl rfl ?_
    refine x_bipush (pc' := 40) rfl rfl bipush_9 ?_
    refine x_iadd (pc' := 41) rfl rfl ?_
    refine x_eqi (show nI (12 * l) + 9 = nI (12 * l + 9) from nI_add (12 * l) 9) ?_
    refine x_aload_n (pc' := 42) rfl rfl rfl ?_
    refine x_get (pc' := 45) rfl rfl rfl (hM.1) rfl ?_
    refine x_iconst (pc' := 46) rfl rfl iconst_0 ?_
    refine x_iaload (pc' := 47) rfl rfl (hM.2.1 2 (by decide)) (vp_in_nI (n := 0) (N := 2) (by decide) (by decide)) ?_
    refine x_iastore (pc' := 48) rfl rfl (hM.2.1 6 (by decide)) (vp_in_nI (n := 12 * l + 9) (N := 96) (by omega) (by decide)) (fun f1 e1 => ?_)
    have hM1 := hM.arr 6 (by decide) e1
    have hF1 := hF.up e1 (by decide)
    refine x_aload_n (pc' := 49) rfl rfl rfl ?_
    refine x_get (pc' := 52) rfl rfl rfl (hM1.1) rfl ?_
    refine x_iload_n (pc' := 53) rfl rfl rfl ?_
    refine x_bipush (pc' := 55) rfl rfl bipush_10 ?_
    refine x_iadd (pc' := 56) rfl rfl ?_
    refine x_eqi (show nI (12 * l) + 10 = nI (12 * l + 10) from nI_add (12 * l) 10) ?_
    refine x_aload_n (pc' := 57) rfl rfl rfl ?_
    refine x_get (pc' := 60) rfl rfl rfl (hM1.1) rfl ?_
    refine x_iconst (pc' := 61) rfl rfl iconst_1 ?_
    refine x_iaload (pc' := 62) rfl rfl (hM1.2.1 2 (by decide)) (vp_in_nI (n := 1) (N := 2) (by decide) (by decide)) ?_
    refine x_iastore (pc' := 63) rfl rfl (hM1.2.1 6 (by decide)) (vp_in_nI (n := 12 * l + 10) (N := 96) (by omega) (by decide)) (fun f2 e2 => ?_)
    have hM2 := hM1.arr 6 (by decide) e2
    have hF2 := hF1.up e2 (by decide)
    refine x_aload_n (pc' := 64) rfl rfl rfl ?_
    refine x_get (pc' := 67) rfl rfl rfl (hM2.1) rfl ?_
    refine x_iload_n (pc' := 68) rfl rfl rfl ?_
    refine x_bipush (pc' := 70) rfl rfl bipush_11 ?_
    refine x_iadd (pc' := 71) rfl rfl ?_
    refine x_eqi (show nI (12 * l) + 11 = nI (12 * l + 11) from nI_add (12 * l) 11) ?_
    refine x_aload_n (pc' := 72) rfl rfl rfl ?_
    refine x_get (pc' := 75) rfl rfl rfl (hM2.1) rfl ?_
    refine x_iastore (pc' := 76) rfl rfl (hM2.2.1 6 (by decide)) (vp_in_nI (n := 12 * l + 11) (N := 96) (by omega) (by decide)) (fun f3 e3 => ?_)
    have hM3 := hM2.arr 6 (by decide) e3
    have hF3 := hF2.up e3 (by decide)
    refine x_return rfl rfl (Nat.le_refl _) (Nat.le_refl _) (h _ ?_ hF3)
    refine ⟨hM3.1, fun i hi => ?_, hM3.2.2⟩
    have h9 := hM3.2.1 i hi
    by_cases h6 : i = 6
    · subst h6
      rw [nI_clamp (by omega), nI_clamp (by omega), nI_clamp (by omega)] at h9
      exact h9
    · simp only [x_ua, if_neg h6] at h9 ⊢
      exact h9
  | succ n ih =>
    intro b g hbn hM hF
    refine x_iload_n (pc' := 8) rfl rfl rfl ?_
    refine x_bipush (pc' := 10) rfl rfl bipush_9 ?_
    refine x_icmp_ge (tgt := 33) (pc' := 13) rfl rfl rfl (fun c10 => absurd c10 (Int32.not_le.mpr (nI_lt (a := b) (b := 9) (by omega) (by decide)))) (fun _ => ?_)
    refine x_aload_n (pc' := 14) rfl rfl rfl ?_
    refine x_get (pc' := 17) rfl rfl rfl (hM.1) rfl ?_
    refine x_iload_n (pc' := 18) rfl rfl rfl ?_
    refine x_iload_n (pc' := 19) rfl rfl rfl ?_
    refine x_iadd (pc' := 20) rfl rfl ?_
    refine x_eqi (nI_add (12 * l) b) ?_
    refine x_aload_n (pc' := 21) rfl rfl rfl ?_
    refine x_get (pc' := 24) rfl rfl rfl (hM.1) rfl ?_
    refine x_iload_n (pc' := 25) rfl rfl rfl ?_
    refine x_iaload (pc' := 26) rfl rfl (hM.2.1 1 (by decide)) (vp_in_nI (n := b) (N := 9) (by omega) (by decide)) ?_
    refine x_iastore (pc' := 27) rfl rfl (hM.2.1 6 (by decide)) (vp_in_nI (n := 12 * l + b) (N := 96) (by omega) (by decide)) (fun f1 e1 => ?_)
    have hM1 := hM.arr 6 (by decide) e1
    have hF1 := hF.up e1 (by decide)
    refine x_iinc (pc' := 30) (lv' := [(3, _), (2, _), (0, _), (1, _)]) rfl rfl (Nat.le_of_ble_eq_true rfl) rfl (nI_1 b) rfl ?_
    refine x_goto (tgt := 7) rfl rfl ?_
    refine ih (b + 1) _ (by omega) ?_ hF1
    refine ⟨hM1.1, fun i hi => ?_, hM1.2.2⟩
    have h9 := hM1.2.1 i hi
    by_cases h6 : i = 6
    · subst h6
      rw [nI_clamp (by omega), nI_clamp (by omega)] at h9
      simp only [x_ua, if_pos] at h9 ⊢
      rw [← x_kpB_s]
      exact h9
    · simp only [x_ua, if_neg h6] at h9 ⊢
      exact h9
theorem w_keeps {l : Nat} (hl : l ≤ 7) (hM : x_Mdl z f M) (h : ∀ f' : x_H, x_Mdl z f' (M.1, x_ua M.2.1 6 (x_kp l (M.2.1 1) (M.2.1 2 0) (M.2.1 2 1) (M.1 7) (M.2.1 6)), M.2.2) → x_fr (fun q => q < 59) f f' → post none f') : Y E 1 mX6_keeps [.ref 59, .int (nI l)] z f 0 0 post := by
  refine Y.intro gX6_keeps (lv := [(0, .ref 59), (1, .int (nI l))]) rfl (Nat.le_of_ble_eq_true rfl) ?_
  refine x_bipush (pc' := 2) rfl rfl bipush_12 ?_
  refine x_iload_n (pc' := 3) rfl rfl rfl ?_
  refine x_imul (pc' := 4) rfl rfl ?_
  refine x_eqi (x_mul12 l) ?_
  refine x_istore_n (pc' := 5) (lv' := [(2, _), (0, _), (1, _)]) rfl rfl (Nat.le_of_ble_eq_true rfl) rfl ?_
  refine x_iconst (pc' := 6) rfl rfl iconst_0 ?_
  refine x_istore_n (pc' := 7) (lv' := [(3, _), (2, _), (0, _), (1, _)]) rfl rfl (Nat.le_of_ble_eq_true rfl) rfl ?_
  refine w_keepsL hl h 9 0 _ rfl ?_ x_fr.rf
  refine ⟨hM.1, fun i hi => ?_, hM.2.2⟩
  have h9 := hM.2.1 i hi
  by_cases h6 : i = 6
  · subst h6
    simp only [x_ua, if_pos]
    rw [x_kpB_0]
    exact h9
  · simp only [x_ua, if_neg h6]
    exact h9
/-- what a laid frame leaves: beans, purses, turn -/
def x_ly (l : Nat) (M : x_N) : x_N := (upd M.1 7 (M.2.1 6 (12 * l + 11)), x_ua (x_ua M.2.1 1 (x_lyB l 9 (M.2.1 6) (M.2.1 1))) 2 (upd (upd (M.2.1 2) 0 (M.2.1 6 (12 * l + 9))) 1 (M.2.1 6 (12 * l + 10))), M.2.2)
theorem w_laysL {l : Nat} (hl : l ≤ 7) (h : ∀ f' : x_H, x_Mdl z f' (x_ly l M) → x_fr (fun q => q < 59) f f' → post none f') :
    ∀ (n b : Nat) (g : x_H), b + n = 9 → x_Mdl z g (M.1, x_ua M.2.1 1 (x_lyB l b (M.2.1 6) (M.2.1 1)), M.2.2) → x_fr (fun q => q < 59) f g → X E (x_rm 1 0 0) mX6_lays (x_QM E z 0 0 post) 7 [(3, .int (nI b)), (2, .int (nI (12 * l))), (0, .ref 59), (1, .int (nI l))] [] z g 0 0 := by
  intro n
  induction n with
  | zero =>
    intro b g hbn hM hF
    have hb : b = 9 := by omega
    subst hb
    refine x_iload_n (pc' := 8) rfl rfl rfl ?_
    refine x_bipush (pc' := 10) rfl rfl bipush_9 ?_
    refine x_icmp_ge (tgt := 33) (pc' := 13) rfl rfl rfl (fun _ => ?_) (fun c10 => absurd ((by decide : (9 : Int32) ≤ nI 9)) c10)
    refine x_aload_n (pc' := 34) rfl rfl rfl ?_
    refine x_get (pc' := 37) rfl rfl rfl (hM.1) rfl ?_
    refine x_iconst (pc' := 38) rfl rfl iconst_0 ?_
    refine x_aload_n (pc' := 39) rfl rfl rfl ?_
    refine x_get (pc' := 42) rfl rfl rfl (hM.1) rfl ?_
    refine x_iload_n (pc' := 43) rfl rfl rfl ?_
    refine x_bipush (pc' := 45) rfl rfl bipush_9 ?_
    refine x_iadd (pc' := 46) rfl rfl ?_
    refine x_eqi (show nI (12 * l) + 9 = nI (12 * l + 9) from nI_add (12 * l) 9) ?_
    refine x_iaload (pc' := 47) rfl rfl (hM.2.1 6 (by decide)) (vp_in_nI (n := 12 * l + 9) (N := 96) (by omega) (by decide)) ?_
    refine x_iastore (pc' := 48) rfl rfl (hM.2.1 2 (by decide)) (vp_in_nI (n := 0) (N := 2) (by decide) (by decide)) (fun f1 e1 => ?_)
    have hM1 := hM.arr 2 (by decide) e1
    have hF1 := hF.up e1 (by decide)
    refine x_aload_n (pc' := 49) rfl rfl rfl ?_
    refine x_get (pc' := 52) rfl rfl rfl (hM1.1) rfl ?_
    refine x_iconst (pc' := 53) rfl rfl iconst_1 ?_
    refine x_aload_n (pc' := 54) rfl rfl rfl ?_
    refine x_get (pc' := 57) rfl rfl rfl (hM1.1) rfl ?_
    refine x_iload_n (pc' := 58) rfl rfl rfl ?_
    refine x_bipush (pc' := 60) rfl rfl bipush_10 ?_
    refine x_iadd (pc' := 61) rfl rfl ?_
    refine x_eqi (show nI (12 * l) + 10 = nI (12 * l + 10) from nI_add (12 * l) 10) ?_
    refine x_iaload (pc' := 62) rfl rfl (hM1.2.1 6 (by decide)) (vp_in_nI (n := 12 * l + 10) (N := 96) (by omega) (by decide)) ?_
    refine x_iastore (pc' := 63) rfl rfl (hM1.2.1 2 (by decide)) (vp_in_nI (n := 1) (N := 2) (by decide) (by decide)) (fun f2 e2 => ?_)
    have hM2 := hM1.arr 2 (by decide) e2
    have hF2 := hF1.up e2 (by decide)
    refine x_aload_n (pc' := 64) rfl rfl rfl ?_
    refine x_aload_n (pc' := 65) rfl rfl rfl ?_
    refine x_get (pc' := 68) rfl rfl rfl (hM2.1) rfl ?_
    refine x_iload_n (pc' := 69) rfl rfl rfl ?_
    refine x_bipush (pc' := 71) rfl rfl bipush_11 ?_
    refine x_iadd (pc' := 72) rfl rfl ?_
    refine x_eqi (show nI (12 * l) + 11 = nI (12 * l + 11) from nI_add (12 * l) 11) ?_
    refine x_iaload (pc' := 73) rfl rfl (hM2.2.1 6 (by decide)) (vp_in_nI (n := 12 * l + 11) (N := 96) (by omega) (by decide)) ?_
    refine x_put (pc' := 76) rfl rfl rfl (hM2.1) (Nat.le_of_ble_eq_true rfl) rfl rfl rfl rfl (fun f3 e3 => ?_)
    have hM3 := hM2.num 7 e3 (x_mFs7 _ _)
    have hF3 := hF2.up e3 (by decide)
    refine x_return rfl rfl (Nat.le_refl _) (Nat.le_refl _) (h _ ?_ hF3)
    refine ⟨?_, fun i hi => ?_, hM3.2.2⟩
    · have h9 := hM3.1
      simp only [x_ua, if_pos, if_neg (show ¬ (6 = 2) by decide), if_neg (show ¬ (6 = 1) by decide)] at h9
      rw [nI_clamp (by omega)] at h9
      exact h9
    · have h9 := hM3.2.1 i hi
      by_cases h6 : i = 2
      · subst h6
        simp only [x_ua, if_pos, if_neg (show ¬ (6 = 2) by decide), if_neg (show ¬ (6 = 1) by decide), if_neg (show ¬ (2 = 1) by decide)] at h9
        rw [nI_clamp (by omega), nI_clamp (by omega)] at h9
        exact h9
      · simp only [x_ly, x_ua, if_neg h6] at h9 ⊢
        exact h9
  | succ n ih =>
    intro b g hbn hM hF
    refine x_iload_n (pc' := 8) rfl rfl rfl ?_
    refine x_bipush (pc' := 10) rfl rfl bipush_9 ?_
    refine x_icmp_ge (tgt := 33) (pc' := 13) rfl rfl rfl (fun c10 => absurd c10 (Int32.not_le.mpr (nI_lt (a := b) (b := 9) (by omega) (by decide)))) (fun _ => ?_)
    refine x_aload_n (pc' := 14) rfl rfl rfl ?_
    refine x_get (pc' := 17) rfl rfl rfl (hM.1) rfl ?_
    refine x_iload_n (pc' := 18) rfl rfl rfl ?_
    refine x_aload_n (pc' := 19) rfl rfl rfl ?_
    refine x_get (pc' := 22) rfl rfl rfl (hM.1) rfl ?_
    refine x_iload_n (pc' := 23) rfl rfl rfl ?_
    refine x_iload_n (pc' := 24) rfl rfl rfl ?_
    refine x_iadd (pc' := 25) rfl rfl ?_
    refine x_eqi (nI_add (12 * l) b) ?_
    refine x_iaload (pc' := 26) rfl rfl (hM.2.1 6 (by decide)) (vp_in_nI (n := 12 * l + b) (N := 96) (by omega) (by decide)) ?_
    refine x_iastore (pc' := 27) rfl rfl (hM.2.1 1 (by decide)) (vp_in_nI (n := b) (N := 9) (by omega) (by decide)) (fun f1 e1 => ?_)
    have hM1 := hM.arr 1 (by decide) e1
    have hF1 := hF.up e1 (by decide)
    refine x_iinc (pc' := 30) (lv' := [(3, _), (2, _), (0, _), (1, _)]) rfl rfl (Nat.le_of_ble_eq_true rfl) rfl (nI_1 b) rfl ?_
    refine x_goto (tgt := 7) rfl rfl ?_
    refine ih (b + 1) _ (by omega) ?_ hF1
    refine ⟨hM1.1, fun i hi => ?_, hM1.2.2⟩
    have h9 := hM1.2.1 i hi
    by_cases h6 : i = 1
    · subst h6
      rw [nI_clamp (by omega), nI_clamp (by omega)] at h9
      simp only [x_ua, if_pos, if_neg (show ¬ (6 = 1) by decide)] at h9 ⊢
      rw [← x_lyB_s]
      exact h9
    · simp only [x_ua, if_neg h6] at h9 ⊢
      exact h9
theorem w_lays {l : Nat} (hl : l ≤ 7) (hM : x_Mdl z f M) (h : ∀ f' : x_H, x_Mdl z f' (x_ly l M) → x_fr (fun q => q < 59) f f' → post none f') : Y E 1 mX6_lays [.ref 59, .int (nI l)] z f 0 0 post := by
  refine Y.intro gX6_lays (lv := [(0, .ref 59), (1, .int (nI l))]) rfl (Nat.le_of_ble_eq_true rfl) ?_
  refine x_bipush (pc' := 2) rfl rfl bipush_12 ?_
  refine x_iload_n (pc' := 3) rfl rfl rfl ?_
  refine x_imul (pc' := 4) rfl rfl ?_
  refine x_eqi (x_mul12 l) ?_
  refine x_istore_n (pc' := 5) (lv' := [(2, _), (0, _), (1, _)]) rfl rfl (Nat.le_of_ble_eq_true rfl) rfl ?_
  refine x_iconst (pc' := 6) rfl rfl iconst_0 ?_
  refine x_istore_n (pc' := 7) (lv' := [(3, _), (2, _), (0, _), (1, _)]) rfl rfl (Nat.le_of_ble_eq_true rfl) rfl ?_
  refine w_laysL hl h 9 0 _ rfl ?_ x_fr.rf
  refine ⟨hM.1, fun i hi => ?_, hM.2.2⟩
  have h9 := hM.2.1 i hi
  by_cases h6 : i = 1
  · subst h6
    simp only [x_ua, if_pos]
    rw [x_lyB_0]
    exact h9
  · simp only [x_ua, if_neg h6]
    exact h9
end KEEPS
end
section
-- == 17.help
/-! Helpers of the class. -/
theorem x_tpq (i : Nat) (hi : i < 11) {q : Nat} (hq : 59 ≤ q) : x_ot (x_tp i) q := by
  have := x_pos5.1 i hi
  unfold x_ot
  omega
def x_sum (g : Nat → Int32) : Nat → Int32
  | 0 => 0
  | n + 1 => x_sum g n + g n
section HELP
variable {E : x_E} {z : Nat} {f : x_H} {S : x_S} {M : x_N} {t : Nat} {T : x_T} {post : Option Value → x_H → Prop}
theorem x_Sys.lt (h : x_Sys z f S) : x_o z f 17 2 [.ref 18, .int (S.1 2)] := h.2.2.2.2.1
theorem x_Sys.ah (h : x_Sys z f S) : x_o z f 19 0 [.ref 20, .ref 21] := h.2.2.2.2.2.1
theorem x_Sys.li (h : x_Sys z f S) : x_a z f 20 (5, .inr (.inr (.inr (.inr x_line)))) := h.2.2.2.2.2.2.1
theorem x_Sys.em (h : x_Sys z f S) : x_o z f 42 1 (x_eF S.1) := h.2.2.2.2.2.2.2.1
theorem x_Sys.wy (h : x_Sys z f S) : x_o z f 54 4 [.ref 55, .ref 56] := h.2.2.2.2.2.2.2.2
theorem w_purseOf {b : Int32} (hT : x_t z f t T) (h1 : ¬ b < 0 ∧ b < 2 → post (some (.int (T.2.2.1 b.toNatClampNeg))) f) (h0 : ¬ (¬ b < 0 ∧ b < 2) → post (some (.int 0)) f) : Y E 1 mX3_purseOf [.ref t, .int b] z f 0 0 post := by
  refine Y.intro gX3_purseOf (lv := [(0, .ref t), (1, .int b)]) rfl (Nat.le_of_ble_eq_true rfl) ?_
  refine x_iload_n (pc' := 1) rfl rfl rfl ?_
  refine x_if_lt (tgt := 22) (pc' := 4) rfl rfl rfl (fun c1 => ?_) (fun c1 => ?_)
  · refine x_iconst (pc' := 23) rfl rfl iconst_0 ?_
    exact x_ireturn rfl rfl rfl (Nat.le_of_ble_eq_true rfl) (Nat.le_of_ble_eq_true rfl) (h0 (fun q => q.1 c1))
  · refine x_iload_n (pc' := 5) rfl rfl rfl ?_
    refine x_aload_n (pc' := 6) rfl rfl rfl ?_
    refine x_get (pc' := 9) rfl rfl rfl (hT.1) rfl ?_
    refine x_alen (pc' := 10) rfl rfl (hT.2.2.2) ?_
    refine x_icmp_ge (tgt := 22) (pc' := 13) rfl rfl rfl (fun c10 => ?_) (fun c10 => ?_)
    · refine x_iconst (pc' := 23) rfl rfl iconst_0 ?_
      exact x_ireturn rfl rfl rfl (Nat.le_of_ble_eq_true rfl) (Nat.le_of_ble_eq_true rfl) (h0 (fun q => Int32.not_lt.mpr c10 q.2))
    · refine x_aload_n (pc' := 14) rfl rfl rfl ?_
      refine x_get (pc' := 17) rfl rfl rfl (hT.1) rfl ?_
      refine x_iload_n (pc' := 18) rfl rfl rfl ?_
      refine x_iaload (pc' := 19) rfl rfl (hT.2.2.2) ((by have h2 : (2 : Int32).toInt = 2 := (by decide); have h3 : (0 : Int32).toInt = 0 := (by decide); rw [vp_in_iff]; rw [Int32.lt_iff_toInt_lt] at c1; have c11 := c10; rw [show Int32.ofNat (2, (Sum.inl T.2.2.1 : (Nat → Int32) ⊕ (Nat → Int64) ⊕ (Nat → UInt32) ⊕ (Nat → UInt64) ⊕ (Nat → Option Nat))).1 = 2 from rfl, Int32.not_le, Int32.lt_iff_toInt_lt] at c11; omega)) ?_
      refine x_goto (tgt := 23) rfl rfl ?_
      exact x_ireturn rfl rfl rfl (Nat.le_of_ble_eq_true rfl) (Nat.le_of_ble_eq_true rfl) (h1 ⟨c1, Int32.not_le.mp c10⟩)
theorem w_beansOf {b : Int32} (hT : x_t z f t T) (h1 : t_has T b → post (some (.int (T.2.1 b.toNatClampNeg))) f) (h0 : ¬ t_has T b → post (some (.int 0)) f) : Y E 2 mX3_beansOf [.ref t, .int b] z f 0 0 post := by
  refine Y.intro gX3_beansOf (lv := [(0, .ref t), (1, .int b)]) rfl (Nat.le_of_ble_eq_true rfl) ?_
  refine x_aload_n (pc' := 1) rfl rfl rfl ?_
  refine x_iload_n (pc' := 2) rfl rfl rfl ?_
  refine x_cV1i (d := 1) (pc' := 5) rfl rfl sX3_55 gX3_has (hT.1) ⟨Nat.le_of_ble_eq_true rfl, Nat.le_of_ble_eq_true rfl⟩ (Nat.le_of_ble_eq_true rfl) ⟨Nat.le_of_ble_eq_true rfl, Nat.le_of_ble_eq_true rfl⟩ ?_
  refine w_has hT (fun g => ⟨_, rfl, ?_⟩) (fun g => ⟨_, rfl, ?_⟩)
  · refine x_if_eq (tgt := 17) (pc' := 8) rfl rfl rfl (fun c5 => absurd c5 (by decide)) (fun _ => ?_)
    refine x_aload_n (pc' := 9) rfl rfl rfl ?_
    refine x_get (pc' := 12) rfl rfl rfl (hT.1) rfl ?_
    refine x_iload_n (pc' := 13) rfl rfl rfl ?_
    refine x_iaload (pc' := 14) rfl rfl (hT.2.2.1) (vp_in_9 g.1 g.2.2) ?_
    refine x_goto (tgt := 18) rfl rfl ?_
    exact x_ireturn rfl rfl rfl (Nat.le_of_ble_eq_true rfl) (Nat.le_of_ble_eq_true rfl) (h1 g)
  · refine x_if_eq (tgt := 17) (pc' := 8) rfl rfl rfl (fun _ => ?_) (fun c5 => absurd (by decide) c5)
    refine x_iconst (pc' := 18) rfl rfl iconst_0 ?_
    exact x_ireturn rfl rfl rfl (Nat.le_of_ble_eq_true rfl) (Nat.le_of_ble_eq_true rfl) (h0 g)
theorem t_has_nI {n i : Nat} (hn : T.2.2.2 0 = nI n) (hn9 : n ≤ 9) (hi : i < n) : t_has T (nI i) := ⟨nI_pos (by omega), by rw [hn]; exact nI_lt hi (by omega), nI_lt (a := i) (b := 9) (by omega) (by decide)⟩
theorem w_allL {n : Nat} (hT : x_t z f t T) (hn : T.2.2.2 0 = nI n) (hn9 : n ≤ 9) (h : post (some (.int (x_sum T.2.1 n))) f) : ∀ (k i : Nat), i + k = n → X E (x_rm 3 0 0) mX3_allBeans (x_QM E z 0 0 post) 4 [(2, .int (nI i)), (1, .int (x_sum T.2.1 i)), (0, .ref t)] [] z f 0 0 := by
  intro k
  induction k with
  | zero =>
    intro i hi
    have hi2 : i = n := by omega
    subst hi2
    refine x_iload_n (pc' := 5) rfl rfl rfl ?_
    refine x_aload_n (pc' := 6) rfl rfl rfl ?_
    refine x_get (pc' := 9) rfl rfl rfl (hT.1) rfl ?_
    refine x_icmp_ge (tgt := 26) (pc' := 12) rfl rfl rfl (fun _ => ?_) (fun c9 => absurd ((by rw [hn]; exact Int32.le_refl _)) c9)
    refine x_iload_n (pc' := 27) rfl rfl rfl ?_
    exact x_ireturn rfl rfl rfl (Nat.le_of_ble_eq_true rfl) (Nat.le_of_ble_eq_true rfl) (h)
  | succ k ih =>
    intro i hi
    refine x_iload_n (pc' := 5) rfl rfl rfl ?_
    refine x_aload_n (pc' := 6) rfl rfl rfl ?_
    refine x_get (pc' := 9) rfl rfl rfl (hT.1) rfl ?_
    refine x_icmp_ge (tgt := 26) (pc' := 12) rfl rfl rfl (fun c9 => absurd c9 ((by rw [hn]; exact Int32.not_le.mpr (nI_lt (by omega) (by omega))))) (fun _ => ?_)
    refine x_iload_n (pc' := 13) rfl rfl rfl ?_
    refine x_aload_n (pc' := 14) rfl rfl rfl ?_
    refine x_iload_n (pc' := 15) rfl rfl rfl ?_
    refine x_cV1i (d := 2) (pc' := 18) rfl rfl sX3_59 gX3_beansOf (hT.1) ⟨Nat.le_of_ble_eq_true rfl, Nat.le_of_ble_eq_true rfl⟩ (Nat.le_of_ble_eq_true rfl) ⟨Nat.le_of_ble_eq_true rfl, Nat.le_of_ble_eq_true rfl⟩ ?_
    refine w_beansOf hT (fun g => ⟨_, rfl, ?_⟩) (fun g => absurd (t_has_nI hn hn9 (by omega)) g)
    rw [nI_clamp (by omega)]
    refine x_iadd (pc' := 19) rfl rfl ?_
    refine x_istore_n (pc' := 20) (lv' := [(1, _), (2, _), (0, _)]) rfl rfl (Nat.le_of_ble_eq_true rfl) rfl ?_
    refine x_iinc (pc' := 23) (lv' := [(2, _), (1, _), (0, _)]) rfl rfl (Nat.le_of_ble_eq_true rfl) rfl (nI_1 i) rfl ?_
    refine x_goto (tgt := 4) rfl rfl ?_
    exact ih (i + 1) (by omega)
theorem w_allBeans {n : Nat} (hT : x_t z f t T) (hn : T.2.2.2 0 = nI n) (hn9 : n ≤ 9) (h : post (some (.int (x_sum T.2.1 n))) f) : Y E 3 mX3_allBeans [.ref t] z f 0 0 post := by
  refine Y.intro gX3_allBeans (lv := [(0, .ref t)]) rfl (Nat.le_of_ble_eq_true rfl) ?_
  refine x_iconst (pc' := 1) rfl rfl iconst_0 ?_
  refine x_istore_n (pc' := 2) (lv' := [(1, _), (0, _)]) rfl rfl (Nat.le_of_ble_eq_true rfl) rfl ?_
  refine x_iconst (pc' := 3) rfl rfl iconst_0 ?_
  refine x_istore_n (pc' := 4) (lv' := [(2, _), (1, _), (0, _)]) rfl rfl (Nat.le_of_ble_eq_true rfl) rfl ?_
  exact w_allL hT hn hn9 h n 0 (by omega)
-- letters
theorem w_letterAt {p : Int32} (hS : x_Sys z f S) (h1 : ¬ p < 0 ∧ p < S.1 2 ∧ p < 96 → post (some (.int (S.2.2.1 0 p.toNatClampNeg))) f) (h0 : ¬ (¬ p < 0 ∧ p < S.1 2 ∧ p < 96) → post (some (.int (-1))) f) : Y E 1 mX2_letterAt [.ref 17, .int p] z f 0 0 post := by
  refine Y.intro gX2_letterAt (lv := [(0, .ref 17), (1, .int p)]) rfl (Nat.le_of_ble_eq_true rfl) ?_
  refine x_iload_n (pc' := 1) rfl rfl rfl ?_
  refine x_if_lt (tgt := 27) (pc' := 4) rfl rfl rfl (fun c1 => ?_) (fun c1 => ?_)
  · refine x_iconst (pc' := 28) rfl rfl iconst_m1 ?_
    exact x_ireturn rfl rfl rfl (Nat.le_of_ble_eq_true rfl) (Nat.le_of_ble_eq_true rfl) (h0 (fun q => q.1 c1))
  · refine x_iload_n (pc' := 5) rfl rfl rfl ?_
    refine x_aload_n (pc' := 6) rfl rfl rfl ?_
    refine x_get (pc' := 9) rfl rfl rfl (hS.lt) rfl ?_
    refine x_icmp_ge (tgt := 27) (pc' := 12) rfl rfl rfl (fun c9 => ?_) (fun c9 => ?_)
    · refine x_iconst (pc' := 28) rfl rfl iconst_m1 ?_
      exact x_ireturn rfl rfl rfl (Nat.le_of_ble_eq_true rfl) (Nat.le_of_ble_eq_true rfl) (h0 (fun q => Int32.not_lt.mpr c9 q.2.1))
    · refine x_iload_n (pc' := 13) rfl rfl rfl ?_
      refine x_bipush (pc' := 15) rfl rfl bipush_96 ?_
      refine x_icmp_ge (tgt := 27) (pc' := 18) rfl rfl rfl (fun c15 => ?_) (fun c15 => ?_)
      · refine x_iconst (pc' := 28) rfl rfl iconst_m1 ?_
        exact x_ireturn rfl rfl rfl (Nat.le_of_ble_eq_true rfl) (Nat.le_of_ble_eq_true rfl) (h0 (fun q => Int32.not_lt.mpr c15 q.2.2))
      · refine x_aload_n (pc' := 19) rfl rfl rfl ?_
        refine x_get (pc' := 22) rfl rfl rfl (hS.lt) rfl ?_
        refine x_iload_n (pc' := 23) rfl rfl rfl ?_
        refine x_iaload (pc' := 24) rfl rfl (hS.2.2.1 0 (by decide)) ((by have h2 : (96 : Int32).toInt = 96 := (by decide); have h3 : (0 : Int32).toInt = 0 := (by decide); rw [vp_in_iff]; rw [Int32.lt_iff_toInt_lt] at c1; have c16 := c15; rw [Int32.not_le, Int32.lt_iff_toInt_lt] at c16; exact ⟨by omega, by show _ < ((96 : Nat) : Int); omega⟩)) ?_
        refine x_goto (tgt := 28) rfl rfl ?_
        exact x_ireturn rfl rfl rfl (Nat.le_of_ble_eq_true rfl) (Nat.le_of_ble_eq_true rfl) (h1 ⟨c1, Int32.not_le.mp c9, Int32.not_le.mp c15⟩)
theorem w_add {c : Int32} {n : Nat} (hS : x_Sys z f S) (hn : S.1 2 = nI n) (h1 : n < 96 → ∀ f' : x_H, x_Sys z f' (upd S.1 2 (nI (n + 1)), S.2.1, x_ua S.2.2.1 0 (upd (S.2.2.1 0) n c), S.2.2.2) → x_fr (fun q => 59 ≤ q) f f' → post (some (.int 1)) f') (h0 : 96 ≤ n → n < 2 ^ 31 → post (some (.int 0)) f) (hn2 : n < 2 ^ 31) : Y E 1 mX2_add [.ref 17, .int c] z f 0 0 post := by
  refine Y.intro gX2_add (lv := [(0, .ref 17), (1, .int c)]) rfl (Nat.le_of_ble_eq_true rfl) ?_
  refine x_aload_n (pc' := 1) rfl rfl rfl ?_
  refine x_get (pc' := 4) rfl rfl rfl (hS.lt) rfl ?_
  refine x_eqi hn ?_
  refine x_if_lt (tgt := 16) (pc' := 7) rfl rfl rfl (fun c4 => absurd c4 (nI_pos hn2)) (fun _ => ?_)
  refine x_aload_n (pc' := 8) rfl rfl rfl ?_
  refine x_get (pc' := 11) rfl rfl rfl (hS.lt) rfl ?_
  refine x_eqi hn ?_
  refine x_bipush (pc' := 13) rfl rfl bipush_96 ?_
  refine x_icmp_lt (tgt := 18) (pc' := 16) rfl rfl rfl (fun c13 => ?_) (fun c13 => ?_)
  · have hn96 : n < 96 := Nat.not_le.mp (fun q => Int32.not_lt.mpr (nI_le (a := 96) (b := n) q hn2) c13)
    refine x_aload_n (pc' := 19) rfl rfl rfl ?_
    refine x_get (pc' := 22) rfl rfl rfl (hS.lt) rfl ?_
    refine x_aload_n (pc' := 23) rfl rfl rfl ?_
    refine x_get (pc' := 26) rfl rfl rfl (hS.lt) rfl ?_
    refine x_eqi hn ?_
    refine x_iload_n (pc' := 27) rfl rfl rfl ?_
    refine x_iastore (pc' := 28) rfl rfl (hS.2.2.1 0 (by decide)) (vp_in_nI (n := n) (N := 96) hn96 (by decide)) (fun f1 e1 => ?_)
    have hS1 := hS.arr 0 (by decide) e1
    have hF1 := (x_fr.rf (P := fun q => 59 ≤ q)).up e1 (by decide)
    refine x_aload_n (pc' := 29) rfl rfl rfl ?_
    refine x_dup (pc' := 30) rfl rfl rfl ?_
    refine x_get (pc' := 33) rfl rfl rfl (hS1.lt) rfl ?_
    refine x_eqi hn ?_
    refine x_iconst (pc' := 34) rfl rfl iconst_1 ?_
    refine x_iadd (pc' := 35) rfl rfl ?_
    refine x_eqi (nI_1 n) ?_
    refine x_put (pc' := 38) rfl rfl rfl (hS1.lt) (Nat.le_of_ble_eq_true rfl) rfl rfl rfl rfl (fun f2 e2 => ?_)
    have hS2 := hS1.num2 _ e2
    have hF2 := hF1.up e2 (by decide)
    rw [nI_clamp hn2] at hS2
    refine x_iconst (pc' := 39) rfl rfl iconst_1 ?_
    exact x_ireturn rfl rfl rfl (Nat.le_of_ble_eq_true rfl) (Nat.le_of_ble_eq_true rfl) (h1 hn96 _ hS2 hF2)
  · refine x_iconst (pc' := 17) rfl rfl iconst_0 ?_
    exact x_ireturn rfl rfl rfl (Nat.le_of_ble_eq_true rfl) (Nat.le_of_ble_eq_true rfl) (h0 (Nat.not_lt.mp (fun q => c13 (nI_lt (a := n) (b := 96) q (by decide)))) hn2)
theorem w_clear (hS : x_Sys z f S) (h : ∀ f' : x_H, x_Sys z f' (upd S.1 2 0, S.2.1, S.2.2.1, S.2.2.2) → x_fr (fun q => 59 ≤ q) f f' → post none f') : Y E 1 mX2_clear [.ref 17] z f 0 0 post := by
  refine Y.intro gX2_clear (lv := [(0, .ref 17)]) rfl (Nat.le_of_ble_eq_true rfl) ?_
  refine x_aload_n (pc' := 1) rfl rfl rfl ?_
  refine x_iconst (pc' := 2) rfl rfl iconst_0 ?_
  refine x_put (pc' := 5) rfl rfl rfl (hS.lt) (Nat.le_of_ble_eq_true rfl) rfl rfl rfl rfl (fun f1 e1 => ?_)
  have hS2 := hS.num2 _ e1
  have hF2 := (x_fr.rf (P := fun q => 59 ≤ q)).up e1 (by decide)
  exact x_return rfl rfl (Nat.le_of_ble_eq_true rfl) (Nat.le_of_ble_eq_true rfl) (h _ hS2 hF2)
end HELP
end
section
-- == 18.fresh
/-! The class's larger helpers where no bowl is held. -/
section FRESH
variable {E : x_E} {z : Nat} {f : x_H} {S : x_S} {post : Option Value → x_H → Prop}
theorem w_mostM1 (h : post (some (.int 0)) f) : Y E 1 mX2_mostDigits [.int (-1)] z f 0 0 post := by
  refine Y.intro gX2_mostDigits (lv := [(0, .int (-1))]) rfl (Nat.le_of_ble_eq_true rfl) ?_
  refine x_iload_n (pc' := 1) rfl rfl rfl ?_
  refine x_tableOut (tgt := 99) rfl ((by decide)) rfl ?_
  refine x_iconst (pc' := 100) rfl rfl iconst_0 ?_
  exact x_ireturn rfl rfl rfl (Nat.le_of_ble_eq_true rfl) (Nat.le_of_ble_eq_true rfl) (h)
theorem w_stuckIn0 (hS : x_Sys z f S) (h2 : S.1 2 = 0) (h : post (some (.int 0)) f) : Y E 2 mX2_stuckIn [.ref 17, .int 0] z f 0 0 post := by
  refine Y.intro gX2_stuckIn (lv := [(0, .ref 17), (1, .int 0)]) rfl (Nat.le_of_ble_eq_true rfl) ?_
  refine x_aload_n (pc' := 1) rfl rfl rfl ?_
  refine x_iload_n (pc' := 2) rfl rfl rfl ?_
  refine x_cV1i (d := 1) (pc' := 5) rfl rfl sX2_34 gX2_letterAt (hS.lt) ⟨Nat.le_of_ble_eq_true rfl, Nat.le_of_ble_eq_true rfl⟩ (Nat.le_of_ble_eq_true rfl) ⟨Nat.le_of_ble_eq_true rfl, Nat.le_of_ble_eq_true rfl⟩ ?_
  refine w_letterAt hS (fun q => absurd q.2.1 (by rw [h2]; decide)) (fun q => ⟨_, rfl, ?_⟩)
  refine x_istore_n (pc' := 6) (lv' := [(2, _), (0, _), (1, _)]) rfl rfl (Nat.le_of_ble_eq_true rfl) rfl ?_
  refine x_iload_n (pc' := 7) rfl rfl rfl ?_
  refine x_cS1i (d := 1) (pc' := 10) rfl rfl sX2_37 gX2_mostDigits ⟨Nat.le_of_ble_eq_true rfl, Nat.le_of_ble_eq_true rfl⟩ (Nat.le_of_ble_eq_true rfl) ⟨Nat.le_of_ble_eq_true rfl, Nat.le_of_ble_eq_true rfl⟩ ?_
  refine w_mostM1 ⟨_, rfl, ?_⟩
  refine x_if_ne (tgt := 15) (pc' := 13) rfl rfl rfl (fun c10 => absurd ((by decide)) c10) (fun _ => ?_)
  refine x_iload_n (pc' := 14) rfl rfl rfl ?_
  exact x_ireturn rfl rfl rfl (Nat.le_of_ble_eq_true rfl) (Nat.le_of_ble_eq_true rfl) (h)
theorem w_stuckAt0 (hS : x_Sys z f S) (h2 : S.1 2 = 0) (h : post (some (.int 0)) f) : Y E 3 mX2_stuckAt [.ref 17] z f 0 0 post := by
  refine Y.intro gX2_stuckAt (lv := [(0, .ref 17)]) rfl (Nat.le_of_ble_eq_true rfl) ?_
  refine x_iconst (pc' := 1) rfl rfl iconst_0 ?_
  refine x_istore_n (pc' := 2) (lv' := [(1, _), (0, _)]) rfl rfl (Nat.le_of_ble_eq_true rfl) rfl ?_
  refine x_iconst (pc' := 3) rfl rfl iconst_0 ?_
  refine x_istore_n (pc' := 4) (lv' := [(2, _), (1, _), (0, _)]) rfl rfl (Nat.le_of_ble_eq_true rfl) rfl ?_
  refine x_iload_n (pc' := 5) rfl rfl rfl ?_
  refine x_if_eq (tgt := 22) (pc' := 8) rfl rfl rfl (fun _ => ?_) (fun c5 => absurd ((by decide)) c5)
  refine x_aload_n (pc' := 23) rfl rfl rfl ?_
  refine x_iload_n (pc' := 24) rfl rfl rfl ?_
  refine x_cV1i (d := 2) (pc' := 27) rfl rfl sX2_31 gX2_stuckIn (hS.lt) ⟨Nat.le_of_ble_eq_true rfl, Nat.le_of_ble_eq_true rfl⟩ (Nat.le_of_ble_eq_true rfl) ⟨Nat.le_of_ble_eq_true rfl, Nat.le_of_ble_eq_true rfl⟩ ?_
  refine w_stuckIn0 hS h2 ⟨_, rfl, ?_⟩
  refine x_istore_n (pc' := 28) (lv' := [(3, _), (2, _), (1, _), (0, _)]) rfl rfl (Nat.le_of_ble_eq_true rfl) rfl ?_
  refine x_iload_n (pc' := 29) rfl rfl rfl ?_
  refine x_bipush (pc' := 31) rfl rfl bipush_m9 ?_
  refine x_icmp_eq (tgt := 36) (pc' := 34) rfl rfl rfl (fun c31 => absurd c31 ((by decide))) (fun _ => ?_)
  refine x_iload_n (pc' := 35) rfl rfl rfl ?_
  exact x_ireturn rfl rfl rfl (Nat.le_of_ble_eq_true rfl) (Nat.le_of_ble_eq_true rfl) (h)
theorem w_playOn0 {t : Nat} (hS : x_Sys z f S) (h2 : S.1 2 = 0) (h : post (some (.int (-1000))) f) : Y E 4 mX2_playOn [.ref 17, .ref t] z f 0 0 post := by
  refine Y.intro gX2_playOn (lv := [(0, .ref 17), (1, .ref t)]) rfl (Nat.le_of_ble_eq_true rfl) ?_
  refine x_aload_n (pc' := 1) rfl rfl rfl ?_
  refine x_cV0i (d := 3) (pc' := 4) rfl rfl sX2_19 gX2_stuckAt (hS.lt) ⟨Nat.le_of_ble_eq_true rfl, Nat.le_of_ble_eq_true rfl⟩ (Nat.le_of_ble_eq_true rfl) ⟨Nat.le_of_ble_eq_true rfl, Nat.le_of_ble_eq_true rfl⟩ ?_
  refine w_stuckAt0 hS h2 ⟨_, rfl, ?_⟩
  refine x_istore_n (pc' := 5) (lv' := [(2, _), (0, _), (1, _)]) rfl rfl (Nat.le_of_ble_eq_true rfl) rfl ?_
  refine x_iload_n (pc' := 6) rfl rfl rfl ?_
  refine x_bipush (pc' := 8) rfl rfl bipush_m9 ?_
  refine x_icmp_eq (tgt := 17) (pc' := 11) rfl rfl rfl (fun c8 => absurd c8 ((by decide))) (fun _ => ?_)
  refine x_sipush (pc' := 14) rfl rfl sipush_m1000 ?_
  refine x_iload_n (pc' := 15) rfl rfl rfl ?_
  refine x_isub (pc' := 16) rfl rfl ?_
  exact x_ireturn rfl rfl rfl (Nat.le_of_ble_eq_true rfl) (Nat.le_of_ble_eq_true rfl) (h)
theorem w_gain0 {n lo hi : Int32} (hS : x_Sys z f S) (hn : 0 < n) (h0 : (S.2.1 6).2.2.2 0 ≤ 0) (h : ∀ f' : x_H, x_Sys z f' (S.1, S.2.1, x_ua S.2.2.1 1 (upd (S.2.2.1 1) 0 (-9)), S.2.2.2) → x_fr (fun q => 59 ≤ q) f f' → post (some (.int 0)) f') : Y E 2 mX0_gainOf [.ref 20, .ref 21, .int 0, .int n, .int lo, .int hi] z f 0 0 post := by
  refine Y.intro gX0_gainOf (lv := [(0, .ref 20), (1, .ref 21), (2, .int 0), (3, .int n), (4, .int lo), (5, .int hi)]) rfl (Nat.le_of_ble_eq_true rfl) ?_
  refine x_iload_n (pc' := 1) rfl rfl rfl ?_
  refine x_if_le (tgt := 22) (pc' := 4) rfl rfl rfl (fun c1 => absurd c1 (Int32.not_le.mpr hn)) (fun _ => ?_)
  refine x_iload_n (pc' := 5) rfl rfl rfl ?_
  refine x_if_lt (tgt := 22) (pc' := 8) rfl rfl rfl (fun c5 => absurd c5 ((by decide))) (fun _ => ?_)
  refine x_iload_n (pc' := 9) rfl rfl rfl ?_
  refine x_iconst (pc' := 10) rfl rfl iconst_1 ?_
  refine x_iadd (pc' := 11) rfl rfl ?_
  refine x_aload_n (pc' := 12) rfl rfl rfl ?_
  refine x_alen (pc' := 13) rfl rfl (hS.li) ?_
  refine x_icmp_ge (tgt := 22) (pc' := 16) rfl rfl rfl (fun c13 => absurd c13 ((by decide))) (fun _ => ?_)
  refine x_iload_n (pc' := 17) rfl rfl rfl ?_
  refine x_aload_n (pc' := 18) rfl rfl rfl ?_
  refine x_alen (pc' := 19) rfl rfl (hS.2.2.1 1 (by decide)) ?_
  refine x_icmp_lt (tgt := 24) (pc' := 22) rfl rfl rfl (fun _ => ?_) (fun c19 => absurd ((show (0 : Int32) < Int32.ofNat 5 from by decide)) c19)
  refine x_aload_n (pc' := 25) rfl rfl rfl ?_
  refine x_iload_n (pc' := 26) rfl rfl rfl ?_
  refine x_aaload (pc' := 27) rfl rfl (hS.li) (vp_in_nI (n := 0) (N := 5) (by decide) (by decide)) ((rfl : x_line (Int32.toNatClampNeg 0) = some 22)) ?_
  refine x_astore (pc' := 29) (lv' := [(6, _), (0, _), (1, _), (2, _), (3, _), (4, _), (5, _)]) rfl rfl (Nat.le_of_ble_eq_true rfl) rfl ?_
  refine x_aload_n (pc' := 30) rfl rfl rfl ?_
  refine x_iload_n (pc' := 31) rfl rfl rfl ?_
  refine x_iconst (pc' := 32) rfl rfl iconst_1 ?_
  refine x_iadd (pc' := 33) rfl rfl ?_
  refine x_aaload (pc' := 34) rfl rfl (hS.li) ((vp_in_nI (n := 1) (N := 5) (by decide) (by decide))) ((rfl : x_line (Int32.toNatClampNeg (0 + 1)) = some 26)) ?_
  refine x_astore (pc' := 36) (lv' := [(7, _), (6, _), (0, _), (1, _), (2, _), (3, _), (4, _), (5, _)]) rfl rfl (Nat.le_of_ble_eq_true rfl) rfl ?_
  refine x_iload (pc' := 38) rfl rfl rfl ?_
  refine x_iload_n (pc' := 39) rfl rfl rfl ?_
  refine x_iconst (pc' := 40) rfl rfl iconst_1 ?_
  refine x_iadd (pc' := 41) rfl rfl ?_
  refine x_iconst (pc' := 42) rfl rfl iconst_2 ?_
  refine x_idiv (pc' := 43) rfl rfl (by decide) ?_
  refine x_mmin (pc' := 46) rfl rfl sX0_34 ⟨Nat.le_of_ble_eq_true rfl, Nat.le_of_ble_eq_true rfl⟩ (Nat.le_of_ble_eq_true rfl) (Nat.le_of_ble_eq_true rfl) (Nat.le_of_ble_eq_true rfl) ?_
  refine x_istore (pc' := 48) (lv' := [(8, _), (7, _), (6, _), (0, _), (1, _), (2, _), (3, _), (4, _), (5, _)]) rfl rfl (Nat.le_of_ble_eq_true rfl) rfl ?_
  refine x_iload (pc' := 50) rfl rfl rfl ?_
  refine x_iconst (pc' := 51) rfl rfl iconst_1 ?_
  refine x_isub (pc' := 52) rfl rfl ?_
  refine x_istore (pc' := 54) (lv' := [(9, _), (8, _), (7, _), (6, _), (0, _), (1, _), (2, _), (3, _), (4, _), (5, _)]) rfl rfl (Nat.le_of_ble_eq_true rfl) rfl ?_
  refine x_aload_n (pc' := 55) rfl rfl rfl ?_
  refine x_iload_n (pc' := 56) rfl rfl rfl ?_
  refine x_bipush (pc' := 58) rfl rfl bipush_m9 ?_
  refine x_iastore (pc' := 59) rfl rfl (hS.2.2.1 1 (by decide)) (vp_in_nI (n := 0) (N := 5) (by decide) (by decide)) (fun f1 e1 => ?_)
  have hS1 := hS.arr 1 (by decide) e1
  have hF1 := (x_fr.rf (P := fun q => 59 ≤ q)).up e1 (by decide)
  refine x_iconst (pc' := 60) rfl rfl iconst_0 ?_
  refine x_istore (pc' := 62) (lv' := [(10, _), (9, _), (8, _), (7, _), (6, _), (0, _), (1, _), (2, _), (3, _), (4, _), (5, _)]) rfl rfl (Nat.le_of_ble_eq_true rfl) rfl ?_
  refine x_iload (pc' := 64) rfl rfl rfl ?_
  refine x_aload (pc' := 66) rfl rfl rfl ?_
  refine x_get (pc' := 69) rfl rfl rfl ((hS1.2.1 6 (by decide)).1) rfl ?_
  refine x_icmp_ge (tgt := 174) (pc' := 72) rfl rfl rfl (fun _ => ?_) (fun c69 => absurd (h0) c69)
  refine x_aload_n (pc' := 175) rfl rfl rfl ?_
  refine x_iload_n (pc' := 176) rfl rfl rfl ?_
  refine x_iaload (pc' := 177) rfl rfl (hS1.2.2.1 1 (by decide)) (vp_in_nI (n := 0) (N := 5) (by decide) (by decide)) ?_
  refine x_bipush (pc' := 179) rfl rfl bipush_m9 ?_
  refine x_icmp_ne (tgt := 186) (pc' := 182) rfl rfl rfl (fun c179 => absurd (rfl) c179) (fun _ => ?_)
  refine x_iconst (pc' := 183) rfl rfl iconst_0 ?_
  refine x_goto (tgt := 188) rfl rfl ?_
  exact x_ireturn rfl rfl rfl (Nat.le_of_ble_eq_true rfl) (Nat.le_of_ble_eq_true rfl) (h _ hS1 hF1)
theorem w_gainFor0 {n : Int32} (j : Nat) (hj : j < 11) (hj6 : j ≠ 6) (hS : x_Sys z f S) (hn : 0 < n) (h0 : (S.2.1 j).2.2.2 0 ≤ 0) (h : ∀ (f' : x_H) (S' : x_S), x_Sys z f' S' → S'.1 = S.1 → (∀ i, i ≠ 6 → S'.2.1 i = S.2.1 i) → S'.2.2.1 1 0 = -9 → (∀ i, i ≠ 1 → S'.2.2.1 i = S.2.2.1 i) → x_fr (fun q => 59 ≤ q) f f' → post (some (.int 0)) f') : Y E 3 mX0_gainFor [.ref 19, .ref (x_tp j), .int n] z f 0 0 post := by
  refine Y.intro gX0_gainFor (lv := [(0, .ref 19), (1, .ref (x_tp j)), (2, .int n)]) rfl (Nat.le_of_ble_eq_true rfl) ?_
  refine x_aload_n (pc' := 1) rfl rfl rfl ?_
  refine x_get (pc' := 4) rfl rfl rfl (hS.ah) rfl ?_
  refine x_iconst (pc' := 5) rfl rfl iconst_0 ?_
  refine x_aaload (pc' := 6) rfl rfl (hS.li) (vp_in_nI (n := 0) (N := 5) (by decide) (by decide)) ((rfl : x_line (Int32.toNatClampNeg 0) = some 22)) ?_
  refine x_aload_n (pc' := 7) rfl rfl rfl ?_
  refine x_cV1v (d := 1) (pc' := 10) rfl rfl sX0_22 gX3_copyFrom ((hS.2.1 6 (by decide)).1) ⟨Nat.le_of_ble_eq_true rfl, Nat.le_of_ble_eq_true rfl⟩ (Nat.le_of_ble_eq_true rfl) ⟨Nat.le_of_ble_eq_true rfl, Nat.le_of_ble_eq_true rfl⟩ ?_
  refine w_copyFrom (hS.2.1 6 (by decide)) (hS.2.1 j hj) ((x_pos3 j hj).1 6 (by decide) (Ne.symm hj6)) (fun f1 hT1 hF1 => ⟨rfl, ?_⟩)
  have hS1 := hS.tab 6 (by decide) hT1 hF1
  refine x_aload_n (pc' := 11) rfl rfl rfl ?_
  refine x_get (pc' := 14) rfl rfl rfl (hS1.ah) rfl ?_
  refine x_aload_n (pc' := 15) rfl rfl rfl ?_
  refine x_get (pc' := 18) rfl rfl rfl (hS1.ah) rfl ?_
  refine x_iconst (pc' := 19) rfl rfl iconst_0 ?_
  refine x_iload_n (pc' := 20) rfl rfl rfl ?_
  refine x_iload_n (pc' := 21) rfl rfl rfl ?_
  refine x_ineg (pc' := 22) rfl rfl ?_
  refine x_iload_n (pc' := 23) rfl rfl rfl ?_
  refine x_cS6i (d := 2) (pc' := 26) rfl rfl sX0_26 gX0_gainOf ⟨Nat.le_of_ble_eq_true rfl, Nat.le_of_ble_eq_true rfl⟩ (Nat.le_of_ble_eq_true rfl) ⟨Nat.le_of_ble_eq_true rfl, Nat.le_of_ble_eq_true rfl⟩ ?_
  refine w_gain0 hS1 hn h0 (fun f2 hS2 hF2 => ⟨_, rfl, ?_⟩)
  exact x_ireturn rfl rfl rfl (Nat.le_of_ble_eq_true rfl) (Nat.le_of_ble_eq_true rfl) (h _ _ hS2 rfl (fun i hi => if_neg hi) rfl (fun i hi => if_neg hi) ((hF1.mono (fun q hq => x_tpq 6 (by decide) hq)).trans hF2))
theorem w_bowlFor0 {n : Int32} (j : Nat) (hj : j < 11) (hj6 : j ≠ 6) (hS : x_Sys z f S) (hn : 0 < n) (h0 : (S.2.1 j).2.2.2 0 ≤ 0) (h : ∀ f' : x_H, x_fr (fun q => 59 ≤ q) f f' → post (some (.int (-9))) f') : Y E 4 mX0_bowlFor [.ref 19, .ref (x_tp j), .int n] z f 0 0 post := by
  refine Y.intro gX0_bowlFor (lv := [(0, .ref 19), (1, .ref (x_tp j)), (2, .int n)]) rfl (Nat.le_of_ble_eq_true rfl) ?_
  refine x_aload_n (pc' := 1) rfl rfl rfl ?_
  refine x_aload_n (pc' := 2) rfl rfl rfl ?_
  refine x_iload_n (pc' := 3) rfl rfl rfl ?_
  refine x_cV2i (d := 3) (pc' := 6) rfl rfl sX0_30 gX0_gainFor (hS.ah) ⟨Nat.le_of_ble_eq_true rfl, Nat.le_of_ble_eq_true rfl⟩ (Nat.le_of_ble_eq_true rfl) ⟨Nat.le_of_ble_eq_true rfl, Nat.le_of_ble_eq_true rfl⟩ ?_
  refine w_gainFor0 j hj hj6 hS hn h0 (fun f1 S1 hS1 g1 g2 g3 g4 hF1 => ⟨_, rfl, ?_⟩)
  refine x_pop (pc' := 7) rfl rfl rfl ?_
  refine x_aload_n (pc' := 8) rfl rfl rfl ?_
  refine x_get (pc' := 11) rfl rfl rfl (hS1.ah) rfl ?_
  refine x_iconst (pc' := 12) rfl rfl iconst_0 ?_
  refine x_iaload (pc' := 13) rfl rfl (hS1.2.2.1 1 (by decide)) (vp_in_nI (n := 0) (N := 5) (by decide) (by decide)) ?_
  refine x_eqi (show S1.2.2.1 1 (Int32.toNatClampNeg 0) = -9 from g3) ?_
  exact x_ireturn rfl rfl rfl (Nat.le_of_ble_eq_true rfl) (Nat.le_of_ble_eq_true rfl) (h _ hF1)
theorem w_fillL {r n : Nat} {v : Int64} (hn : n < 2 ^ 31) (h : ∀ f' : x_H, x_a z f' r (n, .inr (.inl (fun _ => v))) → x_fr (fun q => q ≠ r) f f' → post none f') : ∀ (k i : Nat) (g : x_H) (a : Nat → Int64), i + k = n → x_a z g r (n, .inr (.inl a)) → (∀ j, j < i → a j = v) → x_fr (fun q => q ≠ r) f g → X E (x_rm 1 0 0) mJ7_fill_d0a16 (x_QM E z 0 0 post) 6 [(3, .int (nI i)), (4, .int (nI n)), (0, .ref r), (1, .long v)] [] z g 0 0 := by
  intro k
  induction k with
  | zero =>
    intro i g a hi ha hv hF
    have hi2 : i = n := by omega
    subst hi2
    refine x_iload_n (pc' := 7) rfl rfl rfl ?_
    refine x_iload (pc' := 9) rfl rfl rfl ?_
    refine x_icmp_ge (tgt := 22) (pc' := 12) rfl rfl rfl (fun _ => ?_) (fun c9 => absurd (Int32.le_refl _) c9)
    refine x_eqL ha (g' := fun _ => v) hv (fun f1 e1 => ?_)
    exact x_return rfl rfl (Nat.le_refl _) (Nat.le_refl _) (h _ (x_a.s e1 ha.1) (hF.up e1 (fun q => q rfl)))
  | succ k ih =>
    intro i g a hi ha hv hF
    refine x_iload_n (pc' := 7) rfl rfl rfl ?_
    refine x_iload (pc' := 9) rfl rfl rfl ?_
    refine x_icmp_ge (tgt := 22) (pc' := 12) rfl rfl rfl (fun c9 => absurd c9 (Int32.not_le.mpr (nI_lt (by omega) hn))) (fun _ => ?_)
    refine x_aload_n (pc' := 13) rfl rfl rfl ?_
    refine x_iload_n (pc' := 14) rfl rfl rfl ?_
    refine x_lload_n (pc' := 15) rfl rfl rfl ?_
    refine x_lastore (pc' := 16) rfl rfl (ha) (vp_in_nI (by omega) hn) (fun f1 e1 => ?_)
    refine x_iinc (pc' := 19) (lv' := [(3, _), (4, _), (0, _), (1, _)]) rfl rfl (Nat.le_of_ble_eq_true rfl) rfl (nI_1 i) rfl ?_
    refine x_goto (tgt := 6) rfl rfl ?_
    refine ih (i + 1) _ _ (by omega) (x_a.s e1 ha.1) ?_ (hF.up e1 (fun q => q rfl))
    intro j hj
    rw [nI_clamp (by omega)]
    unfold vp_updL
    by_cases hji : j = i
    · rw [if_pos hji]
    · rw [if_neg hji]
      exact hv j (by omega)
theorem w_fill {r n : Nat} {v : Int64} {a : Nat → Int64} (hn : n < 2 ^ 31) (ha : x_a z f r (n, .inr (.inl a))) (h : ∀ f' : x_H, x_a z f' r (n, .inr (.inl (fun _ => v))) → x_fr (fun q => q ≠ r) f f' → post none f') : Y E 1 mJ7_fill_d0a16 [.ref r, .long v] z f 0 0 post := by
  refine Y.intro gJ7_fill_d0a16 (lv := [(0, .ref r), (1, .long v)]) rfl (Nat.le_of_ble_eq_true rfl) ?_
  refine x_iconst (pc' := 1) rfl rfl iconst_0 ?_
  refine x_istore_n (pc' := 2) (lv' := [(3, _), (0, _), (1, _)]) rfl rfl (Nat.le_of_ble_eq_true rfl) rfl ?_
  refine x_aload_n (pc' := 3) rfl rfl rfl ?_
  refine x_alen (pc' := 4) rfl rfl (ha) ?_
  refine x_istore (pc' := 6) (lv' := [(4, _), (3, _), (0, _), (1, _)]) rfl rfl (Nat.le_of_ble_eq_true rfl) rfl ?_
  refine x_lvp [1, 0, 2, 3] rfl ?_
  exact w_fillL hn h n 0 _ a (by omega) ha (fun j hj => absurd hj (Nat.not_lt_zero j)) x_fr.rf
theorem w_toLay0 {n : Nat} {t : Nat} {T : x_T} {r : Nat} (hn : n ≤ 40) (hS : x_Sys z f S) (hT : x_t z f t T) (ht : t + 4 ≤ 55) (h0 : T.2.2.2 0 ≤ 0) (h : ∀ f' : x_H, x_fr (fun q => 59 ≤ q) f f' → post (some (.long (if n = 0 then 1 else 0))) f') : Y E 2 mX4_toLay [.ref 54, .ref t, .ref r, .int (nI n)] z f 0 0 post := by
  refine Y.intro gX4_toLay (lv := [(0, .ref 54), (1, .ref t), (2, .ref r), (3, .int (nI n))]) rfl (Nat.le_of_ble_eq_true rfl) ?_
  refine x_iload_n (pc' := 1) rfl rfl rfl ?_
  refine x_if_lt (tgt := 10) (pc' := 4) rfl rfl rfl (fun c1 => absurd c1 (nI_pos (by omega))) (fun _ => ?_)
  refine x_iload_n (pc' := 5) rfl rfl rfl ?_
  refine x_bipush (pc' := 7) rfl rfl bipush_40 ?_
  refine x_icmp_le (tgt := 12) (pc' := 10) rfl rfl rfl (fun _ => ?_) (fun c7 => absurd ((nI_le (a := n) (b := 40) hn (by decide))) c7)
  refine x_aload_n (pc' := 13) rfl rfl rfl ?_
  refine x_get (pc' := 16) rfl rfl rfl (hS.wy) rfl ?_
  refine x_lconst (pc' := 17) rfl rfl lconst_0 ?_
  refine x_cS2v (d := 1) (pc' := 20) rfl rfl sX4_19 gJ7_fill_d0a16 ⟨Nat.le_of_ble_eq_true rfl, Nat.le_of_ble_eq_true rfl⟩ (Nat.le_of_ble_eq_true rfl) ⟨Nat.le_of_ble_eq_true rfl, Nat.le_of_ble_eq_true rfl⟩ ?_
  refine w_fill (by decide) (hS.2.2.2.1 1 (by decide)) (fun f1 ha1 hF1 => ⟨rfl, ?_⟩)
  refine x_aload_n (pc' := 21) rfl rfl rfl ?_
  refine x_get (pc' := 24) rfl rfl rfl (hS.wy.fr hF1 (by decide)) rfl ?_
  refine x_iconst (pc' := 25) rfl rfl iconst_0 ?_
  refine x_lconst (pc' := 26) rfl rfl lconst_1 ?_
  refine x_lastore (pc' := 27) rfl rfl (ha1) (vp_in_nI (n := 0) (N := 41) (by decide) (by decide)) (fun f1 e1 => ?_)
  refine x_iconst (pc' := 28) rfl rfl iconst_0 ?_
  refine x_istore (pc' := 30) (lv' := [(4, _), (0, _), (1, _), (2, _), (3, _)]) rfl rfl (Nat.le_of_ble_eq_true rfl) rfl ?_
  refine x_iload (pc' := 32) rfl rfl rfl ?_
  refine x_aload_n (pc' := 33) rfl rfl rfl ?_
  refine x_get (pc' := 36) rfl rfl rfl (((hT.fr hF1 (fun i hi => by show t + i ≠ 55; omega)).n e1 (Or.inr (by show t + 4 ≤ 55; omega))).1) rfl ?_
  refine x_icmp_ge (tgt := 123) (pc' := 39) rfl rfl rfl (fun _ => ?_) (fun c36 => absurd (h0) c36)
  refine x_aload_n (pc' := 124) rfl rfl rfl ?_
  refine x_get (pc' := 127) rfl rfl rfl ((hS.wy.fr hF1 (by decide)).n e1 (by decide)) rfl ?_
  refine x_iload_n (pc' := 128) rfl rfl rfl ?_
  refine x_laload (pc' := 129) rfl rfl (x_a.s e1 ha1.1) (vp_in_nI (n := n) (N := 41) (by omega) (by decide)) ?_
  refine x_eql (show vp_updL (fun _ => (0 : Int64)) (Int32.toNatClampNeg 0) 1 (nI n).toNatClampNeg = (if n = 0 then 1 else 0) from by rw [nI_clamp (by omega)]; rfl) ?_
  exact x_lreturn rfl rfl (Nat.le_of_ble_eq_true rfl) (Nat.le_of_ble_eq_true rfl) (h _ ((hF1.mono (fun q hq => by have : 59 ≤ q := hq; show q ≠ 55; omega)).up e1 (by decide)))
theorem w_ask0 {n : Int32} (hS : x_Sys z f S) (h0 : (S.2.1 0).2.2.2 0 ≤ 0) (h : ∀ f' : x_H, x_fr (fun q => 59 ≤ q) f f' → post (some (.int (-9))) f') : Y E 3 mX4_bowlToAsk [.ref 54, .ref 1, .ref 57, .int n] z f 0 0 post := by
  refine Y.intro gX4_bowlToAsk (lv := [(0, .ref 54), (1, .ref 1), (2, .ref 57), (3, .int n)]) rfl (Nat.le_of_ble_eq_true rfl) ?_
  refine x_bipush (pc' := 2) rfl rfl bipush_m9 ?_
  refine x_istore (pc' := 4) (lv' := [(4, _), (0, _), (1, _), (2, _), (3, _)]) rfl rfl (Nat.le_of_ble_eq_true rfl) rfl ?_
  refine x_ldc2 (pc' := 7) rfl rfl rfl ?_
  refine x_lstore (pc' := 9) (lv' := [(5, _), (4, _), (0, _), (1, _), (2, _), (3, _)]) rfl rfl (Nat.le_of_ble_eq_true rfl) rfl ?_
  refine x_aload_n (pc' := 10) rfl rfl rfl ?_
  refine x_iconst (pc' := 11) rfl rfl iconst_0 ?_
  refine x_aload_n (pc' := 12) rfl rfl rfl ?_
  refine x_get (pc' := 15) rfl rfl rfl (hS.wy) rfl ?_
  refine x_iconst (pc' := 16) rfl rfl iconst_0 ?_
  refine x_aload_n (pc' := 17) rfl rfl rfl ?_
  refine x_alen (pc' := 18) rfl rfl (hS.2.2.1 5 (by decide)) ?_
  refine x_bipush (pc' := 20) rfl rfl bipush_12 ?_
  refine x_mmin (pc' := 23) rfl rfl sX4_35 ⟨Nat.le_of_ble_eq_true rfl, Nat.le_of_ble_eq_true rfl⟩ (Nat.le_of_ble_eq_true rfl) (Nat.le_of_ble_eq_true rfl) (Nat.le_of_ble_eq_true rfl) ?_
  refine x_eqi (show (if (12 : Int32) < Int32.ofNat 12 then (12 : Int32) else Int32.ofNat 12) = 12 from by decide) ?_
  refine x_copyW (pc' := 26) rfl rfl sX4_50 (hS.2.2.1 5 (by decide)) (hS.2.2.1 4 (by decide)) (by decide) (by decide) ⟨Nat.le_of_ble_eq_true rfl, Nat.le_of_ble_eq_true rfl⟩ (Nat.le_of_ble_eq_true rfl) (fun f1 e1 => ?_)
  have hS1 := hS.arr 4 (by decide) e1
  refine x_iconst (pc' := 27) rfl rfl iconst_0 ?_
  refine x_istore (pc' := 29) (lv' := [(7, _), (5, _), (4, _), (0, _), (1, _), (2, _), (3, _)]) rfl rfl (Nat.le_of_ble_eq_true rfl) rfl ?_
  refine x_iload (pc' := 31) rfl rfl rfl ?_
  refine x_aload_n (pc' := 32) rfl rfl rfl ?_
  refine x_get (pc' := 35) rfl rfl rfl ((hS1.2.1 0 (by decide)).1) rfl ?_
  refine x_icmp_ge (tgt := 131) (pc' := 38) rfl rfl rfl (fun _ => ?_) (fun c35 => absurd (h0) c35)
  refine x_iload (pc' := 133) rfl rfl rfl ?_
  exact x_ireturn rfl rfl rfl (Nat.le_of_ble_eq_true rfl) (Nat.le_of_ble_eq_true rfl) (h _ (x_fr.rf.up e1 (by decide)))
end FRESH
end
