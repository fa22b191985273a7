/-! How the system's and the reference's cells change. -/
def x_ua (A : Nat → Nat → Int32) (j : Nat) (g : Nat → Int32) : Nat → Nat → Int32 := fun i => if i = j then g else A i
def x_ul (A : Nat → Nat → Int64) (j : Nat) (g : Nat → Int64) : Nat → Nat → Int64 := fun i => if i = j then g else A i
def x_ut (A : Nat → x_T) (j : Nat) (g : x_T) : Nat → x_T := fun i => if i = j then g else A i
theorem x_pos1 : ∀ j, j < 7 → (∀ i, i < 11 → x_ap j < x_tp i ∨ x_tp i + 4 ≤ x_ap j) ∧ (∀ i, i < 7 → i ≠ j → x_ap i ≠ x_ap j) ∧ (∀ i, i < 2 → x_lp i ≠ x_ap j) ∧ 0 ≠ x_ap j ∧ 17 ≠ x_ap j ∧ 19 ≠ x_ap j ∧ 20 ≠ x_ap j ∧ 42 ≠ x_ap j ∧ 54 ≠ x_ap j := by decide +kernel
theorem x_pos2 : ∀ j, j < 2 → (∀ i, i < 11 → x_lp j < x_tp i ∨ x_tp i + 4 ≤ x_lp j) ∧ (∀ i, i < 7 → x_ap i ≠ x_lp j) ∧ (∀ i, i < 2 → i ≠ j → x_lp i ≠ x_lp j) ∧ 0 ≠ x_lp j ∧ 17 ≠ x_lp j ∧ 19 ≠ x_lp j ∧ 20 ≠ x_lp j ∧ 42 ≠ x_lp j ∧ 54 ≠ x_lp j := by decide +kernel
theorem x_pos3 : ∀ j, j < 11 → (∀ i, i < 11 → i ≠ j → x_tp i + 4 ≤ x_tp j ∨ x_tp j + 4 ≤ x_tp i) ∧ (∀ i, i < 7 → x_ot (x_tp j) (x_ap i)) ∧ (∀ i, i < 2 → x_ot (x_tp j) (x_lp i)) ∧ x_ot (x_tp j) 0 ∧ x_ot (x_tp j) 17 ∧ x_ot (x_tp j) 19 ∧ x_ot (x_tp j) 20 ∧ x_ot (x_tp j) 42 ∧ x_ot (x_tp j) 54 := by decide +kernel
theorem x_pos4 : ∀ k, (k = 0 ∨ k = 17 ∨ k = 42) → (∀ i, i < 11 → k < x_tp i ∨ x_tp i + 4 ≤ k) ∧ (∀ i, i < 7 → x_ap i ≠ k) ∧ (∀ i, i < 2 → x_lp i ≠ k) := by
  intro k hk
  rcases hk with rfl | rfl | rfl <;> decide +kernel
theorem x_pos5 : (∀ i, i < 11 → x_tp i + 4 ≤ 59) ∧ (∀ i, i < 7 → x_ap i < 59) ∧ (∀ i, i < 2 → x_lp i < 59) := by decide +kernel
theorem x_pos6 : (∀ j, j < 11 → 59 < x_mp j ∧ (∀ i, i < 11 → i ≠ j → x_mp i ≠ x_mp j) ∧ (∀ i, i < 2 → 69 + i ≠ x_mp j)) ∧ (∀ j, j < 2 → (∀ i, i < 11 → x_mp i ≠ 69 + j) ∧ (∀ i, i < 2 → i ≠ j → 69 + i ≠ 69 + j)) := by decide +kernel
theorem x_mFs0 (n : Nat → Int32) (v : Int32) : (x_mF n).set 0 (.int v) = x_mF (upd n 0 v) := rfl
theorem x_mFs3 (n : Nat → Int32) (v : Int32) : (x_mF n).set 3 (.int v) = x_mF (upd n 3 v) := rfl
theorem x_mFs4 (n : Nat → Int32) (v : Int32) : (x_mF n).set 4 (.int v) = x_mF (upd n 4 v) := rfl
theorem x_mFs5 (n : Nat → Int32) (v : Int32) : (x_mF n).set 5 (.int v) = x_mF (upd n 5 v) := rfl
theorem x_mFs7 (n : Nat → Int32) (v : Int32) : (x_mF n).set 7 (.int v) = x_mF (upd n 7 v) := rfl
theorem x_mFs8 (n : Nat → Int32) (v : Int32) : (x_mF n).set 8 (.int v) = x_mF (upd n 8 v) := rfl
theorem x_mFs11 (n : Nat → Int32) (v : Int32) : (x_mF n).set 11 (.int v) = x_mF (upd n 11 v) := rfl
theorem x_mFs13 (n : Nat → Int32) (v : Int32) : (x_mF n).set 13 (.int v) = x_mF (upd n 13 v) := rfl
theorem x_mFs14 (n : Nat → Int32) (v : Int32) : (x_mF n).set 14 (.int v) = x_mF (upd n 14 v) := rfl
theorem x_mFs15 (n : Nat → Int32) (v : Int32) : (x_mF n).set 15 (.int v) = x_mF (upd n 15 v) := rfl
theorem x_mFs16 (n : Nat → Int32) (v : Int32) : (x_mF n).set 16 (.int v) = x_mF (upd n 16 v) := rfl
theorem x_mFs17 (n : Nat → Int32) (v : Int32) : (x_mF n).set 17 (.int v) = x_mF (upd n 17 v) := rfl
theorem x_mFs18 (n : Nat → Int32) (v : Int32) : (x_mF n).set 18 (.int v) = x_mF (upd n 18 v) := rfl
theorem x_mFs20 (n : Nat → Int32) (v : Int32) : (x_mF n).set 20 (.int v) = x_mF (upd n 20 v) := rfl
theorem x_mFs22 (n : Nat → Int32) (v : Int32) : (x_mF n).set 22 (.int v) = x_mF (upd n 22 v) := rfl
theorem x_mFs28 (n : Nat → Int32) (v : Int32) : (x_mF n).set 28 (.int v) = x_mF (upd n 28 v) := rfl
theorem x_mFs29 (n : Nat → Int32) (v : Int32) : (x_mF n).set 29 (.int v) = x_mF (upd n 29 v) := rfl
theorem x_mFs30 (n : Nat → Int32) (v : Int32) : (x_mF n).set 30 (.int v) = x_mF (upd n 30 v) := rfl
theorem x_mFs31 (n : Nat → Int32) (v : Int32) : (x_mF n).set 31 (.int v) = x_mF (upd n 31 v) := rfl
theorem x_tFs0 (t : Nat) (n : Nat → Int32) (v : Int32) : (x_tF t n).set 3 (.int v) = x_tF t (upd n 0 v) := rfl
theorem x_tFs1 (t : Nat) (n : Nat → Int32) (v : Int32) : (x_tF t n).set 4 (.int v) = x_tF t (upd n 1 v) := rfl
theorem x_tFs2 (t : Nat) (n : Nat → Int32) (v : Int32) : (x_tF t n).set 5 (.int v) = x_tF t (upd n 2 v) := rfl
theorem x_tFs3 (t : Nat) (n : Nat → Int32) (v : Int32) : (x_tF t n).set 6 (.int v) = x_tF t (upd n 3 v) := rfl
theorem x_tFs4 (t : Nat) (n : Nat → Int32) (v : Int32) : (x_tF t n).set 7 (.int v) = x_tF t (upd n 4 v) := rfl
theorem x_tFs5 (t : Nat) (n : Nat → Int32) (v : Int32) : (x_tF t n).set 8 (.int v) = x_tF t (upd n 5 v) := rfl
theorem x_tFs6 (t : Nat) (n : Nat → Int32) (v : Int32) : (x_tF t n).set 9 (.int v) = x_tF t (upd n 6 v) := rfl
theorem x_tFs7 (t : Nat) (n : Nat → Int32) (v : Int32) : (x_tF t n).set 10 (.int v) = x_tF t (upd n 7 v) := rfl
theorem x_tFs8 (t : Nat) (n : Nat → Int32) (v : Int32) : (x_tF t n).set 11 (.int v) = x_tF t (upd n 8 v) := rfl
theorem x_oFs0 (n : Nat → Int32) (v : Int32) : (x_oF n).set 2 (.int v) = x_oF (upd n 0 v) := rfl
theorem x_oFs1 (n : Nat → Int32) (v : Int32) : (x_oF n).set 10 (.int v) = x_oF (upd n 1 v) := rfl
theorem x_eFs3 (n : Nat → Int32) (v : Int32) : (x_eF n).set 5 (.int v) = x_eF (upd n 3 v) := rfl
theorem x_eFs4 (n : Nat → Int32) (v : Int32) : (x_eF n).set 6 (.int v) = x_eF (upd n 4 v) := rfl
theorem x_eFs5 (n : Nat → Int32) (v : Int32) : (x_eF n).set 7 (.int v) = x_eF (upd n 5 v) := rfl
section SYS
variable {z : Nat} {f f' : x_H} {S : x_S} {M : x_N}
theorem x_Sys.arr (h : x_Sys z f S) (j : Nat) {g : Nat → Int32} (hj : j < 7) (e : f' = x_up f (x_ap j) (.inl (x_an j, .inl g))) : x_Sys z f' (S.1, S.2.1, x_ua S.2.2.1 j g, S.2.2.2) := by
  obtain ⟨h1, h2, h3, h4, h5, h6, h7, h8, h9⟩ := h
  obtain ⟨p1, p2, p3, p4, p5, p6, p7, p8, p9⟩ := x_pos1 j hj
  refine ⟨h1.n e p4, fun i hi => (h2 i hi).n e (p1 i hi), fun i hi => ?_, fun i hi => (h4 i hi).n e (p3 i hi), h5.n e p5, h6.n e p6, h7.n e p7, h8.n e p8, h9.n e p9⟩
  by_cases hij : i = j
  · subst hij
    have h9 := x_a.s e (h3 i hi).1
    simp only [x_ua, if_pos]
    exact h9
  · simp only [x_ua, if_neg hij]
    exact (h3 i hi).n e (p2 i hi hij)
theorem x_Sys.lng (h : x_Sys z f S) (j : Nat) {g : Nat → Int64} (hj : j < 2) (e : f' = x_up f (x_lp j) (.inl (x_ln j, .inr (.inl g)))) : x_Sys z f' (S.1, S.2.1, S.2.2.1, x_ul S.2.2.2 j g) := by
  obtain ⟨h1, h2, h3, h4, h5, h6, h7, h8, h9⟩ := h
  obtain ⟨p1, p2, p3, p4, p5, p6, p7, p8, p9⟩ := x_pos2 j hj
  refine ⟨h1.n e p4, fun i hi => (h2 i hi).n e (p1 i hi), fun i hi => (h3 i hi).n e (p2 i hi), fun i hi => ?_, h5.n e p5, h6.n e p6, h7.n e p7, h8.n e p8, h9.n e p9⟩
  by_cases hij : i = j
  · subst hij
    have h9 := x_a.s e (h4 i hi).1
    simp only [x_ul, if_pos]
    exact h9
  · simp only [x_ul, if_neg hij]
    exact (h4 i hi).n e (p3 i hi hij)
theorem x_Sys.tab (h : x_Sys z f S) (j : Nat) {T : x_T} (hj : j < 11) (ht : x_t z f' (x_tp j) T) (hf : x_fr (x_ot (x_tp j)) f f') : x_Sys z f' (S.1, x_ut S.2.1 j T, S.2.2.1, S.2.2.2) := by
  obtain ⟨h1, h2, h3, h4, h5, h6, h7, h8, h9⟩ := h
  obtain ⟨p1, p2, p3, p4, p5, p6, p7, p8, p9⟩ := x_pos3 j hj
  refine ⟨h1.fr hf p4, fun i hi => ?_, fun i hi => (h3 i hi).fr hf (p2 i hi), fun i hi => (h4 i hi).fr hf (p3 i hi), h5.fr hf p5, h6.fr hf p6, h7.fr hf p7, h8.fr hf p8, h9.fr hf p9⟩
  by_cases hij : i = j
  · subst hij
    simp only [x_ut, if_pos]
    exact ht
  · simp only [x_ut, if_neg hij]
    refine (h2 i hi).fr hf (fun a ha => ?_)
    have := p1 i hi hij
    unfold x_ot
    omega
theorem x_Sys.num0 (h : x_Sys z f S) (n' : Nat → Int32) (e : f' = x_up f 0 (.inr (5, x_oF n'))) (h2 : ∀ i, 2 ≤ i → n' i = S.1 i) : x_Sys z f' (n', S.2.1, S.2.2.1, S.2.2.2) := by
  obtain ⟨h1, g2, h3, h4, h5, h6, h7, h8, h9⟩ := h
  obtain ⟨p1, p2, p3⟩ := x_pos4 0 (Or.inl rfl)
  refine ⟨x_o.s e h1.1, fun i hi => (g2 i hi).n e (p1 i hi), fun i hi => (h3 i hi).n e (p2 i hi), fun i hi => (h4 i hi).n e (p3 i hi), ?_, h6.n e (by decide), h7.n e (by decide), ?_, h9.n e (by decide)⟩
  · show x_o z f' 17 2 [.ref 18, .int (n' 2)]
    rw [show n' 2 = S.1 2 from h2 2 (by decide)]
    exact h5.n e (by decide)
  · have h9 : x_eF n' = x_eF S.1 := by
      unfold x_eF
      rw [h2 3 (by decide), h2 4 (by decide), h2 5 (by decide)]
    show x_o z f' 42 1 (x_eF n')
    rw [h9]
    exact h8.n e (by decide)
theorem x_Sys.num2 (h : x_Sys z f S) (v : Int32) (e : f' = x_up f 17 (.inr (2, [.ref 18, .int v]))) : x_Sys z f' (upd S.1 2 v, S.2.1, S.2.2.1, S.2.2.2) := by
  obtain ⟨h1, g2, h3, h4, h5, h6, h7, h8, h9⟩ := h
  obtain ⟨p1, p2, p3⟩ := x_pos4 17 (Or.inr (Or.inl rfl))
  exact ⟨h1.n e (by decide), fun i hi => (g2 i hi).n e (p1 i hi), fun i hi => (h3 i hi).n e (p2 i hi), fun i hi => (h4 i hi).n e (p3 i hi), x_o.s e h5.1, h6.n e (by decide), h7.n e (by decide), h8.n e (by decide), h9.n e (by decide)⟩
theorem x_Sys.fr (h : x_Sys z f S) (hf : x_fr (fun q => q < 59) f f') : x_Sys z f' S := by
  obtain ⟨h1, h2, h3, h4, h5, h6, h7, h8, h9⟩ := h
  obtain ⟨p1, p2, p3⟩ := x_pos5
  exact ⟨h1.fr hf (by decide), fun i hi => (h2 i hi).fr hf (fun a ha => by have := p1 i hi; show _ < _; omega), fun i hi => (h3 i hi).fr hf (p2 i hi), fun i hi => (h4 i hi).fr hf (p3 i hi), h5.fr hf (by decide), h6.fr hf (by decide), h7.fr hf (by decide), h8.fr hf (by decide), h9.fr hf (by decide)⟩
theorem x_Sys.zz {z' : Nat} (h : x_Sys z f S) (hz : z ≤ z') : x_Sys z' f S := by
  obtain ⟨h1, h2, h3, h4, h5, h6, h7, h8, h9⟩ := h
  exact ⟨h1.zz hz, fun i hi => (h2 i hi).zz hz, fun i hi => (h3 i hi).zz hz, fun i hi => (h4 i hi).zz hz, h5.zz hz, h6.zz hz, h7.zz hz, h8.zz hz, h9.zz hz⟩
theorem x_Mdl.num (h : x_Mdl z f M) (k : Nat) {v : Int32} (e : f' = x_up f 59 (.inr (6, (x_mF M.1).set k (.int v)))) (hk : (x_mF M.1).set k (.int v) = x_mF (upd M.1 k v)) : x_Mdl z f' (upd M.1 k v, M.2.1, M.2.2) := by
  rw [hk] at e
  have p := x_pos6.1
  exact ⟨x_o.s e h.1.1, fun i hi => (h.2.1 i hi).n e (by have := (p i hi).1; omega), fun i hi => (h.2.2 i hi).n e (by omega)⟩
theorem x_Mdl.arr (h : x_Mdl z f M) (j : Nat) {g : Nat → Int32} (hj : j < 11) (e : f' = x_up f (x_mp j) (.inl (x_mn j, .inl g))) : x_Mdl z f' (M.1, x_ua M.2.1 j g, M.2.2) := by
  obtain ⟨p1, p2, p3⟩ := x_pos6.1 j hj
  refine ⟨h.1.n e (by omega), fun i hi => ?_, fun i hi => (h.2.2 i hi).n e (p3 i hi)⟩
  by_cases hij : i = j
  · subst hij
    have h9 := x_a.s e (h.2.1 i hi).1
    simp only [x_ua, if_pos]
    exact h9
  · simp only [x_ua, if_neg hij]
    exact (h.2.1 i hi).n e (p2 i hi hij)
theorem x_Mdl.lng (h : x_Mdl z f M) (j : Nat) {g : Nat → Int64} (hj : j < 2) (e : f' = x_up f (69 + j) (.inl (41, .inr (.inl g)))) : x_Mdl z f' (M.1, M.2.1, x_ul M.2.2 j g) := by
  obtain ⟨p2, p3⟩ := x_pos6.2 j hj
  refine ⟨h.1.n e (by omega), fun i hi => (h.2.1 i hi).n e (p2 i hi), fun i hi => ?_⟩
  by_cases hij : i = j
  · subst hij
    have h9 := x_a.s e (h.2.2 i hi).1
    simp only [x_ul, if_pos]
    exact h9
  · simp only [x_ul, if_neg hij]
    exact (h.2.2 i hi).n e (p3 i hi hij)
theorem x_Mdl.fr (h : x_Mdl z f M) (hf : x_fr (fun q => 59 ≤ q) f f') : x_Mdl z f' M :=
  ⟨h.1.fr hf (Nat.le_refl _), fun i hi => (h.2.1 i hi).fr hf (Nat.le_of_lt (x_pos6.1 i hi).1), fun i hi => (h.2.2 i hi).fr hf (by show 59 ≤ _; omega)⟩
end SYS
