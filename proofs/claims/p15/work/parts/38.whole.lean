/-! All that calls change, on both sides. -/
/-- state and how many moves; the picture; letters; the row; refused -/
abbrev q_A : Type := (q_G × Nat) × Option (q_G × Nat) × (Nat × (Nat → Nat)) × (Nat × (Nat → Nat)) × (Nat → Int32)
abbrev a_g (A : q_A) : q_G := A.1.1
abbrev a_mv (A : q_A) : Nat := A.1.2
abbrev a_pi (A : q_A) : Option (q_G × Nat) := A.2.1
abbrev a_lc (A : q_A) : Nat := A.2.2.1.1
abbrev a_lf (A : q_A) : Nat → Nat := A.2.2.1.2
abbrev a_rc (A : q_A) : Nat := A.2.2.2.1.1
abbrev a_rf (A : q_A) : Nat → Nat := A.2.2.2.1.2
abbrev a_no (A : q_A) : Nat → Int32 := A.2.2.2.2
def c_pic (n : Int32) (T : x_T) (p : Option (q_G × Nat)) : Prop := match p with
  | none => n = 0
  | some (g, m) => n = 1 ∧ t_is T g ∧ T.2.2.2 4 = nI m
def c_is (S : x_S) (A : q_A) : Prop := t_is (S.2.1 0) (a_g A) ∧ (S.2.1 0).2.2.2 4 = nI (a_mv A) ∧ c_pic (S.1 0) (S.2.1 1) (a_pi A) ∧ S.1 2 = nI (a_lc A) ∧ S.2.2.1 0 = (fun i => nI (a_lf A i)) ∧ S.1 1 = nI (a_rc A) ∧ S.2.2.1 5 = (fun i => nI (a_rf A i)) ∧ S.2.2.1 6 = a_no A
def r_pic (M : x_N) (p : Option (q_G × Nat)) : Prop := match p with
  | none => M.1 28 = -1
  | some (g, m) => M.1 28 = nI (g_n g) ∧ (∀ j, j < 9 → M.2.1 9 j = nI (g_β g j)) ∧ M.2.1 9 9 = nI (g_π g 0) ∧ M.2.1 9 10 = nI (g_π g 1) ∧ M.2.1 9 11 = nI (g_t g) ∧ (∀ j, j < 9 → M.2.1 10 j = nI (g_κ g j)) ∧ M.1 29 = nI (g_f g) ∧ M.1 30 = nI (g_l g) ∧ M.1 31 = nI m
def r_is (M : x_N) (A : q_A) : Prop := m_is M (a_g A) ∧ M.1 8 = nI (a_mv A) ∧ M.1 18 = 0 ∧ r_pic M (a_pi A) ∧ M.1 11 = nI (a_lc A) ∧ M.2.1 4 = (fun i => nI (a_lf A i)) ∧ M.1 13 = nI (a_rc A) ∧ M.2.1 5 = (fun i => nI (a_rf A i)) ∧ M.2.1 3 = (fun i => a_no A (i + 1))
def a_ok (A : q_A) : Prop := g_ok 99 (a_g A) ∧ a_mv A ≤ 999 ∧ (∀ g m, a_pi A = some (g, m) → g_ok 99 g ∧ m ≤ 999) ∧ a_lc A ≤ 96 ∧ (∀ i, a_lf A i ≤ 255) ∧ a_rc A ≤ 12 ∧ (∀ i, a_rf A i ≤ 9)
/-- what the class has of scratch alone is new -/
def c_sc (S S' : x_S) : Prop := S'.2.1 0 = S.2.1 0 ∧ S'.2.1 1 = S.2.1 1 ∧ S'.1 0 = S.1 0 ∧ S'.1 1 = S.1 1 ∧ S'.1 2 = S.1 2 ∧ S'.2.2.1 0 = S.2.2.1 0 ∧ S'.2.2.1 5 = S.2.2.1 5 ∧ S'.2.2.1 6 = S.2.2.1 6
theorem c_sc.rf {S : x_S} : c_sc S S := ⟨rfl, rfl, rfl, rfl, rfl, rfl, rfl, rfl⟩
theorem c_sc.trans {S S1 S2 : x_S} (h : c_sc S S1) (h2 : c_sc S1 S2) : c_sc S S2 := by
  obtain ⟨a1, a2, a3, a4, a5, a6, a7, a8⟩ := h
  obtain ⟨b1, b2, b3, b4, b5, b6, b7, b8⟩ := h2
  exact ⟨b1.trans a1, b2.trans a2, b3.trans a3, b4.trans a4, b5.trans a5, b6.trans a6, b7.trans a7, b8.trans a8⟩
theorem c_is.sc {S S' : x_S} {A : q_A} (h : c_is S A) (e : c_sc S S') : c_is S' A := by
  obtain ⟨a1, a2, a3, a4, a5, a6, a7, a8⟩ := e
  unfold c_is
  rw [a1, a2, a3, a4, a5, a6, a7, a8]
  exact h
theorem c_sc.tab {S : x_S} {j : Nat} {T : x_T} (h0 : j ≠ 0) (h1 : j ≠ 1) : c_sc S (S.1, x_ut S.2.1 j T, S.2.2.1, S.2.2.2) := ⟨if_neg (Ne.symm h0), if_neg (Ne.symm h1), rfl, rfl, rfl, rfl, rfl, rfl⟩
def r_sc (M M' : x_N) : Prop := (∀ i, i = 8 ∨ i = 18 ∨ i = 11 ∨ i = 13 ∨ 28 ≤ i → M'.1 i = M.1 i) ∧ (∀ j, j = 3 ∨ j = 4 ∨ j = 5 ∨ j = 9 ∨ j = 10 → M'.2.1 j = M.2.1 j)
theorem r_sc.rf {M : x_N} : r_sc M M := ⟨fun _ _ => rfl, fun _ _ => rfl⟩
theorem r_sc.trans {M M1 M2 : x_N} (h : r_sc M M1) (h2 : r_sc M1 M2) : r_sc M M2 := ⟨fun i hi => (h2.1 i hi).trans (h.1 i hi), fun i hi => (h2.2 i hi).trans (h.2 i hi)⟩
theorem r_pic.eq {M M' : x_N} {p : Option (q_G × Nat)} (h : r_pic M p) (e1 : ∀ i, 28 ≤ i → M'.1 i = M.1 i) (e2 : M'.2.1 9 = M.2.1 9) (e3 : M'.2.1 10 = M.2.1 10) : r_pic M' p := by
  unfold r_pic at *
  rw [e2, e3, e1 28 (by decide), e1 29 (by decide), e1 30 (by decide), e1 31 (by decide)]
  exact h
theorem r_is.sc {M M' : x_N} {A : q_A} (h : r_is M A) (e : r_sc M M') (hm : m_is M' (a_g A)) : r_is M' A := by
  obtain ⟨h1, h2, h3, h4, h5, h6, h7, h8, h9⟩ := h
  obtain ⟨e1, e2⟩ := e
  exact ⟨hm, (e1 8 (by omega)).trans h2, (e1 18 (by omega)).trans h3, h4.eq (fun i hi => e1 i (by omega)) (e2 9 (by omega)) (e2 10 (by omega)), (e1 11 (by omega)).trans h5, (e2 4 (by omega)).trans h6, (e1 13 (by omega)).trans h7, (e2 5 (by omega)).trans h8, (e2 3 (by omega)).trans h9⟩
theorem m_kp.sc {M M' : x_N} (h : m_kp M M') : r_sc M M' := ⟨fun i hi => h.2.2 i (by omega) (by omega) (by omega) (by omega) (by omega), fun j hj => h.1 j (by omega) (by omega)⟩
theorem m_k1.sc {M M' : x_N} {l : Nat} (h : m_k1 M M' l) : r_sc M M' := ⟨fun i hi => by rw [h.1], fun j hj => h.2.1 j (by omega)⟩
theorem m_ly.sc {M M' : x_N} (h1 : ∀ i, i ≠ 7 → M'.1 i = M.1 i) (h2 : ∀ j, j ≠ 1 → j ≠ 2 → M'.2.1 j = M.2.1 j) : r_sc M M' := ⟨fun i hi => h1 i (by omega), fun j hj => h2 j (by omega) (by omega)⟩
def s_no (A : q_A) (k : Nat) : q_A := (A.1, A.2.1, A.2.2.1, A.2.2.2.1, x_rf A.2.2.2.2 k)
def s_g (A : q_A) (g : q_G) : q_A := ((g, A.1.2), A.2)
theorem s_no_ok {A : q_A} {k : Nat} (h : a_ok A) : a_ok (s_no A k) := h
theorem s_g_ok {A : q_A} {g : q_G} (h : a_ok A) (hg : g_ok 99 g) : a_ok (s_g A g) := ⟨hg, h.2⟩
/-- a bowl's number -/
abbrev q_in (n : Nat) (a : Int32) : Prop := ¬ a < 0 ∧ a.toNatClampNeg < n
theorem q_in_k {n : Nat} {a : Int32} (h : q_in n a) : ∃ k, k < n ∧ k < 2 ^ 31 ∧ a = nI k ∧ a.toNatClampNeg = k := by
  obtain ⟨k, hk, rfl⟩ := nI_of h.1
  have h2 := h.2
  rw [nI_clamp hk] at h2
  exact ⟨k, h2, hk, rfl, nI_clamp hk⟩
theorem q_in_nI {n k : Nat} (h : k < n) (hk : k < 2 ^ 31) : q_in n (nI k) := ⟨nI_pos hk, by rw [nI_clamp hk]; exact h⟩
theorem q_in_has {T : x_T} {g : q_G} {a : Int32} (h : t_is T g) (hn : g_n g ≤ 9) : t_has T a ↔ q_in (g_n g) a := by
  constructor
  · intro q
    obtain ⟨k, hk, rfl⟩ := t_is_nI h hn q
    exact q_in_nI hk (by omega)
  · intro q
    obtain ⟨k, hk, hk2, rfl, -⟩ := q_in_k q
    exact t_has_nI h.2.2.2.1 hn hk
theorem q_in_bowl {n : Nat} {a : Int32} (hn : n ≤ 9) : (¬ a < 0 ∧ ¬ nI n - 1 < a) ↔ q_in n a := by
  constructor
  · intro q
    obtain ⟨k, hk, rfl⟩ := nI_of q.1
    refine q_in_nI ?_ hk
    rcases Nat.lt_or_ge k n with h3 | h3
    · exact h3
    · exfalso
      apply q.2
      by_cases h4 : n = 0
      · rw [h4]
        exact Int32.lt_of_lt_of_le (by decide : nI 0 - 1 < 0) (nI_pos' hk)
      · rw [show nI n - 1 = nI (n - 1) from pk_sub (a := n) (b := 1) (by omega)]
        exact nI_lt (by omega) hk
  · intro q
    obtain ⟨k, hk, hk2, rfl, -⟩ := q_in_k q
    refine ⟨q.1, ?_⟩
    rw [show nI n - 1 = nI (n - 1) from pk_sub (a := n) (b := 1) (by omega)]
    exact nI_nlt (by omega) (by omega)
section REF
variable {E : x_E} {z : Nat} {f : x_H} {S : x_S} {M : x_N} {A : q_A} {post : Option Value → x_H → Prop}
/-- how a public method of the class ends -/
abbrev c_ends (z : Nat) (f : x_H) (post : Option Value → x_H → Prop) (s : q_A × Int32) : Prop := ∀ (f' : x_H) (S' : x_S), x_Sys z f' S' → c_is S' s.1 → x_fr (fun q => 59 ≤ q) f f' → post (some (.int s.2)) f'
abbrev r_ends (z : Nat) (f : x_H) (post : Option Value → x_H → Prop) (s : q_A × Int32) : Prop := ∀ (f' : x_H) (M' : x_N), x_Mdl z f' M' → r_is M' s.1 → x_fr (fun q => q < 59) f f' → post (some (.int s.2)) f'
/-- where only the state is told -/
abbrev c_any (z : Nat) (f : x_H) (post : Option Value → x_H → Prop) (s : q_A) : Prop := ∀ (f' : x_H) (S' : x_S) (r : Int32), x_Sys z f' S' → c_is S' s → x_fr (fun q => 59 ≤ q) f f' → post (some (.int r)) f'
abbrev r_any (z : Nat) (f : x_H) (post : Option Value → x_H → Prop) (s : q_A) : Prop := ∀ (f' : x_H) (M' : x_N) (r : Int32), x_Mdl z f' M' → r_is M' s → x_fr (fun q => q < 59) f f' → post (some (.int r)) f'
theorem c_refuse {n : Int32} {k : Nat} (hn : -n = nI k) (hk : k < 7) (hS : x_Sys z f S) (hA : c_is S A) (h : c_ends z f post (s_no A k, n)) : Y E 1 mX5_refuse [.ref 0, .int n] z f 0 0 post := by
  obtain ⟨a1, a2, a3, a4, a5, a6, a7, a8⟩ := hA
  refine w_refuse hn hk hS (fun f' hS' hF => h f' _ hS' ⟨a1, a2, a3, a4, a5, a6, a7, ?_⟩ hF)
  show x_rf (S.2.2.1 6) k = x_rf (a_no A) k
  rw [a8]
theorem c_refuseFar {n : Int32} {k : Nat} (hn : -n = nI k) (hk : k < 7) (hS : x_Sys z f S) (hA : c_is S A) (h : c_ends z f post (s_no A k, 1000000000 - n)) : Y E 2 mX5_refuseFar [.ref 0, .int n] z f 0 0 post := by
  obtain ⟨a1, a2, a3, a4, a5, a6, a7, a8⟩ := hA
  refine w_refuseFar hn hk hS (fun f' hS' hF => h f' _ hS' ⟨a1, a2, a3, a4, a5, a6, a7, ?_⟩ hF)
  show x_rf (S.2.2.1 6) k = x_rf (a_no A) k
  rw [a8]
theorem r_no {k : Nat} (h9 : M.2.1 3 = fun i => a_no A (i + 1)) : x_rf (M.2.1 3) k = fun i => x_rf (a_no A) (k + 1) (i + 1) := by
  rw [h9]
  funext i
  unfold x_rf upd
  by_cases d : i = k
  · rw [if_pos d, if_pos (by omega)]
  · rw [if_neg d, if_neg (by omega)]
theorem r_is.no {k : Nat} (h : r_is M A) : r_is (M.1, x_ua M.2.1 3 (x_rf (M.2.1 3) k), M.2.2) (s_no A (k + 1)) := by
  obtain ⟨h1, h2, h3, h4, h5, h6, h7, h8, h9⟩ := h
  exact ⟨h1, h2, h3, h4.eq (fun _ _ => rfl) rfl rfl, h5, h6, h7, h8, r_no h9⟩
theorem r_refuse {n : Int32} {k : Nat} (hn : -n - 1 = nI k) (hk : k < 6) (hM : x_Mdl z f M) (hA : r_is M A) (h : r_ends z f post (s_no A (k + 1), n)) : Y E 1 mX6_refuse [.ref 59, .int n] z f 0 0 post :=
  w_mRefuse hn hk hM (fun f' hM' hF => h f' _ hM' hA.no hF)
theorem r_told {n : Int32} {k : Nat} (hn : -n - 1 = nI k) (hk : k < 6) (hM : x_Mdl z f M) (hA : r_is M A) (h : r_ends z f post (s_no A (k + 1), 1000000000 - n)) : Y E 2 mX6_told [.ref 59, .int n] z f 0 0 post :=
  w_told hn hk hM (fun f' hM' hF => h f' _ hM' hA.no hF)
theorem r_bowl {v : Int32} (hM : x_Mdl z f M) (hA : r_is M A) (ho : a_ok A) (h1 : q_in (g_n (a_g A)) v → post (some (.int 1)) f) (h0 : ¬ q_in (g_n (a_g A)) v → post (some (.int 0)) f) : Y E 2 mX6_isBowl [.ref 59, .int v] z f 0 0 post := by
  have hn := ho.1.1
  refine w_isBowl hM (fun q => h1 ?_) (fun q => h0 (fun k => q ?_))
  · rw [hA.1.2.2.2.1] at q
    exact (q_in_bowl hn).mp q
  · rw [hA.1.2.2.2.1]
    exact (q_in_bowl hn).mpr k
theorem c_has {v : Int32} (hS : x_Sys z f S) (hA : c_is S A) (ho : a_ok A) (h1 : q_in (g_n (a_g A)) v → post (some (.int 1)) f) (h0 : ¬ q_in (g_n (a_g A)) v → post (some (.int 0)) f) : Y E 1 mX3_has [.ref 1, .int v] z f 0 0 post :=
  w_has (hS.2.1 0 (by decide)) (fun q => h1 ((q_in_has hA.1 ho.1.1).mp q)) (fun q => h0 (fun k => q ((q_in_has hA.1 ho.1.1).mpr k)))
end REF
-- what calls answer, and what they leave
def s_letter (A : q_A) (a : Int32) : q_A × Int32 := if a < 0 then (s_no A 4, -4) else if 255 < a ∨ a_lc A = 96 then (s_no A 6, -6) else ((A.1, A.2.1, (a_lc A + 1, q_up (a_lf A) (a_lc A) a.toNatClampNeg), A.2.2.2), nI (a_lc A + 1))
def s_row (A : q_A) (a : Int32) : q_A × Int32 := if a < 0 then (s_no A 4, -4) else if 9 < a ∨ a_rc A = 12 then (s_no A 6, -6) else ((A.1, A.2.1, A.2.2.1, (a_rc A + 1, q_up (a_rf A) (a_rc A) a.toNatClampNeg), A.2.2.2.2), nI (a_rc A + 1))
def s_put (A : q_A) (a b : Int32) : q_A × Int32 := if q_in (g_n (a_g A)) a then (if b < 0 then (s_no A 4, -4) else if 20 < b then (s_no A 6, -6) else (s_g A (g_κ (a_g A), q_up (g_β (a_g A)) a.toNatClampNeg b.toNatClampNeg, (a_g A).2.2), nI (g_β (a_g A) a.toNatClampNeg))) else (s_no A 1, -1)
def s_move (A : q_A) (a : Int32) : q_A × Int32 := if q_in (g_n (a_g A)) a then (if 2 ≤ g_n (a_g A) ∧ 0 < g_β (a_g A) a.toNatClampNeg then (if a_mv A = 999 then (s_no A 6, -6) else (((g_mv (a_g A) a.toNatClampNeg, a_mv A + 1), A.2), if q_tk1 (g_v (a_g A) a.toNatClampNeg).1 (g_π (a_g A) (g_t (a_g A))) (g_v (a_g A) a.toNatClampNeg).2.2.2 = true then 1 else 0)) else (s_no A 3, -3)) else (s_no A 1, -1)
def g_set (g : q_G) (a : Int32) (v : Nat) : q_G := if a = 0 then (g.1, g.2.1, g.2.2.1, g_n g, v, g_l g, g_t g) else if a = 1 then (g.1, g.2.1, g.2.2.1, g_n g, g_f g, v, g_t g) else (g.1, g.2.1, g.2.2.1, g_n g, g_f g, g_l g, v)
def s_set (A : q_A) (a b : Int32) : q_A × Int32 := if a < 0 ∨ 2 < a then (s_no A 2, -2) else if b < (if a = 0 then 1 else 0) then (s_no A 4, -4) else if (if a = 0 then 9 else 1) < b then (s_no A 6, -6) else (s_g A (g_set (a_g A) a b.toNatClampNeg), if a = 0 then nI (g_f (a_g A)) else if a = 1 then nI (g_l (a_g A)) else nI (g_t (a_g A)))
def s_bowl (A : q_A) (a b : Int32) : q_A × Int32 := if q_in (g_n (a_g A)) a then (if b = 0 then (A, nI (g_κ (a_g A) a.toNatClampNeg)) else if b = 1 then (A, nI (g_β (a_g A) a.toNatClampNeg)) else if b = 2 then (A, if g_κ (a_g A) a.toNatClampNeg = 2 then (-9) else nI (q_from (g_κ (a_g A) a.toNatClampNeg) (g_f (a_g A)))) else if b = 3 then (A, if q_tk (g_κ (a_g A)) (g_β (a_g A)) (g_f (a_g A)) a.toNatClampNeg then 1 else 0) else (s_no A 2, -2)) else (s_no A 1, -1)
def q_sum (β : Nat → Nat) : Nat → Nat
  | 0 => 0
  | n + 1 => q_sum β n + β n
def s_by (A : q_A) (a b : Int32) : q_A × Int32 := if q_in (g_n (a_g A)) a then (if b < 0 ∨ 4 < b then (s_no A 2, -2) else if 2 ≤ g_n (a_g A) ∧ 0 < g_β (a_g A) a.toNatClampNeg then (A, if b = 0 then nI (g_v (a_g A) a.toNatClampNeg).2.1 else if b = 1 then q_lI (g_v (a_g A) a.toNatClampNeg).2.2.2 else if b = 2 then nI (g_v (a_g A) a.toNatClampNeg).2.2.1 else if b = 3 then (if q_tk1 (g_v (a_g A) a.toNatClampNeg).1 (g_π (a_g A) (g_t (a_g A))) (g_v (a_g A) a.toNatClampNeg).2.2.2 = true then 1 else 0) else nI (q_sum (g_β (g_mv (a_g A) a.toNatClampNeg)) (g_n (a_g A)))) else (s_no A 3, -3)) else (s_no A 1, -1)
def s_behind (A : q_A) (a b : Int32) : q_A × Int32 := if q_in (g_n (a_g A)) a ∧ q_in (g_n (a_g A)) b then (if 2 ≤ g_n (a_g A) ∧ 0 < g_β (a_g A) a.toNatClampNeg then (A, nI (g_β (g_mv (a_g A) a.toNatClampNeg) b.toNatClampNeg)) else (s_no A 3, -3)) else (s_no A 1, -1)
def s_image (A : q_A) : q_A × Int32 := ((A.1, some A.1, A.2.2), nI (a_mv A))
def s_on (A : q_A) : q_A × Int32 := match a_pi A with
  | none => (s_no A 3, -3)
  | some p => ((p, A.2), nI p.2)
def s_count (A : q_A) (a : Int32) : q_A × Int32 := (A, if a = 0 then nI (g_n (a_g A)) else if a = 1 then nI (q_sum (g_β (a_g A)) (g_n (a_g A))) else if a = 2 then nI (g_π (a_g A) 0) else if a = 3 then nI (g_π (a_g A) 1) else if a = 4 then nI (g_t (a_g A)) else if a = 5 then nI (a_mv A) else if a = 6 then nI (g_f (a_g A)) else if a = 7 then nI (g_l (a_g A)) else if a = 8 then nI (a_rc A) else if a = 9 then nI (a_lc A) else if ¬ a < 11 ∧ ¬ 16 < a then a_no A (a.toNatClampNeg - 10) else (-9))
