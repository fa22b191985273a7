section
-- == 30.pure
/-! The game over Nat: a hand, the hands of a move, a move. -/
def q_up (f : Nat → Nat) (k v : Nat) : Nat → Nat := fun j => if j = k then v else f j
theorem q_up_s (f : Nat → Nat) (k v : Nat) : q_up f k v k = v := if_pos rfl
theorem q_up_n (f : Nat → Nat) {k j : Nat} (v : Nat) (h : j ≠ k) : q_up f k v j = f j := if_neg h
theorem q_up_I (f : Nat → Nat) (k v : Nat) : upd (fun i => nI (f i)) k (nI v) = fun i => nI (q_up f k v i) := by
  funext i
  unfold q_up upd
  split <;> rfl
theorem q_up_le {f : Nat → Nat} {k v B : Nat} (h : ∀ i, f i ≤ B) (hv : v ≤ B) : ∀ i, q_up f k v i ≤ B := by
  intro i
  unfold q_up
  split
  · exact hv
  · exact h i
def q_nx (n ln p : Nat) : Nat := if ln = 1 then (if p = 0 then n - 1 else p - 1) else (if n ≤ p + 1 then 0 else p + 1)
theorem q_nx_lt {n ln p : Nat} (hp : p < n) : q_nx n ln p < n := by
  unfold q_nx
  split <;> split <;> omega
abbrev q_tk (κ β : Nat → Nat) (fu i : Nat) : Prop := β i < 99 ∧ (κ i = 4 → β i < fu)
/-- beans, place, in hand, passed, sown, last -/
abbrev q_W : Type := (Nat → Nat) × Nat × Nat × Nat × Nat × Option Nat
def q_st (κ : Nat → Nat) (n fu ln : Nat) (w : q_W) : q_W :=
  if q_tk κ w.1 fu (q_nx n ln w.2.1) then (q_up w.1 (q_nx n ln w.2.1) (w.1 (q_nx n ln w.2.1) + 1), q_nx n ln w.2.1, w.2.2.1 - 1, 0, w.2.2.2.2.1 + 1, some (q_nx n ln w.2.1))
  else (w.1, q_nx n ln w.2.1, w.2.2.1, w.2.2.2.1 + 1, w.2.2.2.2.1, w.2.2.2.2.2)
def q_run (κ : Nat → Nat) (n fu ln : Nat) : Nat → q_W → q_W
  | 0, w => w
  | k + 1, w => if 0 < w.2.2.1 ∧ w.2.2.2.1 < n then q_run κ n fu ln k (q_st κ n fu ln w) else w
def q_ms (n : Nat) (w : q_W) : Nat := w.2.2.1 * n + (n - w.2.2.2.1)
theorem q_ms_st {κ : Nat → Nat} {n fu ln : Nat} {w : q_W} (h : 0 < w.2.2.1) (hq : w.2.2.2.1 < n) : q_ms n (q_st κ n fu ln w) < q_ms n w := by
  unfold q_st q_ms
  split
  · show (w.2.2.1 - 1) * n + (n - 0) < _
    obtain ⟨m, hm⟩ : ∃ m, w.2.2.1 = m + 1 := ⟨w.2.2.1 - 1, by omega⟩
    rw [hm, Nat.add_sub_cancel, Nat.add_mul]
    omega
  · show w.2.2.1 * n + (n - (w.2.2.2.1 + 1)) < _
    omega
theorem q_run_stop {κ : Nat → Nat} {n fu ln k : Nat} {w : q_W} (h : ¬ (0 < w.2.2.1 ∧ w.2.2.2.1 < n)) : q_run κ n fu ln k w = w := by
  cases k with
  | zero => rfl
  | succ k =>
    unfold q_run
    rw [if_neg h]
theorem q_run_go {κ : Nat → Nat} {n fu ln k : Nat} {w : q_W} (h : 0 < w.2.2.1 ∧ w.2.2.2.1 < n) : q_run κ n fu ln (k + 1) w = q_run κ n fu ln k (q_st κ n fu ln w) := by
  rw [q_run, if_pos h]
/-- what stays while a hand is sown -/
def q_ok (n B : Nat) (w : q_W) : Prop := w.2.1 < n ∧ (∀ i, w.1 i ≤ 100) ∧ w.2.2.2.1 ≤ n ∧ w.2.2.2.2.1 + w.2.2.1 ≤ B ∧ (∀ l, w.2.2.2.2.2 = some l → l < n)
theorem q_ok_st {κ : Nat → Nat} {n fu ln B : Nat} {w : q_W} (h : q_ok n B w) (h1 : 0 < w.2.2.1) (h2 : w.2.2.2.1 < n) : q_ok n B (q_st κ n fu ln w) := by
  obtain ⟨a1, a2, a3, a4, a5⟩ := h
  have a6 := q_nx_lt (ln := ln) a1
  unfold q_st
  split
  · rename_i ht
    refine ⟨a6, q_up_le a2 (by have := ht.1; omega), Nat.zero_le _, ?_, ?_⟩
    · show w.2.2.2.2.1 + 1 + (w.2.2.1 - 1) ≤ B
      omega
    · intro l hl
      have := Option.some.inj hl
      omega
  · exact ⟨a6, a2, h2, a4, a5⟩
theorem q_ok_run {κ : Nat → Nat} {n fu ln B : Nat} : ∀ (k : Nat) (w : q_W), q_ok n B w → q_ok n B (q_run κ n fu ln k w)
  | 0, w, h => h
  | k + 1, w, h => by
    by_cases hg : 0 < w.2.2.1 ∧ w.2.2.2.1 < n
    · rw [q_run_go hg]
      exact q_ok_run k _ (q_ok_st h hg.1 hg.2)
    · rw [q_run_stop hg]
      exact h
theorem q_run_more {κ : Nat → Nat} {n fu ln : Nat} : ∀ (k k' : Nat) (w : q_W), q_ms n w ≤ k → q_ms n w ≤ k' → q_run κ n fu ln k w = q_run κ n fu ln k' w := by
  intro k
  induction k with
  | zero =>
    intro k' w h h'
    by_cases hg : 0 < w.2.2.1 ∧ w.2.2.2.1 < n
    · have := q_ms_st (κ := κ) (fu := fu) (ln := ln) hg.1 hg.2
      omega
    · rw [q_run_stop hg, q_run_stop hg]
  | succ k ih =>
    intro k' w h h'
    by_cases hg : 0 < w.2.2.1 ∧ w.2.2.2.1 < n
    · have h1 := q_ms_st (κ := κ) (fu := fu) (ln := ln) hg.1 hg.2
      cases k' with
      | zero => omega
      | succ k' =>
        rw [q_run_go hg, q_run_go hg]
        exact ih k' _ (by omega) (by omega)
    · rw [q_run_stop hg, q_run_stop hg]
/-- a hand out of b: beans, sown, last -/
def q_hand (κ : Nat → Nat) (n fu ln : Nat) (β : Nat → Nat) (b : Nat) (l : Option Nat) : (Nat → Nat) × Nat × Option Nat :=
  let w := q_run κ n fu ln 1000 (q_up β b 0, b, β b, 0, 0, l)
  (q_up w.1 b (w.1 b + w.2.2.1), w.2.2.2.2.1, w.2.2.2.2.2)
def q_from (k fu : Nat) : Nat := if k = 0 then fu else if k = 3 then 2 * fu else if k = 5 then 12 else (fu + 1) / 2
abbrev q_full (κ β : Nat → Nat) (fu i : Nat) : Prop := κ i ≠ 2 ∧ q_from (κ i) fu ≤ β i
/-- the hands of a move: beans, hands, sown, last; k hands at the most -/
def q_hands (κ : Nat → Nat) (n fu ln : Nat) : Nat → (Nat → Nat) → Nat → Nat → Nat → Option Nat → (Nat → Nat) × Nat × Nat × Option Nat
  | 0, β, _, hs, s, l => (β, hs, s, l)
  | k + 1, β, b, hs, s, l =>
    let r := q_hand κ n fu ln β b l
    if 0 < r.2.1 ∧ q_full κ r.1 fu (r.2.2.getD 0) then q_hands κ n fu ln k r.1 (r.2.2.getD 0) (hs + 1) (s + r.2.1) r.2.2
    else (r.1, hs + 1, s + r.2.1, r.2.2)
def q_lI (l : Option Nat) : Int32 := match l with
  | none => (-9)
  | some p => nI p
end
section
-- == 31.tab
/-! The class's Table, over any state. -/
theorem x_t.num {z : Nat} {f f' : x_H} {t : Nat} {T : x_T} (h : x_t z f t T) (k : Nat) {v : Int32} (e : f' = x_up f t (.inr (3, (x_tF t T.2.2.2).set (k + 3) (.int v)))) (hk : (x_tF t T.2.2.2).set (k + 3) (.int v) = x_tF t (upd T.2.2.2 k v)) : x_t z f' t (T.1, T.2.1, T.2.2.1, upd T.2.2.2 k v) := by
  rw [hk] at e
  exact ⟨x_o.s e h.1.1, h.2.1.n e (by omega), h.2.2.1.n e (by omega), h.2.2.2.n e (by omega)⟩
theorem x_t.bean {z : Nat} {f f' : x_H} {t : Nat} {T : x_T} {g : Nat → Int32} (h : x_t z f t T) (e : f' = x_up f (t + 2) (.inl (9, .inl g))) : x_t z f' t (T.1, g, T.2.2.1, T.2.2.2) :=
  ⟨h.1.n e (by omega), h.2.1.n e (by omega), x_a.s e h.2.2.1.1, h.2.2.2.n e (by omega)⟩
theorem x_t.kind {z : Nat} {f f' : x_H} {t : Nat} {T : x_T} {g : Nat → Int32} (h : x_t z f t T) (e : f' = x_up f (t + 1) (.inl (9, .inl g))) : x_t z f' t (g, T.2.1, T.2.2.1, T.2.2.2) :=
  ⟨h.1.n e (by omega), x_a.s e h.2.1.1, h.2.2.1.n e (by omega), h.2.2.2.n e (by omega)⟩
theorem x_t.purse {z : Nat} {f f' : x_H} {t : Nat} {T : x_T} {g : Nat → Int32} (h : x_t z f t T) (e : f' = x_up f (t + 3) (.inl (2, .inl g))) : x_t z f' t (T.1, T.2.1, g, T.2.2.2) :=
  ⟨h.1.n e (by omega), h.2.1.n e (by omega), h.2.2.1.n e (by omega), x_a.s e h.2.2.2.1⟩
theorem x_t.cast {z : Nat} {f : x_H} {t : Nat} {T T' : x_T} (h : x_t z f t T) (e : T = T') : x_t z f t T' := e ▸ h
theorem x_ot_in {t k : Nat} (h : t ≤ k) (h2 : k < t + 4) : ¬ x_ot t k := by
  unfold x_ot
  omega
theorem nI_in9 {T : x_T} {n i : Nat} (hn : T.2.2.2 0 = nI n) (hn9 : n ≤ 9) (hi : i < n) : vp_in (nI i) 9 := vp_in_nI (by omega) (by decide)
theorem t_has_no {T : x_T} {n : Nat} {i : Nat} (hn : T.2.2.2 0 = nI n) (hn9 : n ≤ 9) (hi : i < 2 ^ 31) (h : ¬ t_has T (nI i)) : n ≤ i := Nat.not_lt.mp (fun q => h (t_has_nI hn hn9 q))
section TAB
variable {E : x_E} {z : Nat} {f : x_H} {t : Nat} {T : x_T} {post : Option Value → x_H → Prop}
theorem w_kindOf {b : Int32} (hT : x_t z f t T) (h1 : t_has T b → post (some (.int (T.1 b.toNatClampNeg))) f) (h0 : ¬ t_has T b → post (some (.int (-9))) f) : Y E 2 mX3_kindOf [.ref t, .int b] z f 0 0 post := by
  refine Y.intro gX3_kindOf (lv := [(0, .ref t), (1, .int b)]) rfl (Nat.le_of_ble_eq_true rfl) ?_
  refine x_aload_n (pc' := 1) rfl rfl rfl ?_
  refine x_iload_n (pc' := 2) rfl rfl rfl ?_
  refine x_cV1i (d := 1) (pc' := 5) rfl rfl sX3_55 gX3_has (hT.1) ⟨Nat.le_of_ble_eq_true rfl, Nat.le_of_ble_eq_true rfl⟩ (Nat.le_of_ble_eq_true rfl) ⟨Nat.le_of_ble_eq_true rfl, Nat.le_of_ble_eq_true rfl⟩ ?_
  refine w_has hT (fun g => ⟨_, rfl, ?_⟩) (fun g => ⟨_, rfl, ?_⟩)
  · refine x_if_eq (tgt := 17) (pc' := 8) rfl rfl rfl (fun c5 => absurd c5 (by decide)) (fun _ => ?_)
    refine x_aload_n (pc' := 9) rfl rfl rfl ?_
    refine x_get (pc' := 12) rfl rfl rfl (hT.1) rfl ?_
    refine x_iload_n (pc' := 13) rfl rfl rfl ?_
    refine x_iaload (pc' := 14) rfl rfl (hT.2.1) (vp_in_9 g.1 g.2.2) ?_
    refine x_goto (tgt := 19) rfl rfl ?_
    exact x_ireturn rfl rfl rfl (Nat.le_of_ble_eq_true rfl) (Nat.le_of_ble_eq_true rfl) (h1 g)
  · refine x_if_eq (tgt := 17) (pc' := 8) rfl rfl rfl (fun _ => ?_) (fun c5 => absurd (by decide) c5)
    refine x_bipush (pc' := 19) rfl rfl bipush_m9 ?_
    exact x_ireturn rfl rfl rfl (Nat.le_of_ble_eq_true rfl) (Nat.le_of_ble_eq_true rfl) (h0 g)
theorem w_lay {b v : Int32} (hT : x_t z f t T) (h1 : t_has T b → ∀ f' : x_H, x_t z f' t (T.1, upd T.2.1 b.toNatClampNeg v, T.2.2.1, T.2.2.2) → x_fr (x_ot t) f f' → post none f') (h0 : ¬ t_has T b → post none f) : Y E 2 mX3_lay [.ref t, .int b, .int v] z f 0 0 post := by
  refine Y.intro gX3_lay (lv := [(0, .ref t), (1, .int b), (2, .int v)]) rfl (Nat.le_of_ble_eq_true rfl) ?_
  refine x_aload_n (pc' := 1) rfl rfl rfl ?_
  refine x_iload_n (pc' := 2) rfl rfl rfl ?_
  refine x_cV1i (d := 1) (pc' := 5) rfl rfl sX3_55 gX3_has (hT.1) ⟨Nat.le_of_ble_eq_true rfl, Nat.le_of_ble_eq_true rfl⟩ (Nat.le_of_ble_eq_true rfl) ⟨Nat.le_of_ble_eq_true rfl, Nat.le_of_ble_eq_true rfl⟩ ?_
  refine w_has hT (fun g => ⟨_, rfl, ?_⟩) (fun g => ⟨_, rfl, ?_⟩)
  · refine x_if_eq (tgt := 15) (pc' := 8) rfl rfl rfl (fun c5 => absurd c5 (by decide)) (fun _ => ?_)
    refine x_aload_n (pc' := 9) rfl rfl rfl ?_
    refine x_get (pc' := 12) rfl rfl rfl (hT.1) rfl ?_
    refine x_iload_n (pc' := 13) rfl rfl rfl ?_
    refine x_iload_n (pc' := 14) rfl rfl rfl ?_
    refine x_iastore (pc' := 15) rfl rfl (hT.2.2.1) (vp_in_9 g.1 g.2.2) (fun f1 e1 => ?_)
    have hT1 := hT.bean e1
    have hF1 := x_fr.rf.up e1 (x_ot_in (t := t) (by omega) (by omega))
    exact x_return rfl rfl (Nat.le_of_ble_eq_true rfl) (Nat.le_of_ble_eq_true rfl) (h1 g _ hT1 hF1)
  · refine x_if_eq (tgt := 15) (pc' := 8) rfl rfl rfl (fun _ => ?_) (fun c5 => absurd (by decide) c5)
    exact x_return rfl rfl (Nat.le_of_ble_eq_true rfl) (Nat.le_of_ble_eq_true rfl) (h0 g)
theorem w_takes {i n fu : Nat} {κ β : Nat → Nat} (hT : x_t z f t T) (hn : T.2.2.2 0 = nI n) (hn9 : n ≤ 9) (hfu : T.2.2.2 1 = nI fu) (hfu9 : fu < 2 ^ 31) (hκ : T.1 = fun i => nI (κ i)) (hβ : T.2.1 = fun i => nI (β i)) (hκ5 : ∀ i, κ i ≤ 5) (hβ5 : ∀ i, β i ≤ 100) (hi : i < n) (h1 : q_tk κ β fu i → post (some (.int 1)) f) (h0 : ¬ q_tk κ β fu i → post (some (.int 0)) f) : Y E 2 mX3_takes [.ref t, .int (nI i)] z f 0 0 post := by
  refine Y.intro gX3_takes (lv := [(0, .ref t), (1, .int (nI i))]) rfl (Nat.le_of_ble_eq_true rfl) ?_
  have hcl : (nI i).toNatClampNeg = i := nI_clamp (by omega)
  have e1 : T.2.1 (nI i).toNatClampNeg = nI (β i) := by rw [hcl, hβ]
  have e2 : T.1 (nI i).toNatClampNeg = nI (κ i) := by rw [hcl, hκ]
  have b1 := hβ5 i
  have b2 := hκ5 i
  refine x_aload_n (pc' := 1) rfl rfl rfl ?_
  refine x_iload_n (pc' := 2) rfl rfl rfl ?_
  refine x_cV1i (d := 1) (pc' := 5) rfl rfl sX3_55 gX3_has (hT.1) ⟨Nat.le_of_ble_eq_true rfl, Nat.le_of_ble_eq_true rfl⟩ (Nat.le_of_ble_eq_true rfl) ⟨Nat.le_of_ble_eq_true rfl, Nat.le_of_ble_eq_true rfl⟩ ?_
  refine w_has hT (fun g => ⟨_, rfl, ?_⟩) (fun g => absurd (t_has_nI hn hn9 hi) g)
  refine x_if_eq (tgt := 19) (pc' := 8) rfl rfl rfl (fun c5 => absurd c5 ((by decide))) (fun _ => ?_)
  refine x_aload_n (pc' := 9) rfl rfl rfl ?_
  refine x_get (pc' := 12) rfl rfl rfl (hT.1) rfl ?_
  refine x_iload_n (pc' := 13) rfl rfl rfl ?_
  refine x_iaload (pc' := 14) rfl rfl (hT.2.2.1) (nI_in9 hn hn9 hi) ?_
  refine x_eqi e1 ?_
  refine x_bipush (pc' := 16) rfl rfl bipush_99 ?_
  by_cases d1 : β i < 99
  · refine x_icmp_lt (tgt := 21) (pc' := 19) rfl rfl rfl (fun _ => ?_) (fun q => absurd (nI_lt (a := β i) (b := 99) d1 (by decide)) q)
    refine x_aload_n (pc' := 22) rfl rfl rfl ?_
    refine x_get (pc' := 25) rfl rfl rfl (hT.1) rfl ?_
    refine x_iload_n (pc' := 26) rfl rfl rfl ?_
    refine x_iaload (pc' := 27) rfl rfl (hT.2.1) (nI_in9 hn hn9 hi) ?_
    refine x_eqi e2 ?_
    refine x_iconst (pc' := 28) rfl rfl iconst_4 ?_
    by_cases d2 : κ i = 4
    · refine x_icmp_ne (tgt := 44) (pc' := 31) rfl rfl rfl (fun q => absurd (show nI (κ i) = 4 by rw [d2]; decide) q) (fun _ => ?_)
      refine x_aload_n (pc' := 32) rfl rfl rfl ?_
      refine x_get (pc' := 35) rfl rfl rfl (hT.1) rfl ?_
      refine x_iload_n (pc' := 36) rfl rfl rfl ?_
      refine x_iaload (pc' := 37) rfl rfl (hT.2.2.1) (nI_in9 hn hn9 hi) ?_
      refine x_eqi e1 ?_
      refine x_aload_n (pc' := 38) rfl rfl rfl ?_
      refine x_get (pc' := 41) rfl rfl rfl (hT.1) rfl ?_
      refine x_eqi hfu ?_
      by_cases d3 : β i < fu
      · refine x_icmp_ge (tgt := 48) (pc' := 44) rfl rfl rfl (fun q => absurd q (nI_ge d3 hfu9)) (fun _ => ?_)
        refine x_iconst (pc' := 45) rfl rfl iconst_1 ?_
        refine x_goto (tgt := 49) rfl rfl ?_
        exact x_ireturn rfl rfl rfl (Nat.le_of_ble_eq_true rfl) (Nat.le_of_ble_eq_true rfl) (h1 ⟨d1, fun _ => d3⟩)
      · refine x_icmp_ge (tgt := 48) (pc' := 44) rfl rfl rfl (fun _ => ?_) (fun q => absurd (nI_le (a := fu) (b := β i) (by omega) (by omega)) q)
        refine x_iconst (pc' := 49) rfl rfl iconst_0 ?_
        exact x_ireturn rfl rfl rfl (Nat.le_of_ble_eq_true rfl) (Nat.le_of_ble_eq_true rfl) (h0 (fun q => d3 (q.2 d2)))
    · refine x_icmp_ne (tgt := 44) (pc' := 31) rfl rfl rfl (fun _ => ?_) (fun q => absurd ((nI_eq (a := κ i) (b := 4) (by omega) (by decide)).mp q) d2)
      refine x_iconst (pc' := 45) rfl rfl iconst_1 ?_
      refine x_goto (tgt := 49) rfl rfl ?_
      exact x_ireturn rfl rfl rfl (Nat.le_of_ble_eq_true rfl) (Nat.le_of_ble_eq_true rfl) (h1 ⟨d1, fun q => absurd q d2⟩)
  · refine x_icmp_lt (tgt := 21) (pc' := 19) rfl rfl rfl (fun q => absurd q (nI_nlt (a := β i) (b := 99) (by omega) (by omega))) (fun _ => ?_)
    refine x_iconst (pc' := 20) rfl rfl iconst_0 ?_
    exact x_ireturn rfl rfl rfl (Nat.le_of_ble_eq_true rfl) (Nat.le_of_ble_eq_true rfl) (h0 (fun q => d1 q.1))
theorem w_nx {p n ln : Nat} (hT : x_t z f t T) (hn : T.2.2.2 0 = nI n) (hn9 : n ≤ 9) (hln : T.2.2.2 2 = nI ln) (hln1 : ln < 2 ^ 31) (hp : p < n) (h : post (some (.int (nI (q_nx n ln p)))) f) : Y E 1 mX3_rightOrLeftOf [.ref t, .int (nI p)] z f 0 0 post := by
  refine Y.intro gX3_rightOrLeftOf (lv := [(0, .ref t), (1, .int (nI p))]) rfl (Nat.le_of_ble_eq_true rfl) ?_
  by_cases d1 : ln = 1
  · by_cases d2 : p = 0
    · have e : q_nx n ln p = n - 1 := by unfold q_nx; rw [if_pos d1, if_pos d2]
      rw [e] at h
      subst d2
      refine x_aload_n (pc' := 1) rfl rfl rfl ?_
      refine x_get (pc' := 4) rfl rfl rfl (hT.1) rfl ?_
      refine x_eqi hln ?_
      refine x_iconst (pc' := 5) rfl rfl iconst_1 ?_
      refine x_icmp_ne (tgt := 25) (pc' := 8) rfl rfl rfl (fun c5 => absurd ((by rw [d1]; rfl)) c5) (fun _ => ?_)
      refine x_iload_n (pc' := 9) rfl rfl rfl ?_
      refine x_if_gt (tgt := 21) (pc' := 12) rfl rfl rfl (fun c9 => absurd c9 ((by decide : ¬ (0 : Int32) < nI 0))) (fun _ => ?_)
      refine x_aload_n (pc' := 13) rfl rfl rfl ?_
      refine x_get (pc' := 16) rfl rfl rfl (hT.1) rfl ?_
      refine x_eqi hn ?_
      refine x_iconst (pc' := 17) rfl rfl iconst_1 ?_
      refine x_isub (pc' := 18) rfl rfl ?_
      refine x_eqi (show nI n - 1 = nI (n - 1) from pk_sub (a := n) (b := 1) (by omega)) ?_
      refine x_goto (tgt := 24) rfl rfl ?_
      exact x_ireturn rfl rfl rfl (Nat.le_of_ble_eq_true rfl) (Nat.le_of_ble_eq_true rfl) (h)
    · have e : q_nx n ln p = p - 1 := by unfold q_nx; rw [if_pos d1, if_neg d2]
      rw [e] at h
      refine x_aload_n (pc' := 1) rfl rfl rfl ?_
      refine x_get (pc' := 4) rfl rfl rfl (hT.1) rfl ?_
      refine x_eqi hln ?_
      refine x_iconst (pc' := 5) rfl rfl iconst_1 ?_
      refine x_icmp_ne (tgt := 25) (pc' := 8) rfl rfl rfl (fun c5 => absurd ((by rw [d1]; rfl)) c5) (fun _ => ?_)
      refine x_iload_n (pc' := 9) rfl rfl rfl ?_
      refine x_if_gt (tgt := 21) (pc' := 12) rfl rfl rfl (fun _ => ?_) (fun c9 => absurd (nI_lt (a := 0) (b := p) (by omega) (by omega)) c9)
      refine x_iload_n (pc' := 22) rfl rfl rfl ?_
      refine x_iconst (pc' := 23) rfl rfl iconst_1 ?_
      refine x_isub (pc' := 24) rfl rfl ?_
      refine x_eqi (show nI p - 1 = nI (p - 1) from pk_sub (a := p) (b := 1) (by omega)) ?_
      exact x_ireturn rfl rfl rfl (Nat.le_of_ble_eq_true rfl) (Nat.le_of_ble_eq_true rfl) (h)
  · have hne : ¬ nI ln = 1 := fun q => d1 ((nI_eq (a := ln) (b := 1) hln1 (by decide)).mp q)
    by_cases d2 : n ≤ p + 1
    · have e : q_nx n ln p = 0 := by unfold q_nx; rw [if_neg d1, if_pos d2]
      rw [e] at h
      refine x_aload_n (pc' := 1) rfl rfl rfl ?_
      refine x_get (pc' := 4) rfl rfl rfl (hT.1) rfl ?_
      refine x_eqi hln ?_
      refine x_iconst (pc' := 5) rfl rfl iconst_1 ?_
      refine x_icmp_ne (tgt := 25) (pc' := 8) rfl rfl rfl (fun _ => ?_) (fun c5 => absurd c5 (hne))
      refine x_iload_n (pc' := 26) rfl rfl rfl ?_
      refine x_iconst (pc' := 27) rfl rfl iconst_1 ?_
      refine x_iadd (pc' := 28) rfl rfl ?_
      refine x_eqi (nI_1 p) ?_
      refine x_aload_n (pc' := 29) rfl rfl rfl ?_
      refine x_get (pc' := 32) rfl rfl rfl (hT.1) rfl ?_
      refine x_eqi hn ?_
      refine x_icmp_lt (tgt := 39) (pc' := 35) rfl rfl rfl (fun c32 => absurd c32 (nI_nlt (a := p + 1) (b := n) d2 (by omega))) (fun _ => ?_)
      refine x_iconst (pc' := 36) rfl rfl iconst_0 ?_
      refine x_goto (tgt := 42) rfl rfl ?_
      exact x_ireturn rfl rfl rfl (Nat.le_of_ble_eq_true rfl) (Nat.le_of_ble_eq_true rfl) (h)
    · have e : q_nx n ln p = p + 1 := by unfold q_nx; rw [if_neg d1, if_neg d2]
      rw [e] at h
      refine x_aload_n (pc' := 1) rfl rfl rfl ?_
      refine x_get (pc' := 4) rfl rfl rfl (hT.1) rfl ?_
      refine x_eqi hln ?_
      refine x_iconst (pc' := 5) rfl rfl iconst_1 ?_
      refine x_icmp_ne (tgt := 25) (pc' := 8) rfl rfl rfl (fun _ => ?_) (fun c5 => absurd c5 (hne))
      refine x_iload_n (pc' := 26) rfl rfl rfl ?_
      refine x_iconst (pc' := 27) rfl rfl iconst_1 ?_
      refine x_iadd (pc' := 28) rfl rfl ?_
      refine x_eqi (nI_1 p) ?_
      refine x_aload_n (pc' := 29) rfl rfl rfl ?_
      refine x_get (pc' := 32) rfl rfl rfl (hT.1) rfl ?_
      refine x_eqi hn ?_
      refine x_icmp_lt (tgt := 39) (pc' := 35) rfl rfl rfl (fun _ => ?_) (fun c32 => absurd (nI_lt (a := p + 1) (b := n) (by omega) (by omega)) c32)
      refine x_iload_n (pc' := 40) rfl rfl rfl ?_
      refine x_iconst (pc' := 41) rfl rfl iconst_1 ?_
      refine x_iadd (pc' := 42) rfl rfl ?_
      refine x_eqi (nI_1 p) ?_
      exact x_ireturn rfl rfl rfl (Nat.le_of_ble_eq_true rfl) (Nat.le_of_ble_eq_true rfl) (h)
theorem w_sounds {i n fu : Nat} {κ : Nat → Nat} (hT : x_t z f t T) (hn : T.2.2.2 0 = nI n) (hn9 : n ≤ 9) (hfu : T.2.2.2 1 = nI fu) (hfu9 : fu < 2 ^ 20) (hκ : T.1 = fun i => nI (κ i)) (hκ5 : ∀ i, κ i ≤ 5) (hi : i < n) (h : post (some (.int (if κ i = 2 then (-9) else nI (q_from (κ i) fu)))) f) : Y E 2 mX3_soundsFrom [.ref t, .int (nI i)] z f 0 0 post := by
  refine Y.intro gX3_soundsFrom (lv := [(0, .ref t), (1, .int (nI i))]) rfl (Nat.le_of_ble_eq_true rfl) ?_
  have hcl : (nI i).toNatClampNeg = i := nI_clamp (by omega)
  have e2 : T.1 (nI i).toNatClampNeg = nI (κ i) := by rw [hcl, hκ]
  have b2 := hκ5 i
  have hh : nI fu + 1 = nI (fu + 1) := nI_1 fu
  have hd : nI (fu + 1) / 2 = nI ((fu + 1) / 2) := pk_div (a := fu + 1) (d := 2) (by omega) (by decide) (by decide)
  have hm : (2 : Int32) * nI fu = nI (2 * fu) := pk_mul 2 fu
  have hk : κ i = 0 ∨ κ i = 1 ∨ κ i = 2 ∨ κ i = 3 ∨ κ i = 4 ∨ κ i = 5 := by omega
  rcases hk with d | d | d | d | d | d
  all_goals rw [d] at e2 h
  ·
    refine x_aload_n (pc' := 1) rfl rfl rfl ?_
    refine x_iload_n (pc' := 2) rfl rfl rfl ?_
    refine x_cV1i (d := 1) (pc' := 5) rfl rfl sX3_55 gX3_has (hT.1) ⟨Nat.le_of_ble_eq_true rfl, Nat.le_of_ble_eq_true rfl⟩ (Nat.le_of_ble_eq_true rfl) ⟨Nat.le_of_ble_eq_true rfl, Nat.le_of_ble_eq_true rfl⟩ ?_
    refine w_has hT (fun g => ⟨_, rfl, ?_⟩) (fun g => absurd (t_has_nI hn hn9 hi) g)
    refine x_if_ne (tgt := 11) (pc' := 8) rfl rfl rfl (fun _ => ?_) (fun c5 => absurd c5 ((by decide)))
    refine x_aload_n (pc' := 12) rfl rfl rfl ?_
    refine x_get (pc' := 15) rfl rfl rfl (hT.1) rfl ?_
    refine x_iload_n (pc' := 16) rfl rfl rfl ?_
    refine x_iaload (pc' := 17) rfl rfl (hT.2.1) (nI_in9 hn hn9 hi) ?_
    refine x_eqi e2 ?_
    refine x_tableIn (tgt := 52) rfl (by decide) (by decide) rfl rfl ?_
    refine x_aload_n (pc' := 53) rfl rfl rfl ?_
    refine x_get (pc' := 56) rfl rfl rfl (hT.1) rfl ?_
    refine x_eqi hfu ?_
    exact x_ireturn rfl rfl rfl (Nat.le_of_ble_eq_true rfl) (Nat.le_of_ble_eq_true rfl) (h)
  ·
    refine x_aload_n (pc' := 1) rfl rfl rfl ?_
    refine x_iload_n (pc' := 2) rfl rfl rfl ?_
    refine x_cV1i (d := 1) (pc' := 5) rfl rfl sX3_55 gX3_has (hT.1) ⟨Nat.le_of_ble_eq_true rfl, Nat.le_of_ble_eq_true rfl⟩ (Nat.le_of_ble_eq_true rfl) ⟨Nat.le_of_ble_eq_true rfl, Nat.le_of_ble_eq_true rfl⟩ ?_
    refine w_has hT (fun g => ⟨_, rfl, ?_⟩) (fun g => absurd (t_has_nI hn hn9 hi) g)
    refine x_if_ne (tgt := 11) (pc' := 8) rfl rfl rfl (fun _ => ?_) (fun c5 => absurd c5 ((by decide)))
    refine x_aload_n (pc' := 12) rfl rfl rfl ?_
    refine x_get (pc' := 15) rfl rfl rfl (hT.1) rfl ?_
    refine x_iload_n (pc' := 16) rfl rfl rfl ?_
    refine x_iaload (pc' := 17) rfl rfl (hT.2.1) (nI_in9 hn hn9 hi) ?_
    refine x_eqi e2 ?_
    refine x_tableIn (tgt := 57) rfl (by decide) (by decide) rfl rfl ?_
    refine x_aload_n (pc' := 58) rfl rfl rfl ?_
    refine x_get (pc' := 61) rfl rfl rfl (hT.1) rfl ?_
    refine x_eqi hfu ?_
    refine x_iconst (pc' := 62) rfl rfl iconst_1 ?_
    refine x_iadd (pc' := 63) rfl rfl ?_
    refine x_eqi hh ?_
    refine x_iconst (pc' := 64) rfl rfl iconst_2 ?_
    refine x_idiv (pc' := 65) rfl rfl (by decide) ?_
    refine x_eqi hd ?_
    exact x_ireturn rfl rfl rfl (Nat.le_refl _) (Nat.le_refl _) h
  ·
    refine x_aload_n (pc' := 1) rfl rfl rfl ?_
    refine x_iload_n (pc' := 2) rfl rfl rfl ?_
    refine x_cV1i (d := 1) (pc' := 5) rfl rfl sX3_55 gX3_has (hT.1) ⟨Nat.le_of_ble_eq_true rfl, Nat.le_of_ble_eq_true rfl⟩ (Nat.le_of_ble_eq_true rfl) ⟨Nat.le_of_ble_eq_true rfl, Nat.le_of_ble_eq_true rfl⟩ ?_
    refine w_has hT (fun g => ⟨_, rfl, ?_⟩) (fun g => absurd (t_has_nI hn hn9 hi) g)
    refine x_if_ne (tgt := 11) (pc' := 8) rfl rfl rfl (fun _ => ?_) (fun c5 => absurd c5 ((by decide)))
    refine x_aload_n (pc' := 12) rfl rfl rfl ?_
    refine x_get (pc' := 15) rfl rfl rfl (hT.1) rfl ?_
    refine x_iload_n (pc' := 16) rfl rfl rfl ?_
    refine x_iaload (pc' := 17) rfl rfl (hT.2.1) (nI_in9 hn hn9 hi) ?_
    refine x_eqi e2 ?_
    refine x_tableIn (tgt := 66) rfl (by decide) (by decide) rfl rfl ?_
    refine x_bipush (pc' := 68) rfl rfl bipush_m9 ?_
    exact x_ireturn rfl rfl rfl (Nat.le_of_ble_eq_true rfl) (Nat.le_of_ble_eq_true rfl) (h)
  ·
    refine x_aload_n (pc' := 1) rfl rfl rfl ?_
    refine x_iload_n (pc' := 2) rfl rfl rfl ?_
    refine x_cV1i (d := 1) (pc' := 5) rfl rfl sX3_55 gX3_has (hT.1) ⟨Nat.le_of_ble_eq_true rfl, Nat.le_of_ble_eq_true rfl⟩ (Nat.le_of_ble_eq_true rfl) ⟨Nat.le_of_ble_eq_true rfl, Nat.le_of_ble_eq_true rfl⟩ ?_
    refine w_has hT (fun g => ⟨_, rfl, ?_⟩) (fun g => absurd (t_has_nI hn hn9 hi) g)
    refine x_if_ne (tgt := 11) (pc' := 8) rfl rfl rfl (fun _ => ?_) (fun c5 => absurd c5 ((by decide)))
    refine x_aload_n (pc' := 12) rfl rfl rfl ?_
    refine x_get (pc' := 15) rfl rfl rfl (hT.1) rfl ?_
    refine x_iload_n (pc' := 16) rfl rfl rfl ?_
    refine x_iaload (pc' := 17) rfl rfl (hT.2.1) (nI_in9 hn hn9 hi) ?_
    refine x_eqi e2 ?_
    refine x_tableIn (tgt := 69) rfl (by decide) (by decide) rfl rfl ?_
    refine x_iconst (pc' := 70) rfl rfl iconst_2 ?_
    refine x_aload_n (pc' := 71) rfl rfl rfl ?_
    refine x_get (pc' := 74) rfl rfl rfl (hT.1) rfl ?_
    refine x_eqi hfu ?_
    refine x_imul (pc' := 75) rfl rfl ?_
    refine x_eqi hm ?_
    exact x_ireturn rfl rfl rfl (Nat.le_of_ble_eq_true rfl) (Nat.le_of_ble_eq_true rfl) (h)
  ·
    refine x_aload_n (pc' := 1) rfl rfl rfl ?_
    refine x_iload_n (pc' := 2) rfl rfl rfl ?_
    refine x_cV1i (d := 1) (pc' := 5) rfl rfl sX3_55 gX3_has (hT.1) ⟨Nat.le_of_ble_eq_true rfl, Nat.le_of_ble_eq_true rfl⟩ (Nat.le_of_ble_eq_true rfl) ⟨Nat.le_of_ble_eq_true rfl, Nat.le_of_ble_eq_true rfl⟩ ?_
    refine w_has hT (fun g => ⟨_, rfl, ?_⟩) (fun g => absurd (t_has_nI hn hn9 hi) g)
    refine x_if_ne (tgt := 11) (pc' := 8) rfl rfl rfl (fun _ => ?_) (fun c5 => absurd c5 ((by decide)))
    refine x_aload_n (pc' := 12) rfl rfl rfl ?_
    refine x_get (pc' := 15) rfl rfl rfl (hT.1) rfl ?_
    refine x_iload_n (pc' := 16) rfl rfl rfl ?_
    refine x_iaload (pc' := 17) rfl rfl (hT.2.1) (nI_in9 hn hn9 hi) ?_
    refine x_eqi e2 ?_
    refine x_tableIn (tgt := 57) rfl (by decide) (by decide) rfl rfl ?_
    refine x_aload_n (pc' := 58) rfl rfl rfl ?_
    refine x_get (pc' := 61) rfl rfl rfl (hT.1) rfl ?_
    refine x_eqi hfu ?_
    refine x_iconst (pc' := 62) rfl rfl iconst_1 ?_
    refine x_iadd (pc' := 63) rfl rfl ?_
    refine x_eqi hh ?_
    refine x_iconst (pc' := 64) rfl rfl iconst_2 ?_
    refine x_idiv (pc' := 65) rfl rfl (by decide) ?_
    refine x_eqi hd ?_
    exact x_ireturn rfl rfl rfl (Nat.le_refl _) (Nat.le_refl _) h
  ·
    refine x_aload_n (pc' := 1) rfl rfl rfl ?_
    refine x_iload_n (pc' := 2) rfl rfl rfl ?_
    refine x_cV1i (d := 1) (pc' := 5) rfl rfl sX3_55 gX3_has (hT.1) ⟨Nat.le_of_ble_eq_true rfl, Nat.le_of_ble_eq_true rfl⟩ (Nat.le_of_ble_eq_true rfl) ⟨Nat.le_of_ble_eq_true rfl, Nat.le_of_ble_eq_true rfl⟩ ?_
    refine w_has hT (fun g => ⟨_, rfl, ?_⟩) (fun g => absurd (t_has_nI hn hn9 hi) g)
    refine x_if_ne (tgt := 11) (pc' := 8) rfl rfl rfl (fun _ => ?_) (fun c5 => absurd c5 ((by decide)))
    refine x_aload_n (pc' := 12) rfl rfl rfl ?_
    refine x_get (pc' := 15) rfl rfl rfl (hT.1) rfl ?_
    refine x_iload_n (pc' := 16) rfl rfl rfl ?_
    refine x_iaload (pc' := 17) rfl rfl (hT.2.1) (nI_in9 hn hn9 hi) ?_
    refine x_eqi e2 ?_
    refine x_tableOut (tgt := 76) rfl ((by decide)) rfl ?_
    refine x_bipush (pc' := 78) rfl rfl bipush_12 ?_
    exact x_ireturn rfl rfl rfl (Nat.le_of_ble_eq_true rfl) (Nat.le_of_ble_eq_true rfl) (h)
theorem w_isFull {i n fu : Nat} {κ β : Nat → Nat} (hT : x_t z f t T) (hn : T.2.2.2 0 = nI n) (hn9 : n ≤ 9) (hfu : T.2.2.2 1 = nI fu) (hfu9 : fu < 2 ^ 20) (hκ : T.1 = fun i => nI (κ i)) (hβ : T.2.1 = fun i => nI (β i)) (hκ5 : ∀ i, κ i ≤ 5) (hβ5 : ∀ i, β i ≤ 100) (hi : i < n) (h1 : q_full κ β fu i → post (some (.int 1)) f) (h0 : ¬ q_full κ β fu i → post (some (.int 0)) f) : Y E 3 mX3_isFull [.ref t, .int (nI i)] z f 0 0 post := by
  refine Y.intro gX3_isFull (lv := [(0, .ref t), (1, .int (nI i))]) rfl (Nat.le_of_ble_eq_true rfl) ?_
  have hcl : (nI i).toNatClampNeg = i := nI_clamp (by omega)
  have e1 : T.2.1 (nI i).toNatClampNeg = nI (β i) := by rw [hcl, hβ]
  have b1 := hβ5 i
  have hq : q_from (κ i) fu < 2 ^ 31 := by
    unfold q_from
    repeat' split
    all_goals omega
  by_cases d1 : κ i = 2
  ·
    refine x_aload_n (pc' := 1) rfl rfl rfl ?_
    refine x_iload_n (pc' := 2) rfl rfl rfl ?_
    refine x_cV1i (d := 2) (pc' := 5) rfl rfl sX3_67 gX3_soundsFrom (hT.1) ⟨Nat.le_of_ble_eq_true rfl, Nat.le_of_ble_eq_true rfl⟩ (Nat.le_of_ble_eq_true rfl) ⟨Nat.le_of_ble_eq_true rfl, Nat.le_of_ble_eq_true rfl⟩ ?_
    refine w_sounds hT hn hn9 hfu hfu9 hκ hκ5 hi ⟨_, rfl, ?_⟩
    rw [if_pos d1]
    refine x_istore_n (pc' := 6) (lv' := [(2, _), (0, _), (1, _)]) rfl rfl (Nat.le_of_ble_eq_true rfl) rfl ?_
    refine x_iload_n (pc' := 7) rfl rfl rfl ?_
    refine x_bipush (pc' := 9) rfl rfl bipush_m9 ?_
    refine x_icmp_eq (tgt := 25) (pc' := 12) rfl rfl rfl (fun _ => ?_) (fun c9 => absurd (rfl) c9)
    refine x_iconst (pc' := 26) rfl rfl iconst_0 ?_
    exact x_ireturn rfl rfl rfl (Nat.le_of_ble_eq_true rfl) (Nat.le_of_ble_eq_true rfl) (h0 (fun q => q.1 d1))
  · have hne : ¬ nI (q_from (κ i) fu) = -9 := fun q => by
      have h2 := nI_pos hq
      rw [q] at h2
      exact h2 (by decide)
    by_cases d2 : q_from (κ i) fu ≤ β i
    ·
      refine x_aload_n (pc' := 1) rfl rfl rfl ?_
      refine x_iload_n (pc' := 2) rfl rfl rfl ?_
      refine x_cV1i (d := 2) (pc' := 5) rfl rfl sX3_67 gX3_soundsFrom (hT.1) ⟨Nat.le_of_ble_eq_true rfl, Nat.le_of_ble_eq_true rfl⟩ (Nat.le_of_ble_eq_true rfl) ⟨Nat.le_of_ble_eq_true rfl, Nat.le_of_ble_eq_true rfl⟩ ?_
      refine w_sounds hT hn hn9 hfu hfu9 hκ hκ5 hi ⟨_, rfl, ?_⟩
      rw [if_neg d1]
      refine x_istore_n (pc' := 6) (lv' := [(2, _), (0, _), (1, _)]) rfl rfl (Nat.le_of_ble_eq_true rfl) rfl ?_
      refine x_iload_n (pc' := 7) rfl rfl rfl ?_
      refine x_bipush (pc' := 9) rfl rfl bipush_m9 ?_
      refine x_icmp_eq (tgt := 25) (pc' := 12) rfl rfl rfl (fun c9 => absurd c9 (hne)) (fun _ => ?_)
      refine x_aload_n (pc' := 13) rfl rfl rfl ?_
      refine x_iload_n (pc' := 14) rfl rfl rfl ?_
      refine x_cV1i (d := 2) (pc' := 17) rfl rfl sX3_59 gX3_beansOf (hT.1) ⟨Nat.le_of_ble_eq_true rfl, Nat.le_of_ble_eq_true rfl⟩ (Nat.le_of_ble_eq_true rfl) ⟨Nat.le_of_ble_eq_true rfl, Nat.le_of_ble_eq_true rfl⟩ ?_
      refine w_beansOf hT (fun g => ⟨_, rfl, ?_⟩) (fun g => absurd (t_has_nI hn hn9 hi) g)
      refine x_eqi e1 ?_
      refine x_iload_n (pc' := 18) rfl rfl rfl ?_
      refine x_icmp_lt (tgt := 25) (pc' := 21) rfl rfl rfl (fun c18 => absurd c18 (nI_nlt d2 (by omega))) (fun _ => ?_)
      refine x_iconst (pc' := 22) rfl rfl iconst_1 ?_
      refine x_goto (tgt := 26) rfl rfl ?_
      exact x_ireturn rfl rfl rfl (Nat.le_of_ble_eq_true rfl) (Nat.le_of_ble_eq_true rfl) (h1 ⟨d1, d2⟩)
    ·
      refine x_aload_n (pc' := 1) rfl rfl rfl ?_
      refine x_iload_n (pc' := 2) rfl rfl rfl ?_
      refine x_cV1i (d := 2) (pc' := 5) rfl rfl sX3_67 gX3_soundsFrom (hT.1) ⟨Nat.le_of_ble_eq_true rfl, Nat.le_of_ble_eq_true rfl⟩ (Nat.le_of_ble_eq_true rfl) ⟨Nat.le_of_ble_eq_true rfl, Nat.le_of_ble_eq_true rfl⟩ ?_
      refine w_sounds hT hn hn9 hfu hfu9 hκ hκ5 hi ⟨_, rfl, ?_⟩
      rw [if_neg d1]
      refine x_istore_n (pc' := 6) (lv' := [(2, _), (0, _), (1, _)]) rfl rfl (Nat.le_of_ble_eq_true rfl) rfl ?_
      refine x_iload_n (pc' := 7) rfl rfl rfl ?_
      refine x_bipush (pc' := 9) rfl rfl bipush_m9 ?_
      refine x_icmp_eq (tgt := 25) (pc' := 12) rfl rfl rfl (fun c9 => absurd c9 (hne)) (fun _ => ?_)
      refine x_aload_n (pc' := 13) rfl rfl rfl ?_
      refine x_iload_n (pc' := 14) rfl rfl rfl ?_
      refine x_cV1i (d := 2) (pc' := 17) rfl rfl sX3_59 gX3_beansOf (hT.1) ⟨Nat.le_of_ble_eq_true rfl, Nat.le_of_ble_eq_true rfl⟩ (Nat.le_of_ble_eq_true rfl) ⟨Nat.le_of_ble_eq_true rfl, Nat.le_of_ble_eq_true rfl⟩ ?_
      refine w_beansOf hT (fun g => ⟨_, rfl, ?_⟩) (fun g => absurd (t_has_nI hn hn9 hi) g)
      refine x_eqi e1 ?_
      refine x_iload_n (pc' := 18) rfl rfl rfl ?_
      refine x_icmp_lt (tgt := 25) (pc' := 21) rfl rfl rfl (fun _ => ?_) (fun c18 => absurd (nI_lt (by omega) hq) c18)
      refine x_iconst (pc' := 26) rfl rfl iconst_0 ?_
      exact x_ireturn rfl rfl rfl (Nat.le_of_ble_eq_true rfl) (Nat.le_of_ble_eq_true rfl) (h0 (fun q => d2 q.2))
end TAB
end
section
-- == 32.sow
/-! The class's Table sows a hand, takes a single one. -/
theorem q_msN {n : Nat} {w : q_W} (h : q_ms n w = 0) (hn : 0 < n) : w.2.2.1 = 0 := by
  unfold q_ms at h
  have h1 : w.2.2.1 * n = 0 := by omega
  rcases Nat.mul_eq_zero.mp h1 with h2 | h2
  · exact h2
  · omega
/-- what was sown has a last one -/
def q_lst (n : Nat) (w : q_W) : Prop := 0 < w.2.2.2.2.1 → ∃ p, w.2.2.2.2.2 = some p ∧ p < n
theorem q_lst_run {κ : Nat → Nat} {n fu ln B : Nat} : ∀ (k : Nat) (w : q_W), q_ok n B w → q_lst n w → q_lst n (q_run κ n fu ln k w)
  | 0, w, _, h => h
  | k + 1, w, ho, h => by
    by_cases hg : 0 < w.2.2.1 ∧ w.2.2.2.1 < n
    · rw [q_run_go hg]
      refine q_lst_run k _ (q_ok_st ho hg.1 hg.2) ?_
      unfold q_st
      split
      · intro _
        exact ⟨_, rfl, q_nx_lt ho.1⟩
      · exact h
    · rw [q_run_stop hg]
      exact h
def q_R (T T' : x_T) (β : Nat → Nat) (l : Option Nat) (s : Nat) : Prop := T'.1 = T.1 ∧ T'.2.1 = (fun i => nI (β i)) ∧ T'.2.2.1 = T.2.2.1 ∧ (∀ i, i ≠ 6 → i ≠ 7 → T'.2.2.2 i = T.2.2.2 i) ∧ T'.2.2.2 6 = q_lI l ∧ T'.2.2.2 7 = nI s
theorem nI_m1 {h : Nat} (h0 : 0 < h) : nI h + Int32.ofInt (-1) = nI (h - 1) := by
  obtain ⟨m, rfl⟩ : ∃ m, h = m + 1 := ⟨h - 1, by omega⟩
  rw [show Int32.ofInt (-1) = -1 from by decide, pk_m1]
  rfl
section SOW
variable {E : x_E} {z : Nat} {f : x_H} {t : Nat} {T : x_T} {post : Option Value → x_H → Prop} {n fu ln b s0 : Nat} {κ β : Nat → Nat} {l : Option Nat}
theorem w_sowL (hn : T.2.2.2 0 = nI n) (hn9 : n ≤ 9) (hfu : T.2.2.2 1 = nI fu) (hfu9 : fu < 2 ^ 20) (hln : T.2.2.2 2 = nI ln) (hln9 : ln < 2 ^ 31) (hκ : T.1 = fun i => nI (κ i)) (hκ5 : ∀ i, κ i ≤ 5) (hb : b < n) (hs0 : s0 ≤ 1000000) (wf : q_W)
    (K : ∀ (i : Nat) (g : x_H) (Tg : x_T), x_t z g t Tg → q_R T Tg wf.1 wf.2.2.2.2.2 (s0 + wf.2.2.2.2.1) → x_fr (x_ot t) f g → X E (x_rm 3 0 0) mX3_sowHand (x_QM E z 0 0 post) 109 [(6, .int (nI i)), (4, .int (nI wf.2.2.2.1)), (5, .int (nI wf.2.1)), (2, .int (nI wf.2.2.1)), (3, .int (nI s0)), (0, .ref t), (1, .int (nI b))] [] z g 0 0) :
    ∀ (k i : Nat) (w : q_W) (g : x_H) (Tg : x_T), q_ms n w ≤ k → i + k ≤ 1000 → q_ok n 100 w → q_run κ n fu ln k w = wf → x_t z g t Tg → q_R T Tg w.1 w.2.2.2.2.2 (s0 + w.2.2.2.2.1) → x_fr (x_ot t) f g → X E (x_rm 3 0 0) mX3_sowHand (x_QM E z 0 0 post) 26 [(6, .int (nI i)), (4, .int (nI w.2.2.2.1)), (5, .int (nI w.2.1)), (2, .int (nI w.2.2.1)), (3, .int (nI s0)), (0, .ref t), (1, .int (nI b))] [] z g 0 0 := by
  intro k
  induction k with
  | zero =>
    intro i w g Tg hk hi ho hw hT hR hF
    have hw0 : w = wf := hw
    subst hw0
    have h0 := q_msN (Nat.le_zero.mp hk) (by omega)
    by_cases d1 : 1000 ≤ i
    ·
      refine x_iload (pc' := 28) rfl rfl rfl ?_
      refine x_sipush (pc' := 31) rfl rfl sipush_1000 ?_
      refine x_icmp_ge (tgt := 109) (pc' := 34) rfl rfl rfl (fun _ => ?_) (fun c31 => absurd (nI_le (a := 1000) (b := i) d1 (by omega)) c31)
      exact K i g Tg hT hR hF
    ·
      refine x_iload (pc' := 28) rfl rfl rfl ?_
      refine x_sipush (pc' := 31) rfl rfl sipush_1000 ?_
      refine x_icmp_ge (tgt := 109) (pc' := 34) rfl rfl rfl (fun c31 => absurd c31 (nI_ge (a := i) (b := 1000) (by omega) (by decide))) (fun _ => ?_)
      refine x_iload_n (pc' := 35) rfl rfl rfl ?_
      refine x_if_le (tgt := 109) (pc' := 38) rfl rfl rfl (fun _ => ?_) (fun c35 => absurd ((by rw [h0]; decide)) c35)
      exact K i g Tg hT hR hF
  | succ k ih =>
    intro i w g Tg hk hi ho hw hT hR hF
    obtain ⟨o1, o2, o3, o4, o5⟩ := id ho
    obtain ⟨r1, r2, r3, r4, r5, r6⟩ := id hR
    have hn' : Tg.2.2.2 0 = nI n := (r4 0 (by decide) (by decide)).trans hn
    have hfu' : Tg.2.2.2 1 = nI fu := (r4 1 (by decide) (by decide)).trans hfu
    have hln' : Tg.2.2.2 2 = nI ln := (r4 2 (by decide) (by decide)).trans hln
    have hκ' : Tg.1 = fun i => nI (κ i) := r1.trans hκ
    have hp' := q_nx_lt (ln := ln) o1
    by_cases d2 : 0 < w.2.2.1
    · by_cases d3 : w.2.2.2.1 < n
      · have hgo : q_run κ n fu ln (k + 1) w = q_run κ n fu ln k (q_st κ n fu ln w) := q_run_go ⟨d2, d3⟩
        have hms := q_ms_st (κ := κ) (fu := fu) (ln := ln) d2 d3
        have hok := q_ok_st (κ := κ) (fu := fu) (ln := ln) ho d2 d3
        have hcl : (nI (q_nx n ln w.2.1)).toNatClampNeg = q_nx n ln w.2.1 := nI_clamp (by omega)
        refine x_iload (pc' := 28) rfl rfl rfl ?_
        refine x_sipush (pc' := 31) rfl rfl sipush_1000 ?_
        refine x_icmp_ge (tgt := 109) (pc' := 34) rfl rfl rfl (fun c31 => absurd c31 (nI_ge (a := i) (b := 1000) (by omega) (by decide))) (fun _ => ?_)
        refine x_iload_n (pc' := 35) rfl rfl rfl ?_
        refine x_if_le (tgt := 109) (pc' := 38) rfl rfl rfl (fun c35 => absurd c35 (Int32.not_le.mpr (nI_lt (a := 0) (b := w.2.2.1) d2 (by omega)))) (fun _ => ?_)
        refine x_iload (pc' := 40) rfl rfl rfl ?_
        refine x_aload_n (pc' := 41) rfl rfl rfl ?_
        refine x_get (pc' := 44) rfl rfl rfl (hT.1) rfl ?_
        refine x_eqi hn' ?_
        refine x_icmp_ge (tgt := 109) (pc' := 47) rfl rfl rfl (fun c44 => absurd c44 (nI_ge d3 (by omega))) (fun _ => ?_)
        refine x_aload_n (pc' := 48) rfl rfl rfl ?_
        refine x_iload (pc' := 50) rfl rfl rfl ?_
        refine x_cV1i (d := 1) (pc' := 53) rfl rfl sX3_83 gX3_rightOrLeftOf (hT.1) ⟨Nat.le_of_ble_eq_true rfl, Nat.le_of_ble_eq_true rfl⟩ (Nat.le_of_ble_eq_true rfl) ⟨Nat.le_of_ble_eq_true rfl, Nat.le_of_ble_eq_true rfl⟩ ?_
        refine w_nx hT hn' hn9 hln' hln9 o1 ⟨_, rfl, ?_⟩
        refine x_istore (pc' := 55) (lv' := [(5, _), (6, _), (4, _), (2, _), (3, _), (0, _), (1, _)]) rfl rfl (Nat.le_of_ble_eq_true rfl) rfl ?_
        refine x_aload_n (pc' := 56) rfl rfl rfl ?_
        refine x_iload (pc' := 58) rfl rfl rfl ?_
        refine x_cV1i (d := 2) (pc' := 61) rfl rfl sX3_86 gX3_takes (hT.1) ⟨Nat.le_of_ble_eq_true rfl, Nat.le_of_ble_eq_true rfl⟩ (Nat.le_of_ble_eq_true rfl) ⟨Nat.le_of_ble_eq_true rfl, Nat.le_of_ble_eq_true rfl⟩ ?_
        refine w_takes hT hn' hn9 hfu' (by omega) hκ' r2 hκ5 o2 hp' (fun d4 => ⟨_, rfl, ?_⟩) (fun d4 => ⟨_, rfl, ?_⟩)
        · have est : q_st κ n fu ln w = (q_up w.1 (q_nx n ln w.2.1) (w.1 (q_nx n ln w.2.1) + 1), q_nx n ln w.2.1, w.2.2.1 - 1, 0, w.2.2.2.2.1 + 1, some (q_nx n ln w.2.1)) := by unfold q_st; rw [if_pos d4]
          rw [hgo, est] at hw
          rw [est] at hms hok
          refine x_if_eq (tgt := 100) (pc' := 64) rfl rfl rfl (fun c61 => absurd c61 ((by decide))) (fun _ => ?_)
          refine x_aload_n (pc' := 65) rfl rfl rfl ?_
          refine x_get (pc' := 68) rfl rfl rfl (hT.1) rfl ?_
          refine x_iload (pc' := 70) rfl rfl rfl ?_
          refine x_dup2 (pc' := 71) rfl rfl rfl rfl ?_
          refine x_iaload (pc' := 72) rfl rfl (hT.2.2.1) (nI_in9 hn' hn9 hp') ?_
          refine x_eqi (show Tg.2.1 (nI (q_nx n ln w.2.1)).toNatClampNeg = nI (w.1 (q_nx n ln w.2.1)) from by rw [hcl, r2]) ?_
          refine x_iconst (pc' := 73) rfl rfl iconst_1 ?_
          refine x_iadd (pc' := 74) rfl rfl ?_
          refine x_eqi (nI_1 _) ?_
          refine x_iastore (pc' := 75) rfl rfl (hT.2.2.1) (nI_in9 hn' hn9 hp') (fun f1 e1 => ?_)
          have hT1 := hT.bean e1
          have hF1 := hF.up e1 (x_ot_in (by omega) (by omega))
          rw [hcl, r2, q_up_I] at hT1
          refine x_iinc (pc' := 78) (lv' := [(2, _), (5, _), (6, _), (4, _), (3, _), (0, _), (1, _)]) rfl rfl (Nat.le_of_ble_eq_true rfl) rfl (nI_m1 d2) rfl ?_
          refine x_aload_n (pc' := 79) rfl rfl rfl ?_
          refine x_dup (pc' := 80) rfl rfl rfl ?_
          refine x_get (pc' := 83) rfl rfl rfl (hT1.1) rfl ?_
          refine x_eqi r6 ?_
          refine x_iconst (pc' := 84) rfl rfl iconst_1 ?_
          refine x_iadd (pc' := 85) rfl rfl ?_
          refine x_eqi (nI_1 _) ?_
          refine x_put (pc' := 88) rfl rfl rfl (hT1.1) (Nat.le_of_ble_eq_true rfl) rfl rfl rfl rfl (fun f2 e2 => ?_)
          have hT2 := hT1.num 7 e2 (x_tFs7 _ _ _)
          have hF2 := hF1.up e2 (x_ot_in (by omega) (by omega))
          refine x_aload_n (pc' := 89) rfl rfl rfl ?_
          refine x_iload (pc' := 91) rfl rfl rfl ?_
          refine x_put (pc' := 94) rfl rfl rfl (hT2.1) (Nat.le_of_ble_eq_true rfl) rfl rfl rfl rfl (fun f3 e3 => ?_)
          have hT3 := hT2.num 6 e3 (x_tFs6 _ _ _)
          have hF3 := hF2.up e3 (x_ot_in (by omega) (by omega))
          refine x_iconst (pc' := 95) rfl rfl iconst_0 ?_
          refine x_istore (pc' := 97) (lv' := [(4, _), (2, _), (5, _), (6, _), (3, _), (0, _), (1, _)]) rfl rfl (Nat.le_of_ble_eq_true rfl) rfl ?_
          refine x_goto (tgt := 103) rfl rfl ?_
          refine x_iinc (pc' := 106) (lv' := [(6, _), (4, _), (2, _), (5, _), (3, _), (0, _), (1, _)]) rfl rfl (Nat.le_of_ble_eq_true rfl) rfl (nI_1 i) rfl ?_
          refine x_goto (tgt := 26) rfl rfl ?_
          refine x_lvp [0, 1, 3, 2, 4, 5, 6] rfl ?_
          refine ih (i + 1) _ _ _ (by omega) (by omega) hok hw hT3 ⟨r1, rfl, r3, fun j h6 h7 => ?_, rfl, rfl⟩ hF3
          show upd (upd Tg.2.2.2 7 _) 6 _ j = _
          rw [pk_un h6, pk_un h7]
          exact r4 j h6 h7
        · have est : q_st κ n fu ln w = (w.1, q_nx n ln w.2.1, w.2.2.1, w.2.2.2.1 + 1, w.2.2.2.2.1, w.2.2.2.2.2) := by unfold q_st; rw [if_neg d4]
          rw [hgo, est] at hw
          rw [est] at hms hok
          refine x_if_eq (tgt := 100) (pc' := 64) rfl rfl rfl (fun _ => ?_) (fun c61 => absurd ((by decide)) c61)
          refine x_iinc (pc' := 103) (lv' := [(4, _), (5, _), (6, _), (2, _), (3, _), (0, _), (1, _)]) rfl rfl (Nat.le_of_ble_eq_true rfl) rfl (nI_1 _) rfl ?_
          refine x_iinc (pc' := 106) (lv' := [(6, _), (4, _), (5, _), (2, _), (3, _), (0, _), (1, _)]) rfl rfl (Nat.le_of_ble_eq_true rfl) rfl (nI_1 i) rfl ?_
          refine x_goto (tgt := 26) rfl rfl ?_
          refine x_lvp [0, 1, 2, 3, 4, 5, 6] rfl ?_
          exact ih (i + 1) _ _ _ (by omega) (by omega) hok hw hT hR hF
      · have hst : q_run κ n fu ln (k + 1) w = w := q_run_stop (fun q => d3 q.2)
        rw [hst] at hw
        subst hw
        refine x_iload (pc' := 28) rfl rfl rfl ?_
        refine x_sipush (pc' := 31) rfl rfl sipush_1000 ?_
        refine x_icmp_ge (tgt := 109) (pc' := 34) rfl rfl rfl (fun c31 => absurd c31 (nI_ge (a := i) (b := 1000) (by omega) (by decide))) (fun _ => ?_)
        refine x_iload_n (pc' := 35) rfl rfl rfl ?_
        refine x_if_le (tgt := 109) (pc' := 38) rfl rfl rfl (fun c35 => absurd c35 (Int32.not_le.mpr (nI_lt (a := 0) (b := w.2.2.1) d2 (by omega)))) (fun _ => ?_)
        refine x_iload (pc' := 40) rfl rfl rfl ?_
        refine x_aload_n (pc' := 41) rfl rfl rfl ?_
        refine x_get (pc' := 44) rfl rfl rfl (hT.1) rfl ?_
        refine x_eqi hn' ?_
        refine x_icmp_ge (tgt := 109) (pc' := 47) rfl rfl rfl (fun _ => ?_) (fun c44 => absurd (nI_le (by omega) (by omega)) c44)
        exact K i g Tg hT hR hF
    · have hst : q_run κ n fu ln (k + 1) w = w := q_run_stop (fun q => d2 q.1)
      rw [hst] at hw
      subst hw
      have h0 : w.2.2.1 = 0 := by omega
      refine x_iload (pc' := 28) rfl rfl rfl ?_
      refine x_sipush (pc' := 31) rfl rfl sipush_1000 ?_
      refine x_icmp_ge (tgt := 109) (pc' := 34) rfl rfl rfl (fun c31 => absurd c31 (nI_ge (a := i) (b := 1000) (by omega) (by decide))) (fun _ => ?_)
      refine x_iload_n (pc' := 35) rfl rfl rfl ?_
      refine x_if_le (tgt := 109) (pc' := 38) rfl rfl rfl (fun _ => ?_) (fun c35 => absurd ((by rw [h0]; decide)) c35)
      exact K i g Tg hT hR hF
theorem w_sowHand (hT : x_t z f t T) (hn : T.2.2.2 0 = nI n) (hn9 : n ≤ 9) (hfu : T.2.2.2 1 = nI fu) (hfu9 : fu < 2 ^ 20) (hln : T.2.2.2 2 = nI ln) (hln9 : ln < 2 ^ 31) (hκ : T.1 = fun i => nI (κ i)) (hκ5 : ∀ i, κ i ≤ 5) (hβ : T.2.1 = fun i => nI (β i)) (hβ5 : ∀ i, β i ≤ 100) (hb : b < n) (hl : T.2.2.2 6 = q_lI l) (hl5 : ∀ p, l = some p → p < n) (h7 : T.2.2.2 7 = nI s0) (hs0 : s0 ≤ 1000000)
    (h : ∀ (f' : x_H) (T' : x_T), x_t z f' t T' → q_R T T' (q_hand κ n fu ln β b l).1 (q_hand κ n fu ln β b l).2.2 (s0 + (q_hand κ n fu ln β b l).2.1) → x_fr (x_ot t) f f' → post (some (.int (if 0 < (q_hand κ n fu ln β b l).2.1 then 1 else 0))) f') : Y E 3 mX3_sowHand [.ref t, .int (nI b)] z f 0 0 post := by
  refine Y.intro gX3_sowHand (lv := [(0, .ref t), (1, .int (nI b))]) rfl (Nat.le_of_ble_eq_true rfl) ?_
  have hcl : (nI b).toNatClampNeg = b := nI_clamp (by omega)
  have e1 : T.2.1 (nI b).toNatClampNeg = nI (β b) := by rw [hcl, hβ]
  have hb100 := hβ5 b
  have hok : q_ok n 100 (q_up β b 0, b, β b, 0, 0, l) := ⟨hb, q_up_le hβ5 (by omega), Nat.zero_le _, by show 0 + β b ≤ 100; omega, hl5⟩
  have hokf := q_ok_run (κ := κ) (fu := fu) (ln := ln) 1000 _ hok
  have hms : q_ms n (q_up β b 0, b, β b, 0, 0, l) ≤ 1000 := by
    show β b * n + (n - 0) ≤ 1000
    have := Nat.mul_le_mul hb100 hn9
    omega
  refine x_aload_n (pc' := 1) rfl rfl rfl ?_
  refine x_iload_n (pc' := 2) rfl rfl rfl ?_
  refine x_cV1i (d := 2) (pc' := 5) rfl rfl sX3_59 gX3_beansOf (hT.1) ⟨Nat.le_of_ble_eq_true rfl, Nat.le_of_ble_eq_true rfl⟩ (Nat.le_of_ble_eq_true rfl) ⟨Nat.le_of_ble_eq_true rfl, Nat.le_of_ble_eq_true rfl⟩ ?_
  refine w_beansOf hT (fun g => ⟨_, rfl, ?_⟩) (fun g => absurd (t_has_nI hn hn9 hb) g)
  refine x_eqi e1 ?_
  refine x_istore_n (pc' := 6) (lv' := [(2, _), (0, _), (1, _)]) rfl rfl (Nat.le_of_ble_eq_true rfl) rfl ?_
  refine x_aload_n (pc' := 7) rfl rfl rfl ?_
  refine x_get (pc' := 10) rfl rfl rfl (hT.1) rfl ?_
  refine x_eqi h7 ?_
  refine x_istore_n (pc' := 11) (lv' := [(3, _), (2, _), (0, _), (1, _)]) rfl rfl (Nat.le_of_ble_eq_true rfl) rfl ?_
  refine x_iconst (pc' := 12) rfl rfl iconst_0 ?_
  refine x_istore (pc' := 14) (lv' := [(4, _), (3, _), (2, _), (0, _), (1, _)]) rfl rfl (Nat.le_of_ble_eq_true rfl) rfl ?_
  refine x_iload_n (pc' := 15) rfl rfl rfl ?_
  refine x_istore (pc' := 17) (lv' := [(5, _), (4, _), (3, _), (2, _), (0, _), (1, _)]) rfl rfl (Nat.le_of_ble_eq_true rfl) rfl ?_
  refine x_aload_n (pc' := 18) rfl rfl rfl ?_
  refine x_iload_n (pc' := 19) rfl rfl rfl ?_
  refine x_iconst (pc' := 20) rfl rfl iconst_0 ?_
  refine x_cV2v (d := 2) (pc' := 23) rfl rfl sX3_63 gX3_lay (hT.1) ⟨Nat.le_of_ble_eq_true rfl, Nat.le_of_ble_eq_true rfl⟩ (Nat.le_of_ble_eq_true rfl) ⟨Nat.le_of_ble_eq_true rfl, Nat.le_of_ble_eq_true rfl⟩ ?_
  refine w_lay hT (fun _ f1 hT1 hF1 => ⟨rfl, ?_⟩) (fun g => absurd (t_has_nI hn hn9 hb) g)
  rw [hcl, hβ, show (0 : Int32) = nI 0 from by decide, q_up_I] at hT1
  refine x_iconst (pc' := 24) rfl rfl iconst_0 ?_
  refine x_istore (pc' := 26) (lv' := [(6, _), (5, _), (4, _), (3, _), (2, _), (0, _), (1, _)]) rfl rfl (Nat.le_of_ble_eq_true rfl) rfl ?_
  refine x_lvp [0, 2, 1, 4, 3, 5, 6] rfl ?_
  refine w_sowL (T := T) (f := f) hn hn9 hfu hfu9 hln hln9 hκ hκ5 hb hs0 (q_run κ n fu ln 1000 (q_up β b 0, b, β b, 0, 0, l)) ?_ 1000 0 (q_up β b 0, b, β b, 0, 0, l) f1 _ hms (by omega) hok rfl hT1 ⟨rfl, rfl, rfl, fun _ _ _ => rfl, hl, h7⟩ hF1
  intro i g Tg hTg hRg hFg
  obtain ⟨o1, o2, o3, o4, o5⟩ := hokf
  obtain ⟨r1, r2, r3, r4, r5, r6⟩ := id hRg
  have hn' : Tg.2.2.2 0 = nI n := (r4 0 (by decide) (by decide)).trans hn
  generalize hwf : q_run κ n fu ln 1000 (q_up β b 0, b, β b, 0, 0, l) = wf at *
  have eh : q_hand κ n fu ln β b l = (q_up wf.1 b (wf.1 b + wf.2.2.1), wf.2.2.2.2.1, wf.2.2.2.2.2) := by unfold q_hand; rw [hwf]
  rw [eh] at h
  refine x_aload_n (pc' := 110) rfl rfl rfl ?_
  refine x_iload_n (pc' := 111) rfl rfl rfl ?_
  refine x_aload_n (pc' := 112) rfl rfl rfl ?_
  refine x_iload_n (pc' := 113) rfl rfl rfl ?_
  refine x_cV1i (d := 2) (pc' := 116) rfl rfl sX3_59 gX3_beansOf (hTg.1) ⟨Nat.le_of_ble_eq_true rfl, Nat.le_of_ble_eq_true rfl⟩ (Nat.le_of_ble_eq_true rfl) ⟨Nat.le_of_ble_eq_true rfl, Nat.le_of_ble_eq_true rfl⟩ ?_
  refine w_beansOf hTg (fun g => ⟨_, rfl, ?_⟩) (fun g => absurd (t_has_nI hn' hn9 hb) g)
  refine x_eqi (show Tg.2.1 (nI b).toNatClampNeg = nI (wf.1 b) from by rw [hcl, r2]) ?_
  refine x_iload_n (pc' := 117) rfl rfl rfl ?_
  refine x_iadd (pc' := 118) rfl rfl ?_
  refine x_eqi (nI_add _ _) ?_
  refine x_cV2v (d := 2) (pc' := 121) rfl rfl sX3_63 gX3_lay (hTg.1) ⟨Nat.le_of_ble_eq_true rfl, Nat.le_of_ble_eq_true rfl⟩ (Nat.le_of_ble_eq_true rfl) ⟨Nat.le_of_ble_eq_true rfl, Nat.le_of_ble_eq_true rfl⟩ ?_
  refine w_lay hTg (fun _ f2 hT2 hF2 => ⟨rfl, ?_⟩) (fun g => absurd (t_has_nI hn' hn9 hb) g)
  rw [hcl, r2, q_up_I] at hT2
  refine x_aload_n (pc' := 122) rfl rfl rfl ?_
  refine x_get (pc' := 125) rfl rfl rfl (hT2.1) rfl ?_
  refine x_eqi (show Tg.2.2.2 7 = nI (s0 + wf.2.2.2.2.1) from r6) ?_
  refine x_iload_n (pc' := 126) rfl rfl rfl ?_
  by_cases d1 : 0 < wf.2.2.2.2.1
  · have h2 := h f2 _ hT2 ⟨r1, rfl, r3, r4, r5, r6⟩ (hFg.trans hF2)
    rw [if_pos d1] at h2
    refine x_icmp_le (tgt := 133) (pc' := 129) rfl rfl rfl (fun q => absurd q (nI_ge (by omega) (by omega))) (fun _ => ?_)
    refine x_iconst (pc' := 130) rfl rfl iconst_1 ?_
    refine x_goto (tgt := 134) rfl rfl ?_
    exact x_ireturn rfl rfl rfl (Nat.le_of_ble_eq_true rfl) (Nat.le_of_ble_eq_true rfl) (h2)
  · have h2 := h f2 _ hT2 ⟨r1, rfl, r3, r4, r5, r6⟩ (hFg.trans hF2)
    rw [if_neg d1] at h2
    refine x_icmp_le (tgt := 133) (pc' := 129) rfl rfl rfl (fun _ => ?_) (fun q => absurd (nI_le (by omega) (by omega)) q)
    refine x_iconst (pc' := 134) rfl rfl iconst_0 ?_
    exact x_ireturn rfl rfl rfl (Nat.le_of_ble_eq_true rfl) (Nat.le_of_ble_eq_true rfl) (h2)
end SOW
end
section
-- == 33.msow
/-! The reference sows. -/
theorem q_rem1 {p n : Nat} (hp : p < n) : (p + 1) % n = if n ≤ p + 1 then 0 else p + 1 := by
  by_cases h : n ≤ p + 1
  · rw [if_pos h, show p + 1 = n by omega, Nat.mod_self]
  · rw [if_neg h, Nat.mod_eq_of_lt (by omega)]
theorem q_rem2 {p n : Nat} (hp : p < n) : (p + n - 1) % n = if p = 0 then n - 1 else p - 1 := by
  by_cases h : p = 0
  · subst h
    rw [if_pos rfl, show 0 + n - 1 = n - 1 by omega, Nat.mod_eq_of_lt (by omega)]
  · rw [if_neg h, show p + n - 1 = (p - 1) + n by omega, Nat.add_mod_right, Nat.mod_eq_of_lt (by omega)]
/-- beans and last are new, hands and sown count on, all else stays -/
def q_N (M M' : x_N) (β : Nat → Nat) (l : Option Nat) : Prop := M'.2.1 1 = (fun i => nI (β i)) ∧ (∀ j, j ≠ 1 → M'.2.1 j = M.2.1 j) ∧ M'.2.2 = M.2.2 ∧ (∀ i, i ≠ 14 → i ≠ 15 → i ≠ 16 → M'.1 i = M.1 i) ∧ M'.1 15 = q_lI l
section MSOW
variable {E : x_E} {z : Nat} {f : x_H} {M : x_N} {post : Option Value → x_H → Prop} {n fu ln b : Nat} {κ β : Nat → Nat} {l : Option Nat}
theorem m_sounds1 {k : Nat} (hM : x_Mdl z f M) (hfu : M.1 4 = nI fu) (hfu9 : fu < 2 ^ 20) (hk : k ≤ 5) (h : post (some (.int (if k = 2 then 1000 else nI (q_from k fu)))) f) : Y E 1 mX6_soundsFrom [.ref 59, .int (nI k)] z f 0 0 post := by
  refine Y.intro gX6_soundsFrom (lv := [(0, .ref 59), (1, .int (nI k))]) rfl (Nat.le_of_ble_eq_true rfl) ?_
  have hh : nI fu + 1 = nI (fu + 1) := nI_1 fu
  have hd : nI (fu + 1) / 2 = nI ((fu + 1) / 2) := pk_div (a := fu + 1) (d := 2) (by omega) (by decide) (by decide)
  have hm : (2 : Int32) * nI fu = nI (2 * fu) := pk_mul 2 fu
  have hk6 : k = 0 ∨ k = 1 ∨ k = 2 ∨ k = 3 ∨ k = 4 ∨ k = 5 := by omega
  rcases hk6 with rfl | rfl | rfl | rfl | rfl | rfl
  ·
    refine x_iload_n (pc' := 1) rfl rfl rfl ?_
    refine x_iconst (pc' := 2) rfl rfl iconst_2 ?_
    refine x_icmp_ne (tgt := 9) (pc' := 5) rfl rfl rfl (fun _ => ?_) (fun c2 => absurd c2 ((by decide)))
    refine x_iload_n (pc' := 10) rfl rfl rfl ?_
    refine x_if_ne (tgt := 18) (pc' := 13) rfl rfl rfl (fun c10 => absurd (rfl) c10) (fun _ => ?_)
    refine x_aload_n (pc' := 14) rfl rfl rfl ?_
    refine x_get (pc' := 17) rfl rfl rfl (hM.1) rfl ?_
    refine x_eqi hfu ?_
    exact x_ireturn rfl rfl rfl (Nat.le_of_ble_eq_true rfl) (Nat.le_of_ble_eq_true rfl) (h)
  ·
    refine x_iload_n (pc' := 1) rfl rfl rfl ?_
    refine x_iconst (pc' := 2) rfl rfl iconst_2 ?_
    refine x_icmp_ne (tgt := 9) (pc' := 5) rfl rfl rfl (fun _ => ?_) (fun c2 => absurd c2 ((by decide)))
    refine x_iload_n (pc' := 10) rfl rfl rfl ?_
    refine x_if_ne (tgt := 18) (pc' := 13) rfl rfl rfl (fun _ => ?_) (fun c10 => absurd c10 ((by decide)))
    refine x_iload_n (pc' := 19) rfl rfl rfl ?_
    refine x_iconst (pc' := 20) rfl rfl iconst_3 ?_
    refine x_icmp_ne (tgt := 32) (pc' := 23) rfl rfl rfl (fun _ => ?_) (fun c20 => absurd c20 ((by decide)))
    refine x_iload_n (pc' := 33) rfl rfl rfl ?_
    refine x_iconst (pc' := 34) rfl rfl iconst_5 ?_
    refine x_icmp_ne (tgt := 42) (pc' := 37) rfl rfl rfl (fun _ => ?_) (fun c34 => absurd c34 ((by decide)))
    refine x_aload_n (pc' := 43) rfl rfl rfl ?_
    refine x_get (pc' := 46) rfl rfl rfl (hM.1) rfl ?_
    refine x_eqi hfu ?_
    refine x_iconst (pc' := 47) rfl rfl iconst_1 ?_
    refine x_iadd (pc' := 48) rfl rfl ?_
    refine x_eqi hh ?_
    refine x_iconst (pc' := 49) rfl rfl iconst_2 ?_
    refine x_idiv (pc' := 50) rfl rfl (by decide) ?_
    refine x_eqi hd ?_
    exact x_ireturn rfl rfl rfl (Nat.le_refl _) (Nat.le_refl _) h
  ·
    refine x_iload_n (pc' := 1) rfl rfl rfl ?_
    refine x_iconst (pc' := 2) rfl rfl iconst_2 ?_
    refine x_icmp_ne (tgt := 9) (pc' := 5) rfl rfl rfl (fun c2 => absurd (rfl) c2) (fun _ => ?_)
    refine x_sipush (pc' := 8) rfl rfl sipush_1000 ?_
    exact x_ireturn rfl rfl rfl (Nat.le_of_ble_eq_true rfl) (Nat.le_of_ble_eq_true rfl) (h)
  ·
    refine x_iload_n (pc' := 1) rfl rfl rfl ?_
    refine x_iconst (pc' := 2) rfl rfl iconst_2 ?_
    refine x_icmp_ne (tgt := 9) (pc' := 5) rfl rfl rfl (fun _ => ?_) (fun c2 => absurd c2 ((by decide)))
    refine x_iload_n (pc' := 10) rfl rfl rfl ?_
    refine x_if_ne (tgt := 18) (pc' := 13) rfl rfl rfl (fun _ => ?_) (fun c10 => absurd c10 ((by decide)))
    refine x_iload_n (pc' := 19) rfl rfl rfl ?_
    refine x_iconst (pc' := 20) rfl rfl iconst_3 ?_
    refine x_icmp_ne (tgt := 32) (pc' := 23) rfl rfl rfl (fun c20 => absurd (rfl) c20) (fun _ => ?_)
    refine x_iconst (pc' := 24) rfl rfl iconst_2 ?_
    refine x_aload_n (pc' := 25) rfl rfl rfl ?_
    refine x_get (pc' := 28) rfl rfl rfl (hM.1) rfl ?_
    refine x_eqi hfu ?_
    refine x_imul (pc' := 29) rfl rfl ?_
    refine x_eqi hm ?_
    refine x_goto (tgt := 50) rfl rfl ?_
    exact x_ireturn rfl rfl rfl (Nat.le_of_ble_eq_true rfl) (Nat.le_of_ble_eq_true rfl) (h)
  ·
    refine x_iload_n (pc' := 1) rfl rfl rfl ?_
    refine x_iconst (pc' := 2) rfl rfl iconst_2 ?_
    refine x_icmp_ne (tgt := 9) (pc' := 5) rfl rfl rfl (fun _ => ?_) (fun c2 => absurd c2 ((by decide)))
    refine x_iload_n (pc' := 10) rfl rfl rfl ?_
    refine x_if_ne (tgt := 18) (pc' := 13) rfl rfl rfl (fun _ => ?_) (fun c10 => absurd c10 ((by decide)))
    refine x_iload_n (pc' := 19) rfl rfl rfl ?_
    refine x_iconst (pc' := 20) rfl rfl iconst_3 ?_
    refine x_icmp_ne (tgt := 32) (pc' := 23) rfl rfl rfl (fun _ => ?_) (fun c20 => absurd c20 ((by decide)))
    refine x_iload_n (pc' := 33) rfl rfl rfl ?_
    refine x_iconst (pc' := 34) rfl rfl iconst_5 ?_
    refine x_icmp_ne (tgt := 42) (pc' := 37) rfl rfl rfl (fun _ => ?_) (fun c34 => absurd c34 ((by decide)))
    refine x_aload_n (pc' := 43) rfl rfl rfl ?_
    refine x_get (pc' := 46) rfl rfl rfl (hM.1) rfl ?_
    refine x_eqi hfu ?_
    refine x_iconst (pc' := 47) rfl rfl iconst_1 ?_
    refine x_iadd (pc' := 48) rfl rfl ?_
    refine x_eqi hh ?_
    refine x_iconst (pc' := 49) rfl rfl iconst_2 ?_
    refine x_idiv (pc' := 50) rfl rfl (by decide) ?_
    refine x_eqi hd ?_
    exact x_ireturn rfl rfl rfl (Nat.le_refl _) (Nat.le_refl _) h
  ·
    refine x_iload_n (pc' := 1) rfl rfl rfl ?_
    refine x_iconst (pc' := 2) rfl rfl iconst_2 ?_
    refine x_icmp_ne (tgt := 9) (pc' := 5) rfl rfl rfl (fun _ => ?_) (fun c2 => absurd c2 ((by decide)))
    refine x_iload_n (pc' := 10) rfl rfl rfl ?_
    refine x_if_ne (tgt := 18) (pc' := 13) rfl rfl rfl (fun _ => ?_) (fun c10 => absurd c10 ((by decide)))
    refine x_iload_n (pc' := 19) rfl rfl rfl ?_
    refine x_iconst (pc' := 20) rfl rfl iconst_3 ?_
    refine x_icmp_ne (tgt := 32) (pc' := 23) rfl rfl rfl (fun _ => ?_) (fun c20 => absurd c20 ((by decide)))
    refine x_iload_n (pc' := 33) rfl rfl rfl ?_
    refine x_iconst (pc' := 34) rfl rfl iconst_5 ?_
    refine x_icmp_ne (tgt := 42) (pc' := 37) rfl rfl rfl (fun c34 => absurd (rfl) c34) (fun _ => ?_)
    refine x_bipush (pc' := 39) rfl rfl bipush_12 ?_
    refine x_goto (tgt := 50) rfl rfl ?_
    exact x_ireturn rfl rfl rfl (Nat.le_of_ble_eq_true rfl) (Nat.le_of_ble_eq_true rfl) (h)
theorem m_takes {i : Nat} (hM : x_Mdl z f M) (hn9 : n ≤ 9) (hfu : M.1 4 = nI fu) (hfu9 : fu < 2 ^ 31) (hκ : M.2.1 0 = fun i => nI (κ i)) (hβ : M.2.1 1 = fun i => nI (β i)) (hκ5 : ∀ i, κ i ≤ 5) (hβ5 : ∀ i, β i ≤ 100) (hi : i < n) (h1 : q_tk κ β fu i → post (some (.int 1)) f) (h0 : ¬ q_tk κ β fu i → post (some (.int 0)) f) : Y E 1 mX6_takes [.ref 59, .int (nI i)] z f 0 0 post := by
  refine Y.intro gX6_takes (lv := [(0, .ref 59), (1, .int (nI i))]) rfl (Nat.le_of_ble_eq_true rfl) ?_
  have hcl : (nI i).toNatClampNeg = i := nI_clamp (by omega)
  have e1 : M.2.1 1 (nI i).toNatClampNeg = nI (β i) := by rw [hcl, hβ]
  have e2 : M.2.1 0 (nI i).toNatClampNeg = nI (κ i) := by rw [hcl, hκ]
  have b1 := hβ5 i
  have b2 := hκ5 i
  have hv : vp_in (nI i) 9 := vp_in_nI (by omega) (by decide)
  refine x_aload_n (pc' := 1) rfl rfl rfl ?_
  refine x_get (pc' := 4) rfl rfl rfl (hM.1) rfl ?_
  refine x_iload_n (pc' := 5) rfl rfl rfl ?_
  refine x_iaload (pc' := 6) rfl rfl (hM.2.1 1 (by decide)) (hv) ?_
  refine x_eqi e1 ?_
  refine x_bipush (pc' := 8) rfl rfl bipush_99 ?_
  by_cases d1 : β i < 99
  · refine x_icmp_ge (tgt := 38) (pc' := 11) rfl rfl rfl (fun q => absurd q (nI_ge (b := 99) d1 (by decide))) (fun _ => ?_)
    refine x_aload_n (pc' := 12) rfl rfl rfl ?_
    refine x_get (pc' := 15) rfl rfl rfl (hM.1) rfl ?_
    refine x_iload_n (pc' := 16) rfl rfl rfl ?_
    refine x_iaload (pc' := 17) rfl rfl (hM.2.1 0 (by decide)) (hv) ?_
    refine x_eqi e2 ?_
    refine x_iconst (pc' := 18) rfl rfl iconst_4 ?_
    by_cases d2 : κ i = 4
    · refine x_icmp_ne (tgt := 34) (pc' := 21) rfl rfl rfl (fun q => absurd (show nI (κ i) = 4 by rw [d2]; decide) q) (fun _ => ?_)
      refine x_aload_n (pc' := 22) rfl rfl rfl ?_
      refine x_get (pc' := 25) rfl rfl rfl (hM.1) rfl ?_
      refine x_iload_n (pc' := 26) rfl rfl rfl ?_
      refine x_iaload (pc' := 27) rfl rfl (hM.2.1 1 (by decide)) (hv) ?_
      refine x_eqi e1 ?_
      refine x_aload_n (pc' := 28) rfl rfl rfl ?_
      refine x_get (pc' := 31) rfl rfl rfl (hM.1) rfl ?_
      refine x_eqi hfu ?_
      by_cases d3 : β i < fu
      · refine x_icmp_ge (tgt := 38) (pc' := 34) rfl rfl rfl (fun q => absurd q (nI_ge d3 hfu9)) (fun _ => ?_)
        refine x_iconst (pc' := 35) rfl rfl iconst_1 ?_
        refine x_goto (tgt := 39) rfl rfl ?_
        exact x_ireturn rfl rfl rfl (Nat.le_of_ble_eq_true rfl) (Nat.le_of_ble_eq_true rfl) (h1 ⟨d1, fun _ => d3⟩)
      · refine x_icmp_ge (tgt := 38) (pc' := 34) rfl rfl rfl (fun _ => ?_) (fun q => absurd (nI_le (a := fu) (b := β i) (by omega) (by omega)) q)
        refine x_iconst (pc' := 39) rfl rfl iconst_0 ?_
        exact x_ireturn rfl rfl rfl (Nat.le_of_ble_eq_true rfl) (Nat.le_of_ble_eq_true rfl) (h0 (fun q => d3 (q.2 d2)))
    · refine x_icmp_ne (tgt := 34) (pc' := 21) rfl rfl rfl (fun _ => ?_) (fun q => absurd ((nI_eq (a := κ i) (b := 4) (by omega) (by decide)).mp q) d2)
      refine x_iconst (pc' := 35) rfl rfl iconst_1 ?_
      refine x_goto (tgt := 39) rfl rfl ?_
      exact x_ireturn rfl rfl rfl (Nat.le_of_ble_eq_true rfl) (Nat.le_of_ble_eq_true rfl) (h1 ⟨d1, fun q => absurd q d2⟩)
  · refine x_icmp_ge (tgt := 38) (pc' := 11) rfl rfl rfl (fun _ => ?_) (fun q => absurd (nI_le (a := 99) (b := β i) (by omega) (by omega)) q)
    refine x_iconst (pc' := 39) rfl rfl iconst_0 ?_
    exact x_ireturn rfl rfl rfl (Nat.le_of_ble_eq_true rfl) (Nat.le_of_ble_eq_true rfl) (h0 (fun q => d1 q.1))
theorem m_beside {p : Nat} (hM : x_Mdl z f M) (hn : M.1 3 = nI n) (hn9 : n ≤ 9) (hln : M.1 5 = nI ln) (hln1 : ln < 2 ^ 31) (hp : p < n) (h : post (some (.int (nI (q_nx n ln p)))) f) : Y E 1 mX6_beside [.ref 59, .int (nI p)] z f 0 0 post := by
  refine Y.intro gX6_beside (lv := [(0, .ref 59), (1, .int (nI p))]) rfl (Nat.le_of_ble_eq_true rfl) ?_
  have hnz : ¬ nI n = 0 := nI_ne0 (by omega) (by omega)
  by_cases d1 : ln = 1
  · have e : q_nx n ln p = (p + n - 1) % n := by unfold q_nx; rw [if_pos d1, q_rem2 hp]
    rw [e] at h
    refine x_aload_n (pc' := 1) rfl rfl rfl ?_
    refine x_get (pc' := 4) rfl rfl rfl (hM.1) rfl ?_
    refine x_eqi hln ?_
    refine x_iconst (pc' := 5) rfl rfl iconst_1 ?_
    refine x_icmp_ne (tgt := 24) (pc' := 8) rfl rfl rfl (fun c5 => absurd ((by rw [d1]; rfl)) c5) (fun _ => ?_)
    refine x_iload_n (pc' := 9) rfl rfl rfl ?_
    refine x_aload_n (pc' := 10) rfl rfl rfl ?_
    refine x_get (pc' := 13) rfl rfl rfl (hM.1) rfl ?_
    refine x_eqi hn ?_
    refine x_iadd (pc' := 14) rfl rfl ?_
    refine x_eqi (nI_add p n) ?_
    refine x_iconst (pc' := 15) rfl rfl iconst_1 ?_
    refine x_isub (pc' := 16) rfl rfl ?_
    refine x_eqi (show nI (p + n) - 1 = nI (p + n - 1) from pk_sub (a := p + n) (b := 1) (by omega)) ?_
    refine x_aload_n (pc' := 17) rfl rfl rfl ?_
    refine x_get (pc' := 20) rfl rfl rfl (hM.1) rfl ?_
    refine x_eqi hn ?_
    refine x_irem (pc' := 21) rfl rfl (hnz) ?_
    refine x_goto (tgt := 32) rfl rfl ?_
    refine x_eqi (pk_rem (a := p + n - 1) (d := n) (by omega) (by omega) (by omega)) ?_
    exact x_ireturn rfl rfl rfl (Nat.le_refl _) (Nat.le_refl _) h
  · have hne : ¬ nI ln = 1 := fun q => d1 ((nI_eq (a := ln) (b := 1) hln1 (by decide)).mp q)
    have e : q_nx n ln p = (p + 1) % n := by unfold q_nx; rw [if_neg d1, q_rem1 hp]
    rw [e] at h
    refine x_aload_n (pc' := 1) rfl rfl rfl ?_
    refine x_get (pc' := 4) rfl rfl rfl (hM.1) rfl ?_
    refine x_eqi hln ?_
    refine x_iconst (pc' := 5) rfl rfl iconst_1 ?_
    refine x_icmp_ne (tgt := 24) (pc' := 8) rfl rfl rfl (fun _ => ?_) (fun c5 => absurd c5 (hne))
    refine x_iload_n (pc' := 25) rfl rfl rfl ?_
    refine x_iconst (pc' := 26) rfl rfl iconst_1 ?_
    refine x_iadd (pc' := 27) rfl rfl ?_
    refine x_eqi (nI_1 p) ?_
    refine x_aload_n (pc' := 28) rfl rfl rfl ?_
    refine x_get (pc' := 31) rfl rfl rfl (hM.1) rfl ?_
    refine x_eqi hn ?_
    refine x_irem (pc' := 32) rfl rfl (hnz) ?_
    refine x_eqi (pk_rem (a := p + 1) (d := n) (by omega) (by omega) (by omega)) ?_
    exact x_ireturn rfl rfl rfl (Nat.le_refl _) (Nat.le_refl _) h
theorem m_sowL (hn : M.1 3 = nI n) (hn9 : n ≤ 9) (hfu : M.1 4 = nI fu) (hfu9 : fu < 2 ^ 20) (hln : M.1 5 = nI ln) (hln9 : ln < 2 ^ 31) (hκ : M.2.1 0 = fun i => nI (κ i)) (hκ5 : ∀ i, κ i ≤ 5) (hb : b < n) (wf : q_W)
    (K : ∀ (g : x_H) (Mg : x_N), x_Mdl z g Mg → q_N M Mg wf.1 wf.2.2.2.2.2 → Mg.1 14 = M.1 14 → Mg.1 16 = M.1 16 → x_fr (fun q => q < 59) f g → X E (x_rm 2 0 0) mX6_sowsHand (x_QM E z 0 0 post) 87 [(4, .int (nI wf.2.2.2.1)), (5, .int (nI wf.2.1)), (3, .int (nI wf.2.2.2.2.1)), (2, .int (nI wf.2.2.1)), (0, .ref 59), (1, .int (nI b))] [] z g 0 0) :
    ∀ (k : Nat) (w : q_W) (g : x_H) (Mg : x_N), q_ms n w ≤ k → q_ok n 100 w → q_run κ n fu ln k w = wf → x_Mdl z g Mg → q_N M Mg w.1 w.2.2.2.2.2 → Mg.1 14 = M.1 14 → Mg.1 16 = M.1 16 → x_fr (fun q => q < 59) f g → X E (x_rm 2 0 0) mX6_sowsHand (x_QM E z 0 0 post) 22 [(4, .int (nI w.2.2.2.1)), (5, .int (nI w.2.1)), (3, .int (nI w.2.2.2.2.1)), (2, .int (nI w.2.2.1)), (0, .ref 59), (1, .int (nI b))] [] z g 0 0 := by
  intro k
  induction k with
  | zero =>
    intro w g Mg hk ho hw hM hN h14 h16 hF
    have hw0 : w = wf := hw
    subst hw0
    have h0 := q_msN (Nat.le_zero.mp hk) (by omega)
    refine x_iload_n (pc' := 23) rfl rfl rfl ?_
    refine x_if_le (tgt := 87) (pc' := 26) rfl rfl rfl (fun _ => ?_) (fun c23 => absurd ((by rw [h0]; decide)) c23)
    exact K g Mg hM hN h14 h16 hF
  | succ k ih =>
    intro w g Mg hk ho hw hM hN h14 h16 hF
    obtain ⟨o1, o2, o3, o4, o5⟩ := id ho
    obtain ⟨r1, r2, r3, r4, r5⟩ := id hN
    have hn' : Mg.1 3 = nI n := (r4 3 (by decide) (by decide) (by decide)).trans hn
    have hfu' : Mg.1 4 = nI fu := (r4 4 (by decide) (by decide) (by decide)).trans hfu
    have hln' : Mg.1 5 = nI ln := (r4 5 (by decide) (by decide) (by decide)).trans hln
    have hκ' : Mg.2.1 0 = fun i => nI (κ i) := (r2 0 (by decide)).trans hκ
    have hp' := q_nx_lt (ln := ln) o1
    by_cases d2 : 0 < w.2.2.1
    · by_cases d3 : w.2.2.2.1 < n
      · have hgo : q_run κ n fu ln (k + 1) w = q_run κ n fu ln k (q_st κ n fu ln w) := q_run_go ⟨d2, d3⟩
        have hms := q_ms_st (κ := κ) (fu := fu) (ln := ln) d2 d3
        have hok := q_ok_st (κ := κ) (fu := fu) (ln := ln) ho d2 d3
        have hcl : (nI (q_nx n ln w.2.1)).toNatClampNeg = q_nx n ln w.2.1 := nI_clamp (by omega)
        have hv : vp_in (nI (q_nx n ln w.2.1)) 9 := vp_in_nI (by omega) (by decide)
        refine x_iload_n (pc' := 23) rfl rfl rfl ?_
        refine x_if_le (tgt := 87) (pc' := 26) rfl rfl rfl (fun c23 => absurd c23 (Int32.not_le.mpr (nI_lt (a := 0) (b := w.2.2.1) d2 (by omega)))) (fun _ => ?_)
        refine x_iload (pc' := 28) rfl rfl rfl ?_
        refine x_aload_n (pc' := 29) rfl rfl rfl ?_
        refine x_get (pc' := 32) rfl rfl rfl (hM.1) rfl ?_
        refine x_eqi hn' ?_
        refine x_icmp_ge (tgt := 87) (pc' := 35) rfl rfl rfl (fun c32 => absurd c32 (nI_ge d3 (by omega))) (fun _ => ?_)
        refine x_aload_n (pc' := 36) rfl rfl rfl ?_
        refine x_iload (pc' := 38) rfl rfl rfl ?_
        refine x_cV1i (d := 1) (pc' := 41) rfl rfl sX6_70 gX6_beside (hM.1) ⟨Nat.le_of_ble_eq_true rfl, Nat.le_of_ble_eq_true rfl⟩ (Nat.le_of_ble_eq_true rfl) ⟨Nat.le_of_ble_eq_true rfl, Nat.le_of_ble_eq_true rfl⟩ ?_
        refine m_beside hM hn' hn9 hln' hln9 o1 ⟨_, rfl, ?_⟩
        refine x_istore (pc' := 43) (lv' := [(5, _), (4, _), (3, _), (2, _), (0, _), (1, _)]) rfl rfl (Nat.le_of_ble_eq_true rfl) rfl ?_
        refine x_aload_n (pc' := 44) rfl rfl rfl ?_
        refine x_iload (pc' := 46) rfl rfl rfl ?_
        refine x_cV1i (d := 1) (pc' := 49) rfl rfl sX6_74 gX6_takes (hM.1) ⟨Nat.le_of_ble_eq_true rfl, Nat.le_of_ble_eq_true rfl⟩ (Nat.le_of_ble_eq_true rfl) ⟨Nat.le_of_ble_eq_true rfl, Nat.le_of_ble_eq_true rfl⟩ ?_
        refine m_takes hM hn9 hfu' (by omega) hκ' r1 hκ5 o2 hp' (fun d4 => ⟨_, rfl, ?_⟩) (fun d4 => ⟨_, rfl, ?_⟩)
        · have est : q_st κ n fu ln w = (q_up w.1 (q_nx n ln w.2.1) (w.1 (q_nx n ln w.2.1) + 1), q_nx n ln w.2.1, w.2.2.1 - 1, 0, w.2.2.2.2.1 + 1, some (q_nx n ln w.2.1)) := by unfold q_st; rw [if_pos d4]
          rw [hgo, est] at hw
          rw [est] at hms hok
          refine x_if_eq (tgt := 81) (pc' := 52) rfl rfl rfl (fun c49 => absurd c49 ((by decide))) (fun _ => ?_)
          refine x_aload_n (pc' := 53) rfl rfl rfl ?_
          refine x_get (pc' := 56) rfl rfl rfl (hM.1) rfl ?_
          refine x_iload (pc' := 58) rfl rfl rfl ?_
          refine x_dup2 (pc' := 59) rfl rfl rfl rfl ?_
          refine x_iaload (pc' := 60) rfl rfl (hM.2.1 1 (by decide)) (hv) ?_
          refine x_eqi (show Mg.2.1 1 (nI (q_nx n ln w.2.1)).toNatClampNeg = nI (w.1 (q_nx n ln w.2.1)) from by rw [hcl, r1]) ?_
          refine x_iconst (pc' := 61) rfl rfl iconst_1 ?_
          refine x_iadd (pc' := 62) rfl rfl ?_
          refine x_eqi (nI_1 _) ?_
          refine x_iastore (pc' := 63) rfl rfl (hM.2.1 1 (by decide)) (hv) (fun f1 e1 => ?_)
          have hM1 := hM.arr 1 (by decide) e1
          have hF1 := hF.up e1 (by decide)
          rw [hcl, r1, q_up_I] at hM1
          refine x_iinc (pc' := 66) (lv' := [(2, _), (5, _), (4, _), (3, _), (0, _), (1, _)]) rfl rfl (Nat.le_of_ble_eq_true rfl) rfl (nI_m1 d2) rfl ?_
          refine x_iinc (pc' := 69) (lv' := [(3, _), (2, _), (5, _), (4, _), (0, _), (1, _)]) rfl rfl (Nat.le_of_ble_eq_true rfl) rfl (nI_1 _) rfl ?_
          refine x_iconst (pc' := 70) rfl rfl iconst_0 ?_
          refine x_istore (pc' := 72) (lv' := [(4, _), (3, _), (2, _), (5, _), (0, _), (1, _)]) rfl rfl (Nat.le_of_ble_eq_true rfl) rfl ?_
          refine x_aload_n (pc' := 73) rfl rfl rfl ?_
          refine x_iload (pc' := 75) rfl rfl rfl ?_
          refine x_put (pc' := 78) rfl rfl rfl (hM1.1) (Nat.le_of_ble_eq_true rfl) rfl rfl rfl rfl (fun f2 e2 => ?_)
          have hM2 := hM1.num 15 e2 (x_mFs15 _ _)
          have hF2 := hF1.up e2 (by decide)
          refine x_goto (tgt := 22) rfl rfl ?_
          refine x_lvp [0, 3, 1, 2, 4, 5] rfl ?_
          refine ih _ _ _ (by omega) hok hw hM2 ⟨rfl, fun j hj => ?_, r3, fun j g1 g2 g3 => ?_, rfl⟩ h14 h16 hF2
          · show x_ua Mg.2.1 1 _ j = _
            unfold x_ua
            rw [if_neg hj]
            exact r2 j hj
          · show upd Mg.1 15 _ j = _
            rw [pk_un g2]
            exact r4 j g1 g2 g3
        · have est : q_st κ n fu ln w = (w.1, q_nx n ln w.2.1, w.2.2.1, w.2.2.2.1 + 1, w.2.2.2.2.1, w.2.2.2.2.2) := by unfold q_st; rw [if_neg d4]
          rw [hgo, est] at hw
          rw [est] at hms hok
          refine x_if_eq (tgt := 81) (pc' := 52) rfl rfl rfl (fun _ => ?_) (fun c49 => absurd ((by decide)) c49)
          refine x_iinc (pc' := 84) (lv' := [(4, _), (5, _), (3, _), (2, _), (0, _), (1, _)]) rfl rfl (Nat.le_of_ble_eq_true rfl) rfl (nI_1 _) rfl ?_
          refine x_goto (tgt := 22) rfl rfl ?_
          exact ih _ _ _ (by omega) hok hw hM hN h14 h16 hF
      · have hst : q_run κ n fu ln (k + 1) w = w := q_run_stop (fun q => d3 q.2)
        rw [hst] at hw
        subst hw
        refine x_iload_n (pc' := 23) rfl rfl rfl ?_
        refine x_if_le (tgt := 87) (pc' := 26) rfl rfl rfl (fun c23 => absurd c23 (Int32.not_le.mpr (nI_lt (a := 0) (b := w.2.2.1) d2 (by omega)))) (fun _ => ?_)
        refine x_iload (pc' := 28) rfl rfl rfl ?_
        refine x_aload_n (pc' := 29) rfl rfl rfl ?_
        refine x_get (pc' := 32) rfl rfl rfl (hM.1) rfl ?_
        refine x_eqi hn' ?_
        refine x_icmp_ge (tgt := 87) (pc' := 35) rfl rfl rfl (fun _ => ?_) (fun c32 => absurd (nI_le (by omega) (by omega)) c32)
        exact K g Mg hM hN h14 h16 hF
    · have hst : q_run κ n fu ln (k + 1) w = w := q_run_stop (fun q => d2 q.1)
      rw [hst] at hw
      subst hw
      have h0 : w.2.2.1 = 0 := by omega
      refine x_iload_n (pc' := 23) rfl rfl rfl ?_
      refine x_if_le (tgt := 87) (pc' := 26) rfl rfl rfl (fun _ => ?_) (fun c23 => absurd ((by rw [h0]; decide)) c23)
      exact K g Mg hM hN h14 h16 hF
theorem m_sowsHand {hs s0 : Nat} (hM : x_Mdl z f M) (hn : M.1 3 = nI n) (hn9 : n ≤ 9) (hfu : M.1 4 = nI fu) (hfu9 : fu < 2 ^ 20) (hln : M.1 5 = nI ln) (hln9 : ln < 2 ^ 31) (hκ : M.2.1 0 = fun i => nI (κ i)) (hκ5 : ∀ i, κ i ≤ 5) (hβ : M.2.1 1 = fun i => nI (β i)) (hβ5 : ∀ i, β i ≤ 100) (hb : b < n) (hl : M.1 15 = q_lI l) (hl5 : ∀ p, l = some p → p < n) (h14 : M.1 14 = nI hs) (h16 : M.1 16 = nI s0)
    (h : ∀ (f' : x_H) (M' : x_N), x_Mdl z f' M' → q_N M M' (q_hand κ n fu ln β b l).1 (q_hand κ n fu ln β b l).2.2 → M'.1 14 = nI (hs + 1) → M'.1 16 = nI (s0 + (q_hand κ n fu ln β b l).2.1) → x_fr (fun q => q < 59) f f' → post (some (.int (nI (q_hand κ n fu ln β b l).2.1))) f') : Y E 2 mX6_sowsHand [.ref 59, .int (nI b)] z f 0 0 post := by
  refine Y.intro gX6_sowsHand (lv := [(0, .ref 59), (1, .int (nI b))]) rfl (Nat.le_of_ble_eq_true rfl) ?_
  have hcl : (nI b).toNatClampNeg = b := nI_clamp (by omega)
  have e1 : M.2.1 1 (nI b).toNatClampNeg = nI (β b) := by rw [hcl, hβ]
  have hv : vp_in (nI b) 9 := vp_in_nI (by omega) (by decide)
  have hb100 := hβ5 b
  have hok : q_ok n 100 (q_up β b 0, b, β b, 0, 0, l) := ⟨hb, q_up_le hβ5 (by omega), Nat.zero_le _, by show 0 + β b ≤ 100; omega, hl5⟩
  have hokf := q_ok_run (κ := κ) (fu := fu) (ln := ln) 1000 _ hok
  have hms : q_ms n (q_up β b 0, b, β b, 0, 0, l) ≤ 1000 := by
    show β b * n + (n - 0) ≤ 1000
    have := Nat.mul_le_mul hb100 hn9
    omega
  refine x_aload_n (pc' := 1) rfl rfl rfl ?_
  refine x_get (pc' := 4) rfl rfl rfl (hM.1) rfl ?_
  refine x_iload_n (pc' := 5) rfl rfl rfl ?_
  refine x_iaload (pc' := 6) rfl rfl (hM.2.1 1 (by decide)) (hv) ?_
  refine x_eqi e1 ?_
  refine x_istore_n (pc' := 7) (lv' := [(2, _), (0, _), (1, _)]) rfl rfl (Nat.le_of_ble_eq_true rfl) rfl ?_
  refine x_iconst (pc' := 8) rfl rfl iconst_0 ?_
  refine x_istore_n (pc' := 9) (lv' := [(3, _), (2, _), (0, _), (1, _)]) rfl rfl (Nat.le_of_ble_eq_true rfl) rfl ?_
  refine x_iconst (pc' := 10) rfl rfl iconst_0 ?_
  refine x_istore (pc' := 12) (lv' := [(4, _), (3, _), (2, _), (0, _), (1, _)]) rfl rfl (Nat.le_of_ble_eq_true rfl) rfl ?_
  refine x_iload_n (pc' := 13) rfl rfl rfl ?_
  refine x_istore (pc' := 15) (lv' := [(5, _), (4, _), (3, _), (2, _), (0, _), (1, _)]) rfl rfl (Nat.le_of_ble_eq_true rfl) rfl ?_
  refine x_aload_n (pc' := 16) rfl rfl rfl ?_
  refine x_get (pc' := 19) rfl rfl rfl (hM.1) rfl ?_
  refine x_iload_n (pc' := 20) rfl rfl rfl ?_
  refine x_iconst (pc' := 21) rfl rfl iconst_0 ?_
  refine x_iastore (pc' := 22) rfl rfl (hM.2.1 1 (by decide)) (hv) (fun f1 e1 => ?_)
  have hM1 := hM.arr 1 (by decide) e1
  have hF1 := (x_fr.rf (P := fun q => q < 59)).up e1 (by decide)
  rw [hcl, hβ, show (0 : Int32) = nI 0 from by decide, q_up_I] at hM1
  refine x_lvp [1, 0, 2, 3, 4, 5] rfl ?_
  refine m_sowL (M := M) (f := f) hn hn9 hfu hfu9 hln hln9 hκ hκ5 hb (q_run κ n fu ln 1000 (q_up β b 0, b, β b, 0, 0, l)) ?_ 1000 (q_up β b 0, b, β b, 0, 0, l) f1 _ hms hok rfl hM1 ⟨rfl, fun j hj => if_neg hj, rfl, fun _ _ _ _ => rfl, hl⟩ rfl rfl hF1
  intro g Mg hMg hNg g14 g16 hFg
  obtain ⟨o1, o2, o3, o4, o5⟩ := hokf
  obtain ⟨r1, r2, r3, r4, r5⟩ := id hNg
  generalize hwf : q_run κ n fu ln 1000 (q_up β b 0, b, β b, 0, 0, l) = wf at *
  have eh : q_hand κ n fu ln β b l = (q_up wf.1 b (wf.1 b + wf.2.2.1), wf.2.2.2.2.1, wf.2.2.2.2.2) := by unfold q_hand; rw [hwf]
  rw [eh] at h
  refine x_aload_n (pc' := 88) rfl rfl rfl ?_
  refine x_get (pc' := 91) rfl rfl rfl (hMg.1) rfl ?_
  refine x_iload_n (pc' := 92) rfl rfl rfl ?_
  refine x_dup2 (pc' := 93) rfl rfl rfl rfl ?_
  refine x_iaload (pc' := 94) rfl rfl (hMg.2.1 1 (by decide)) (hv) ?_
  refine x_eqi (show Mg.2.1 1 (nI b).toNatClampNeg = nI (wf.1 b) from by rw [hcl, r1]) ?_
  refine x_iload_n (pc' := 95) rfl rfl rfl ?_
  refine x_iadd (pc' := 96) rfl rfl ?_
  refine x_eqi (nI_add _ _) ?_
  refine x_iastore (pc' := 97) rfl rfl (hMg.2.1 1 (by decide)) (hv) (fun f2 e2 => ?_)
  have hM2 := hMg.arr 1 (by decide) e2
  have hF2 := hFg.up e2 (by decide)
  rw [hcl, r1, q_up_I] at hM2
  refine x_aload_n (pc' := 98) rfl rfl rfl ?_
  refine x_dup (pc' := 99) rfl rfl rfl ?_
  refine x_get (pc' := 102) rfl rfl rfl (hM2.1) rfl ?_
  refine x_eqi (show Mg.1 14 = nI hs from g14.trans h14) ?_
  refine x_iconst (pc' := 103) rfl rfl iconst_1 ?_
  refine x_iadd (pc' := 104) rfl rfl ?_
  refine x_eqi (nI_1 _) ?_
  refine x_put (pc' := 107) rfl rfl rfl (hM2.1) (Nat.le_of_ble_eq_true rfl) rfl rfl rfl rfl (fun f3 e3 => ?_)
  have hM3 := hM2.num 14 e3 (x_mFs14 _ _)
  have hF3 := hF2.up e3 (by decide)
  refine x_aload_n (pc' := 108) rfl rfl rfl ?_
  refine x_dup (pc' := 109) rfl rfl rfl ?_
  refine x_get (pc' := 112) rfl rfl rfl (hM3.1) rfl ?_
  refine x_eqi (show Mg.1 16 = nI s0 from g16.trans h16) ?_
  refine x_iload_n (pc' := 113) rfl rfl rfl ?_
  refine x_iadd (pc' := 114) rfl rfl ?_
  refine x_eqi (nI_add _ _) ?_
  refine x_put (pc' := 117) rfl rfl rfl (hM3.1) (Nat.le_of_ble_eq_true rfl) rfl rfl rfl rfl (fun f4 e4 => ?_)
  have hM4 := hM3.num 16 e4 (x_mFs16 _ _)
  have hF4 := hF3.up e4 (by decide)
  refine x_iload_n (pc' := 118) rfl rfl rfl ?_
  exact x_ireturn rfl rfl rfl (Nat.le_of_ble_eq_true rfl) (Nat.le_of_ble_eq_true rfl) (h _ _ hM4 ⟨rfl, fun j hj => (if_neg hj).trans (r2 j hj), r3, fun j a1 a2 a3 => (pk_un a3).trans ((pk_un a1).trans (r4 j a1 a2 a3)), r5⟩ rfl rfl hF4)
end MSOW
end
section
-- == 34.move
/-! A move: pure facts, the class's Table. -/
/-- beans stay below a bound; the bowl emptied has no more than was sown -/
def q_bd (C b : Nat) (w : q_W) : Prop := (∀ i, w.1 i ≤ C) ∧ w.1 b ≤ w.2.2.2.2.1
theorem q_bd_run {κ : Nat → Nat} {n fu ln C b : Nat} (hC : 99 ≤ C) : ∀ (k : Nat) (w : q_W), q_bd C b w → q_bd C b (q_run κ n fu ln k w)
  | 0, w, h => h
  | k + 1, w, h => by
    by_cases hg : 0 < w.2.2.1 ∧ w.2.2.2.1 < n
    · rw [q_run_go hg]
      refine q_bd_run hC k _ ?_
      unfold q_st
      split
      · rename_i ht
        refine ⟨q_up_le h.1 (by have := ht.1; omega), ?_⟩
        show q_up w.1 (q_nx n ln w.2.1) _ b ≤ w.2.2.2.2.1 + 1
        by_cases hb : b = q_nx n ln w.2.1
        · rw [hb, q_up_s, ← hb]
          have := h.2
          omega
        · rw [q_up_n _ _ hb]
          have := h.2
          omega
      · exact h
    · rw [q_run_stop hg]
      exact h
/-- sown and in hand are what was taken -/
def q_sm (B : Nat) (w : q_W) : Prop := w.2.2.2.2.1 + w.2.2.1 = B
theorem q_sm_run {κ : Nat → Nat} {n fu ln B : Nat} : ∀ (k : Nat) (w : q_W), q_sm B w → q_sm B (q_run κ n fu ln k w)
  | 0, w, h => h
  | k + 1, w, h => by
    by_cases hg : 0 < w.2.2.1 ∧ w.2.2.2.1 < n
    · rw [q_run_go hg]
      refine q_sm_run k _ ?_
      unfold q_st q_sm at *
      split
      · show w.2.2.2.2.1 + 1 + (w.2.2.1 - 1) = B
        omega
      · exact h
    · rw [q_run_stop hg]
      exact h
theorem q_hand_le {κ β : Nat → Nat} {n fu ln b C : Nat} {l : Option Nat} (hC : 99 ≤ C) (hβ : ∀ i, β i ≤ C) : (∀ i, (q_hand κ n fu ln β b l).1 i ≤ C) ∧ (q_hand κ n fu ln β b l).2.1 ≤ C := by
  have h1 := q_bd_run (κ := κ) (n := n) (fu := fu) (ln := ln) (b := b) hC 1000 (q_up β b 0, b, β b, 0, 0, l) ⟨q_up_le hβ (by omega), by show q_up β b 0 b ≤ 0; rw [q_up_s]; exact Nat.le_refl _⟩
  have h2 := q_sm_run (κ := κ) (n := n) (fu := fu) (ln := ln) (B := β b) 1000 (q_up β b 0, b, β b, 0, 0, l) (by show 0 + β b = β b; omega)
  have hb := hβ b
  unfold q_hand
  generalize q_run κ n fu ln 1000 (q_up β b 0, b, β b, 0, 0, l) = w at *
  unfold q_sm at h2
  have h3 := h1.2
  exact ⟨q_up_le h1.1 (by omega), by show w.2.2.2.2.1 ≤ C; omega⟩
theorem q_hand_l {κ β : Nat → Nat} {n fu ln b : Nat} {l : Option Nat} (hb : b < n) (hβ : ∀ i, β i ≤ 100) (hl : ∀ p, l = some p → p < n) : (∀ p, (q_hand κ n fu ln β b l).2.2 = some p → p < n) ∧ (0 < (q_hand κ n fu ln β b l).2.1 → ∃ p, (q_hand κ n fu ln β b l).2.2 = some p ∧ p < n) := by
  have hok : q_ok n 100 (q_up β b 0, b, β b, 0, 0, l) := ⟨hb, q_up_le hβ (by omega), Nat.zero_le _, by show 0 + β b ≤ 100; have := hβ b; omega, hl⟩
  have h1 := q_ok_run (κ := κ) (fu := fu) (ln := ln) 1000 _ hok
  have h2 := q_lst_run (κ := κ) (fu := fu) (ln := ln) 1000 _ hok (fun h => absurd h (Nat.lt_irrefl 0))
  exact ⟨h1.2.2.2.2, h2⟩
/-- what the hands of a move leave -/
theorem q_hands_ok {κ : Nat → Nat} {n fu ln C : Nat} (hC : 99 ≤ C) (hC2 : C ≤ 100) : ∀ (k : Nat) (β : Nat → Nat) (b hs s : Nat) (l : Option Nat), b < n → (∀ i, β i ≤ C) → (∀ p, l = some p → p < n) →
    (∀ i, (q_hands κ n fu ln k β b hs s l).1 i ≤ C) ∧ (∀ p, (q_hands κ n fu ln k β b hs s l).2.2.2 = some p → p < n)
  | 0, β, b, hs, s, l, hb, hβ, hl => ⟨hβ, hl⟩
  | k + 1, β, b, hs, s, l, hb, hβ, hl => by
    have h1 := q_hand_le (κ := κ) (n := n) (fu := fu) (ln := ln) (b := b) (l := l) hC hβ
    have h2 := q_hand_l (κ := κ) (fu := fu) (ln := ln) hb (fun i => Nat.le_trans (hβ i) hC2) hl
    rw [q_hands]
    split
    · rename_i hg
      obtain ⟨p, hp, hpn⟩ := h2.2 hg.1
      refine q_hands_ok hC hC2 k _ _ _ _ _ ?_ h1.1 h2.1
      rw [hp]
      exact hpn
    · exact ⟨h1.1, h2.1⟩
/-- beans, hands, sown, last of a move, before the single one is taken -/
def q_mv (κ : Nat → Nat) (n fu ln : Nat) (β : Nat → Nat) (b : Nat) : (Nat → Nat) × Nat × Nat × Option Nat := if 2 ≤ n ∧ 0 < β b then q_hands κ n fu ln 60 β b 0 0 none else (β, 0, 0, none)
def q_tk1 (β : Nat → Nat) (pt : Nat) (l : Option Nat) : Bool := match l with
  | none => false
  | some p => decide (β p = 1) && decide (pt < 999)
def q_b1 (β : Nat → Nat) (pt : Nat) (l : Option Nat) : Nat → Nat := if q_tk1 β pt l = true then q_up β (l.getD 0) 0 else β
def q_p1 (β π : Nat → Nat) (tu : Nat) (l : Option Nat) : Nat → Nat := if q_tk1 β (π tu) l = true then q_up π tu (π tu + 1) else π
section MOVE
variable {E : x_E} {z : Nat} {f : x_H} {t : Nat} {T : x_T} {post : Option Value → x_H → Prop} {n fu ln b tu : Nat} {κ β π : Nat → Nat} {l : Option Nat}
theorem t_has_m9 {n : Nat} (hn : T.2.2.2 0 = nI n) : ¬ t_has T (-9) := fun h => h.1 (by decide)
theorem w_takeSingle (hT : x_t z f t T) (hn : T.2.2.2 0 = nI n) (hn9 : n ≤ 9) (hβ : T.2.1 = fun i => nI (β i)) (hβ5 : ∀ i, β i ≤ 100) (hl : T.2.2.2 6 = q_lI l) (hl5 : ∀ p, l = some p → p < n) (htu : T.2.2.2 3 = nI tu) (htu1 : tu ≤ 1) (hπ : T.2.2.1 = fun i => nI (π i)) (hπ5 : ∀ i, π i < 2 ^ 30)
    (h : ∀ f' : x_H, x_t z f' t (T.1, (fun i => nI (q_b1 β (π tu) l i)), (fun i => nI (q_p1 β π tu l i)), T.2.2.2) → x_fr (x_ot t) f f' → post (some (.int (if q_tk1 β (π tu) l = true then 1 else 0))) f') : Y E 3 mX3_takeSingle [.ref t] z f 0 0 post := by
  refine Y.intro gX3_takeSingle (lv := [(0, .ref t)]) rfl (Nat.le_of_ble_eq_true rfl) ?_
  have hclt : (nI tu).toNatClampNeg = tu := nI_clamp (by omega)
  have hvt : vp_in (nI tu) 2 := vp_in_nI (by omega) (by decide)
  have eπ : T.2.2.1 (nI tu).toNatClampNeg = nI (π tu) := by rw [hclt, hπ]
  have hno : q_tk1 β (π tu) l = false → post (some (.int 0)) f := by
    intro hq
    have hb : (fun i => nI (q_b1 β (π tu) l i)) = T.2.1 := by
      rw [hβ]
      unfold q_b1
      rw [hq]
      rfl
    have hp : (fun i => nI (q_p1 β π tu l i)) = T.2.2.1 := by
      rw [hπ]
      unfold q_p1
      rw [hq]
      rfl
    have h2 := h f (hT.cast (by rw [hb, hp])) x_fr.rf
    rw [hq] at h2
    exact h2
  cases l with
  | none =>
    refine x_aload_n (pc' := 1) rfl rfl rfl ?_
    refine x_aload_n (pc' := 2) rfl rfl rfl ?_
    refine x_get (pc' := 5) rfl rfl rfl (hT.1) rfl ?_
    refine x_eqi hl ?_
    refine x_cV1i (d := 2) (pc' := 8) rfl rfl sX3_59 gX3_beansOf (hT.1) ⟨Nat.le_of_ble_eq_true rfl, Nat.le_of_ble_eq_true rfl⟩ (Nat.le_of_ble_eq_true rfl) ⟨Nat.le_of_ble_eq_true rfl, Nat.le_of_ble_eq_true rfl⟩ ?_
    refine w_beansOf hT (fun g => absurd g (t_has_m9 hn)) (fun g => ⟨_, rfl, ?_⟩)
    refine x_iconst (pc' := 9) rfl rfl iconst_1 ?_
    refine x_icmp_ne (tgt := 46) (pc' := 12) rfl rfl rfl (fun _ => ?_) (fun c9 => absurd c9 ((by decide)))
    refine x_iconst (pc' := 47) rfl rfl iconst_0 ?_
    exact x_ireturn rfl rfl rfl (Nat.le_of_ble_eq_true rfl) (Nat.le_of_ble_eq_true rfl) (hno rfl)
  | some p =>
    have hp := hl5 p rfl
    have hl' : T.2.2.2 6 = nI p := hl
    have hcl : (nI p).toNatClampNeg = p := nI_clamp (by omega)
    have e1 : T.2.1 (nI p).toNatClampNeg = nI (β p) := by rw [hcl, hβ]
    have b1 := hβ5 p
    have p1 := hπ5 tu
    by_cases d1 : β p = 1
    · by_cases d2 : π tu < 999
      · have hq : q_tk1 β (π tu) (some p) = true := by simp [q_tk1, d1, d2]
        refine x_aload_n (pc' := 1) rfl rfl rfl ?_
        refine x_aload_n (pc' := 2) rfl rfl rfl ?_
        refine x_get (pc' := 5) rfl rfl rfl (hT.1) rfl ?_
        refine x_eqi hl' ?_
        refine x_cV1i (d := 2) (pc' := 8) rfl rfl sX3_59 gX3_beansOf (hT.1) ⟨Nat.le_of_ble_eq_true rfl, Nat.le_of_ble_eq_true rfl⟩ (Nat.le_of_ble_eq_true rfl) ⟨Nat.le_of_ble_eq_true rfl, Nat.le_of_ble_eq_true rfl⟩ ?_
        refine w_beansOf hT (fun g => ⟨_, rfl, ?_⟩) (fun g => absurd (t_has_nI hn hn9 hp) g)
        refine x_eqi e1 ?_
        refine x_iconst (pc' := 9) rfl rfl iconst_1 ?_
        refine x_icmp_ne (tgt := 46) (pc' := 12) rfl rfl rfl (fun c9 => absurd ((by rw [d1]; rfl)) c9) (fun _ => ?_)
        refine x_aload_n (pc' := 13) rfl rfl rfl ?_
        refine x_get (pc' := 16) rfl rfl rfl (hT.1) rfl ?_
        refine x_eqi htu ?_
        refine x_if_lt (tgt := 46) (pc' := 19) rfl rfl rfl (fun c16 => absurd c16 (nI_pos (by omega))) (fun _ => ?_)
        refine x_aload_n (pc' := 20) rfl rfl rfl ?_
        refine x_get (pc' := 23) rfl rfl rfl (hT.1) rfl ?_
        refine x_eqi htu ?_
        refine x_aload_n (pc' := 24) rfl rfl rfl ?_
        refine x_get (pc' := 27) rfl rfl rfl (hT.1) rfl ?_
        refine x_alen (pc' := 28) rfl rfl (hT.2.2.2) ?_
        refine x_icmp_ge (tgt := 46) (pc' := 31) rfl rfl rfl (fun c28 => absurd c28 (Int32.not_le.mpr (nI_lt (a := tu) (b := 2) (by omega) (by decide)))) (fun _ => ?_)
        refine x_aload_n (pc' := 32) rfl rfl rfl ?_
        refine x_get (pc' := 35) rfl rfl rfl (hT.1) rfl ?_
        refine x_aload_n (pc' := 36) rfl rfl rfl ?_
        refine x_get (pc' := 39) rfl rfl rfl (hT.1) rfl ?_
        refine x_eqi htu ?_
        refine x_iaload (pc' := 40) rfl rfl (hT.2.2.2) (hvt) ?_
        refine x_eqi eπ ?_
        refine x_sipush (pc' := 43) rfl rfl sipush_999 ?_
        refine x_icmp_lt (tgt := 48) (pc' := 46) rfl rfl rfl (fun _ => ?_) (fun c43 => absurd (nI_lt (a := π tu) (b := 999) d2 (by decide)) c43)
        refine x_aload_n (pc' := 49) rfl rfl rfl ?_
        refine x_aload_n (pc' := 50) rfl rfl rfl ?_
        refine x_get (pc' := 53) rfl rfl rfl (hT.1) rfl ?_
        refine x_eqi hl' ?_
        refine x_iconst (pc' := 54) rfl rfl iconst_0 ?_
        refine x_cV2v (d := 2) (pc' := 57) rfl rfl sX3_63 gX3_lay (hT.1) ⟨Nat.le_of_ble_eq_true rfl, Nat.le_of_ble_eq_true rfl⟩ (Nat.le_of_ble_eq_true rfl) ⟨Nat.le_of_ble_eq_true rfl, Nat.le_of_ble_eq_true rfl⟩ ?_
        refine w_lay hT (fun _ f1 hT1 hF1 => ⟨rfl, ?_⟩) (fun g => absurd (t_has_nI hn hn9 hp) g)
        rw [hcl, hβ, show (0 : Int32) = nI 0 from by decide, q_up_I] at hT1
        refine x_aload_n (pc' := 58) rfl rfl rfl ?_
        refine x_get (pc' := 61) rfl rfl rfl (hT1.1) rfl ?_
        refine x_aload_n (pc' := 62) rfl rfl rfl ?_
        refine x_get (pc' := 65) rfl rfl rfl (hT1.1) rfl ?_
        refine x_eqi htu ?_
        refine x_dup2 (pc' := 66) rfl rfl rfl rfl ?_
        refine x_iaload (pc' := 67) rfl rfl (hT1.2.2.2) (hvt) ?_
        refine x_eqi eπ ?_
        refine x_iconst (pc' := 68) rfl rfl iconst_1 ?_
        refine x_iadd (pc' := 69) rfl rfl ?_
        refine x_eqi (nI_1 _) ?_
        refine x_iastore (pc' := 70) rfl rfl (hT1.2.2.2) (hvt) (fun f1 e1 => ?_)
        have hT2 := hT1.purse e1
        have hF2 := hF1.up e1 (x_ot_in (by omega) (by omega))
        rw [hclt] at hT2
        refine x_iconst (pc' := 71) rfl rfl iconst_1 ?_
        have hb2 : (fun i => nI (q_b1 β (π tu) (some p) i)) = fun i => nI (q_up β p 0 i) := by
          unfold q_b1
          rw [hq]
          rfl
        have hp2 : (fun i => nI (q_p1 β π tu (some p) i)) = upd T.2.2.1 tu (nI (π tu + 1)) := by
          rw [hπ, q_up_I]
          unfold q_p1
          rw [hq]
          rfl
        have h2 := h _ (hT2.cast (by rw [hb2, hp2])) hF2
        rw [hq] at h2
        exact x_ireturn rfl rfl rfl (Nat.le_refl _) (Nat.le_refl _) h2
      · have hq : q_tk1 β (π tu) (some p) = false := by simp [q_tk1, d2]
        refine x_aload_n (pc' := 1) rfl rfl rfl ?_
        refine x_aload_n (pc' := 2) rfl rfl rfl ?_
        refine x_get (pc' := 5) rfl rfl rfl (hT.1) rfl ?_
        refine x_eqi hl' ?_
        refine x_cV1i (d := 2) (pc' := 8) rfl rfl sX3_59 gX3_beansOf (hT.1) ⟨Nat.le_of_ble_eq_true rfl, Nat.le_of_ble_eq_true rfl⟩ (Nat.le_of_ble_eq_true rfl) ⟨Nat.le_of_ble_eq_true rfl, Nat.le_of_ble_eq_true rfl⟩ ?_
        refine w_beansOf hT (fun g => ⟨_, rfl, ?_⟩) (fun g => absurd (t_has_nI hn hn9 hp) g)
        refine x_eqi e1 ?_
        refine x_iconst (pc' := 9) rfl rfl iconst_1 ?_
        refine x_icmp_ne (tgt := 46) (pc' := 12) rfl rfl rfl (fun c9 => absurd ((by rw [d1]; rfl)) c9) (fun _ => ?_)
        refine x_aload_n (pc' := 13) rfl rfl rfl ?_
        refine x_get (pc' := 16) rfl rfl rfl (hT.1) rfl ?_
        refine x_eqi htu ?_
        refine x_if_lt (tgt := 46) (pc' := 19) rfl rfl rfl (fun c16 => absurd c16 (nI_pos (by omega))) (fun _ => ?_)
        refine x_aload_n (pc' := 20) rfl rfl rfl ?_
        refine x_get (pc' := 23) rfl rfl rfl (hT.1) rfl ?_
        refine x_eqi htu ?_
        refine x_aload_n (pc' := 24) rfl rfl rfl ?_
        refine x_get (pc' := 27) rfl rfl rfl (hT.1) rfl ?_
        refine x_alen (pc' := 28) rfl rfl (hT.2.2.2) ?_
        refine x_icmp_ge (tgt := 46) (pc' := 31) rfl rfl rfl (fun c28 => absurd c28 (Int32.not_le.mpr (nI_lt (a := tu) (b := 2) (by omega) (by decide)))) (fun _ => ?_)
        refine x_aload_n (pc' := 32) rfl rfl rfl ?_
        refine x_get (pc' := 35) rfl rfl rfl (hT.1) rfl ?_
        refine x_aload_n (pc' := 36) rfl rfl rfl ?_
        refine x_get (pc' := 39) rfl rfl rfl (hT.1) rfl ?_
        refine x_eqi htu ?_
        refine x_iaload (pc' := 40) rfl rfl (hT.2.2.2) (hvt) ?_
        refine x_eqi eπ ?_
        refine x_sipush (pc' := 43) rfl rfl sipush_999 ?_
        refine x_icmp_lt (tgt := 48) (pc' := 46) rfl rfl rfl (fun c43 => absurd c43 (nI_nlt (a := π tu) (b := 999) (by omega) (by omega))) (fun _ => ?_)
        refine x_iconst (pc' := 47) rfl rfl iconst_0 ?_
        exact x_ireturn rfl rfl rfl (Nat.le_of_ble_eq_true rfl) (Nat.le_of_ble_eq_true rfl) (hno hq)
    · have hq : q_tk1 β (π tu) (some p) = false := by simp [q_tk1, d1]
      refine x_aload_n (pc' := 1) rfl rfl rfl ?_
      refine x_aload_n (pc' := 2) rfl rfl rfl ?_
      refine x_get (pc' := 5) rfl rfl rfl (hT.1) rfl ?_
      refine x_eqi hl' ?_
      refine x_cV1i (d := 2) (pc' := 8) rfl rfl sX3_59 gX3_beansOf (hT.1) ⟨Nat.le_of_ble_eq_true rfl, Nat.le_of_ble_eq_true rfl⟩ (Nat.le_of_ble_eq_true rfl) ⟨Nat.le_of_ble_eq_true rfl, Nat.le_of_ble_eq_true rfl⟩ ?_
      refine w_beansOf hT (fun g => ⟨_, rfl, ?_⟩) (fun g => absurd (t_has_nI hn hn9 hp) g)
      refine x_eqi e1 ?_
      refine x_iconst (pc' := 9) rfl rfl iconst_1 ?_
      refine x_icmp_ne (tgt := 46) (pc' := 12) rfl rfl rfl (fun _ => ?_) (fun c9 => absurd c9 ((fun q => d1 ((nI_eq (a := β p) (b := 1) (by omega) (by decide)).mp q))))
      refine x_iconst (pc' := 47) rfl rfl iconst_0 ?_
      exact x_ireturn rfl rfl rfl (Nat.le_of_ble_eq_true rfl) (Nat.le_of_ble_eq_true rfl) (hno hq)
end MOVE
end
section
-- == 35.makemove
/-! The class's Table makes a move. -/
def q_V (T T' : x_T) (β : Nat → Nat) (hs s : Nat) (l : Option Nat) : Prop := T'.1 = T.1 ∧ T'.2.1 = (fun i => nI (β i)) ∧ T'.2.2.1 = T.2.2.1 ∧ (∀ i, i ≠ 5 → i ≠ 6 → i ≠ 7 → T'.2.2.2 i = T.2.2.2 i) ∧ T'.2.2.2 5 = nI hs ∧ T'.2.2.2 6 = q_lI l ∧ T'.2.2.2 7 = nI s
/-- behind a move: v is q_mv -/
def q_Fin (T T' : x_T) (v : (Nat → Nat) × Nat × Nat × Option Nat) (π : Nat → Nat) (tu : Nat) : Prop := T'.1 = T.1 ∧ T'.2.1 = (fun i => nI (q_b1 v.1 (π tu) v.2.2.2 i)) ∧ T'.2.2.1 = (fun i => nI (q_p1 v.1 π tu v.2.2.2 i)) ∧ T'.2.2.2 0 = T.2.2.2 0 ∧ T'.2.2.2 1 = T.2.2.2 1 ∧ T'.2.2.2 2 = T.2.2.2 2 ∧ T'.2.2.2 3 = nI (1 - tu) ∧ T'.2.2.2 4 = T.2.2.2 4 + 1 ∧ T'.2.2.2 5 = nI v.2.1 ∧ T'.2.2.2 6 = q_lI v.2.2.2 ∧ T'.2.2.2 7 = nI v.2.2.1 ∧ T'.2.2.2 8 = (if q_tk1 v.1 (π tu) v.2.2.2 = true then 1 else 0)
section MAKE
variable {E : x_E} {z : Nat} {f : x_H} {t : Nat} {T : x_T} {post : Option Value → x_H → Prop} {n fu ln b tu : Nat} {κ β π : Nat → Nat} {l : Option Nat}
theorem w_mvL {b0 : Nat} (hn : T.2.2.2 0 = nI n) (hn9 : n ≤ 9) (hfu : T.2.2.2 1 = nI fu) (hfu9 : fu < 2 ^ 20) (hln : T.2.2.2 2 = nI ln) (hln9 : ln < 2 ^ 31) (hκ : T.1 = fun i => nI (κ i)) (hκ5 : ∀ i, κ i ≤ 5) (vf : (Nat → Nat) × Nat × Nat × Option Nat)
    (K : ∀ (g : x_H) (Tg : x_T) (v2 v3 : Int32), x_t z g t Tg → q_V T Tg vf.1 vf.2.1 vf.2.2.1 vf.2.2.2 → x_fr (x_ot t) f g → X E (x_rm 4 0 0) mX3_makeMove (x_QM E z 0 0 post) 80 [(2, .int v2), (3, .int v3), (0, .ref t), (1, .int (nI b0))] [] z g 0 0) :
    ∀ (k : Nat) (β : Nat → Nat) (b hs s : Nat) (l : Option Nat) (g : x_H) (Tg : x_T), hs + k = 60 → s ≤ 100 * hs → b < n → (∀ i, β i ≤ 100) → (∀ p, l = some p → p < n) → q_hands κ n fu ln k β b hs s l = vf → x_t z g t Tg → q_V T Tg β hs s l → x_fr (x_ot t) f g → X E (x_rm 4 0 0) mX3_makeMove (x_QM E z 0 0 post) 24 [(2, .int (nI b)), (3, .int 1), (0, .ref t), (1, .int (nI b0))] [] z g 0 0 := by
  intro k
  induction k with
  | zero =>
    intro β b hs s l g Tg hk hs2 hb hβ hl hv hT hV hF
    have hs60 : hs = 60 := by omega
    subst hs60
    have hv0 : (β, 60, s, l) = vf := hv
    subst hv0
    refine x_iload_n (pc' := 25) rfl rfl rfl ?_
    refine x_if_eq (tgt := 80) (pc' := 28) rfl rfl rfl (fun c25 => absurd c25 ((by decide))) (fun _ => ?_)
    refine x_aload_n (pc' := 29) rfl rfl rfl ?_
    refine x_get (pc' := 32) rfl rfl rfl (hT.1) rfl ?_
    refine x_eqi hV.2.2.2.2.1 ?_
    refine x_bipush (pc' := 34) rfl rfl bipush_60 ?_
    refine x_icmp_ge (tgt := 80) (pc' := 37) rfl rfl rfl (fun _ => ?_) (fun c34 => absurd ((by decide : (60 : Int32) ≤ nI 60)) c34)
    exact K g Tg _ _ hT hV hF
  | succ k ih =>
    intro β b hs s l g Tg hk hs2 hb hβ hl hv hT hV hF
    obtain ⟨r1, r2, r3, r4, r5, r6, r7⟩ := id hV
    have hn' : Tg.2.2.2 0 = nI n := (r4 0 (by decide) (by decide) (by decide)).trans hn
    have hfu' : Tg.2.2.2 1 = nI fu := (r4 1 (by decide) (by decide) (by decide)).trans hfu
    have hln' : Tg.2.2.2 2 = nI ln := (r4 2 (by decide) (by decide) (by decide)).trans hln
    have hκ' : Tg.1 = fun i => nI (κ i) := r1.trans hκ
    have hle := q_hand_le (κ := κ) (n := n) (fu := fu) (ln := ln) (b := b) (l := l) (C := 100) (by decide) hβ
    have hla := q_hand_l (κ := κ) (fu := fu) (ln := ln) hb hβ hl
    have eq1 : q_hands κ n fu ln (k + 1) β b hs s l = (if 0 < (q_hand κ n fu ln β b l).2.1 ∧ q_full κ (q_hand κ n fu ln β b l).1 fu ((q_hand κ n fu ln β b l).2.2.getD 0) then q_hands κ n fu ln k (q_hand κ n fu ln β b l).1 ((q_hand κ n fu ln β b l).2.2.getD 0) (hs + 1) (s + (q_hand κ n fu ln β b l).2.1) (q_hand κ n fu ln β b l).2.2 else ((q_hand κ n fu ln β b l).1, hs + 1, s + (q_hand κ n fu ln β b l).2.1, (q_hand κ n fu ln β b l).2.2)) := rfl
    rw [eq1] at hv
    refine x_iload_n (pc' := 25) rfl rfl rfl ?_
    refine x_if_eq (tgt := 80) (pc' := 28) rfl rfl rfl (fun c25 => absurd c25 ((by decide))) (fun _ => ?_)
    refine x_aload_n (pc' := 29) rfl rfl rfl ?_
    refine x_get (pc' := 32) rfl rfl rfl (hT.1) rfl ?_
    refine x_eqi r5 ?_
    refine x_bipush (pc' := 34) rfl rfl bipush_60 ?_
    refine x_icmp_ge (tgt := 80) (pc' := 37) rfl rfl rfl (fun c34 => absurd c34 (nI_ge (a := hs) (b := 60) (by omega) (by decide))) (fun _ => ?_)
    refine x_aload_n (pc' := 38) rfl rfl rfl ?_
    refine x_dup (pc' := 39) rfl rfl rfl ?_
    refine x_get (pc' := 42) rfl rfl rfl (hT.1) rfl ?_
    refine x_eqi r5 ?_
    refine x_iconst (pc' := 43) rfl rfl iconst_1 ?_
    refine x_iadd (pc' := 44) rfl rfl ?_
    refine x_eqi (nI_1 _) ?_
    refine x_put (pc' := 47) rfl rfl rfl (hT.1) (Nat.le_of_ble_eq_true rfl) rfl rfl rfl rfl (fun f1 e1 => ?_)
    have hT1 := hT.num 5 e1 (x_tFs5 _ _ _)
    have hF1 := hF.up e1 (x_ot_in (by omega) (by omega))
    refine x_aload_n (pc' := 48) rfl rfl rfl ?_
    refine x_iload_n (pc' := 49) rfl rfl rfl ?_
    refine x_cV1i (d := 3) (pc' := 52) rfl rfl sX3_73 gX3_sowHand (hT1.1) ⟨Nat.le_of_ble_eq_true rfl, Nat.le_of_ble_eq_true rfl⟩ (Nat.le_of_ble_eq_true rfl) ⟨Nat.le_of_ble_eq_true rfl, Nat.le_of_ble_eq_true rfl⟩ ?_
    refine w_sowHand (T := (Tg.1, Tg.2.1, Tg.2.2.1, upd Tg.2.2.2 5 (nI (hs + 1)))) (s0 := s) hT1 hn' hn9 hfu' hfu9 hln' hln9 hκ' hκ5 r2 hβ hb r6 hl r7 (by omega) (fun f2 T2 hT2 hR2 hF2 => ⟨_, rfl, ?_⟩)
    generalize hr : q_hand κ n fu ln β b l = r at *
    obtain ⟨u1, u2, u3, u4, u5, u6⟩ := hR2
    have hF3 := hF1.trans hF2
    have hn2 : T2.2.2.2 0 = nI n := (u4 0 (by decide) (by decide)).trans hn'
    have hfu2 : T2.2.2.2 1 = nI fu := (u4 1 (by decide) (by decide)).trans hfu'
    have hV2 : q_V T T2 r.1 (hs + 1) (s + r.2.1) r.2.2 := ⟨u1.trans r1, u2, u3.trans r3, fun j a1 a2 a3 => (u4 j a2 a3).trans ((pk_un a1).trans (r4 j a1 a2 a3)), u4 5 (by decide) (by decide), u5, u6⟩
    by_cases d1 : 0 < r.2.1
    · rw [if_pos d1]
      obtain ⟨p, hp, hpn⟩ := hla.2 d1
      have hgd : r.2.2.getD 0 = p := by rw [hp]; rfl
      rw [hgd] at hv
      have e6 : T2.2.2.2 6 = nI p := by rw [u5, hp]; rfl
      refine x_if_eq (tgt := 70) (pc' := 55) rfl rfl rfl (fun q => absurd q (by decide)) (fun _ => ?_)
      refine x_aload_n (pc' := 56) rfl rfl rfl ?_
      refine x_aload_n (pc' := 57) rfl rfl rfl ?_
      refine x_get (pc' := 60) rfl rfl rfl (hT2.1) rfl ?_
      refine x_eqi e6 ?_
      refine x_cV1i (d := 3) (pc' := 63) rfl rfl sX3_76 gX3_isFull (hT2.1) ⟨Nat.le_of_ble_eq_true rfl, Nat.le_of_ble_eq_true rfl⟩ (Nat.le_of_ble_eq_true rfl) ⟨Nat.le_of_ble_eq_true rfl, Nat.le_of_ble_eq_true rfl⟩ ?_
      refine w_isFull hT2 hn2 hn9 hfu2 hfu9 (u1.trans hκ') u2 hκ5 hle.1 hpn (fun d2 => ⟨_, rfl, ?_⟩) (fun d2 => ⟨_, rfl, ?_⟩)
      · rw [if_pos ⟨d1, d2⟩] at hv
        refine x_if_eq (tgt := 70) (pc' := 66) rfl rfl rfl (fun c63 => absurd c63 ((by decide))) (fun _ => ?_)
        refine x_iconst (pc' := 67) rfl rfl iconst_1 ?_
        refine x_goto (tgt := 71) rfl rfl ?_
        refine x_istore_n (pc' := 72) (lv' := [(3, _), (2, _), (0, _), (1, _)]) rfl rfl (Nat.le_of_ble_eq_true rfl) rfl ?_
        refine x_aload_n (pc' := 73) rfl rfl rfl ?_
        refine x_get (pc' := 76) rfl rfl rfl (hT2.1) rfl ?_
        refine x_eqi e6 ?_
        refine x_istore_n (pc' := 77) (lv' := [(2, _), (3, _), (0, _), (1, _)]) rfl rfl (Nat.le_of_ble_eq_true rfl) rfl ?_
        refine x_goto (tgt := 24) rfl rfl ?_
        exact ih _ _ _ _ _ _ _ (by omega) (by omega) hpn hle.1 hla.1 hv hT2 hV2 hF3
      · rw [if_neg (fun q => d2 q.2)] at hv
        subst hv
        refine x_if_eq (tgt := 70) (pc' := 66) rfl rfl rfl (fun _ => ?_) (fun c63 => absurd ((by decide)) c63)
        refine x_iconst (pc' := 71) rfl rfl iconst_0 ?_
        refine x_istore_n (pc' := 72) (lv' := [(3, _), (2, _), (0, _), (1, _)]) rfl rfl (Nat.le_of_ble_eq_true rfl) rfl ?_
        refine x_aload_n (pc' := 73) rfl rfl rfl ?_
        refine x_get (pc' := 76) rfl rfl rfl (hT2.1) rfl ?_
        refine x_istore_n (pc' := 77) (lv' := [(2, _), (3, _), (0, _), (1, _)]) rfl rfl (Nat.le_of_ble_eq_true rfl) rfl ?_
        refine x_goto (tgt := 24) rfl rfl ?_
        refine x_iload_n (pc' := 25) rfl rfl rfl ?_
        refine x_if_eq (tgt := 80) (pc' := 28) rfl rfl rfl (fun _ => ?_) (fun c25 => absurd ((by decide)) c25)
        exact K _ _ _ _ hT2 hV2 hF3
    · rw [if_neg d1]
      rw [if_neg (fun q => d1 q.1)] at hv
      subst hv
      refine x_if_eq (tgt := 70) (pc' := 55) rfl rfl rfl (fun _ => ?_) (fun q => absurd (by decide) q)
      refine x_iconst (pc' := 71) rfl rfl iconst_0 ?_
      refine x_istore_n (pc' := 72) (lv' := [(3, _), (2, _), (0, _), (1, _)]) rfl rfl (Nat.le_of_ble_eq_true rfl) rfl ?_
      refine x_aload_n (pc' := 73) rfl rfl rfl ?_
      refine x_get (pc' := 76) rfl rfl rfl (hT2.1) rfl ?_
      refine x_istore_n (pc' := 77) (lv' := [(2, _), (3, _), (0, _), (1, _)]) rfl rfl (Nat.le_of_ble_eq_true rfl) rfl ?_
      refine x_goto (tgt := 24) rfl rfl ?_
      refine x_iload_n (pc' := 25) rfl rfl rfl ?_
      refine x_if_eq (tgt := 80) (pc' := 28) rfl rfl rfl (fun _ => ?_) (fun c25 => absurd ((by decide)) c25)
      exact K _ _ _ _ hT2 hV2 hF3
theorem w_makeMove (hT : x_t z f t T) (hn : T.2.2.2 0 = nI n) (hn9 : n ≤ 9) (hfu : T.2.2.2 1 = nI fu) (hfu9 : fu < 2 ^ 20) (hln : T.2.2.2 2 = nI ln) (hln9 : ln < 2 ^ 31) (hκ : T.1 = fun i => nI (κ i)) (hκ5 : ∀ i, κ i ≤ 5) (hβ : T.2.1 = fun i => nI (β i)) (hβ5 : ∀ i, β i ≤ 100) (hb : b < n) (htu : T.2.2.2 3 = nI tu) (htu1 : tu ≤ 1) (hπ : T.2.2.1 = fun i => nI (π i)) (hπ5 : ∀ i, π i < 2 ^ 30)
    (h : ∀ (f' : x_H) (T' : x_T), x_t z f' t T' → q_Fin T T' (q_mv κ n fu ln β b) π tu → x_fr (x_ot t) f f' → post none f') : Y E 4 mX3_makeMove [.ref t, .int (nI b)] z f 0 0 post := by
  refine Y.intro gX3_makeMove (lv := [(0, .ref t), (1, .int (nI b))]) rfl (Nat.le_of_ble_eq_true rfl) ?_
  have hcl : (nI b).toNatClampNeg = b := nI_clamp (by omega)
  have hbb := hβ5 b
  have hK : ∀ (g : x_H) (Tg : x_T) (v2 v3 : Int32), x_t z g t Tg → q_V T Tg (q_mv κ n fu ln β b).1 (q_mv κ n fu ln β b).2.1 (q_mv κ n fu ln β b).2.2.1 (q_mv κ n fu ln β b).2.2.2 → x_fr (x_ot t) f g → X E (x_rm 4 0 0) mX3_makeMove (x_QM E z 0 0 post) 80 [(2, .int v2), (3, .int v3), (0, .ref t), (1, .int (nI b))] [] z g 0 0 := by
    intro g Tg v2 v3 hTg hVg hFg
    have hok : (∀ i, (q_mv κ n fu ln β b).1 i ≤ 100) ∧ (∀ p, (q_mv κ n fu ln β b).2.2.2 = some p → p < n) := by
      unfold q_mv
      split
      · exact q_hands_ok (by decide) (by decide) 60 β b 0 0 none hb hβ5 (fun p hp => by cases hp)
      · exact ⟨hβ5, fun p hp => by cases hp⟩
    generalize q_mv κ n fu ln β b = v at *
    obtain ⟨r1, r2, r3, r4, r5, r6, r7⟩ := id hVg
    have hn' : Tg.2.2.2 0 = nI n := (r4 0 (by decide) (by decide) (by decide)).trans hn
    have htu' : Tg.2.2.2 3 = nI tu := (r4 3 (by decide) (by decide) (by decide)).trans htu
    refine x_aload_n (pc' := 81) rfl rfl rfl ?_
    refine x_aload_n (pc' := 82) rfl rfl rfl ?_
    refine x_cV0i (d := 3) (pc' := 85) rfl rfl sX3_79 gX3_takeSingle (hTg.1) ⟨Nat.le_of_ble_eq_true rfl, Nat.le_of_ble_eq_true rfl⟩ (Nat.le_of_ble_eq_true rfl) ⟨Nat.le_of_ble_eq_true rfl, Nat.le_of_ble_eq_true rfl⟩ ?_
    refine w_takeSingle hTg hn' hn9 r2 hok.1 r6 hok.2 htu' htu1 (r3.trans hπ) hπ5 (fun f1 hT1 hF1 => ⟨_, rfl, ?_⟩)
    by_cases d1 : q_tk1 v.1 (π tu) v.2.2.2 = true
    · rw [if_pos d1]
      refine x_if_eq (tgt := 92) (pc' := 88) rfl rfl rfl (fun q => absurd q (by decide)) (fun _ => ?_)
      refine x_iconst (pc' := 89) rfl rfl iconst_1 ?_
      refine x_goto (tgt := 93) rfl rfl ?_
      refine x_put (pc' := 96) rfl rfl rfl (hT1.1) (Nat.le_of_ble_eq_true rfl) rfl rfl rfl rfl (fun f1 e1 => ?_)
      have hT2 := hT1.num 8 e1 (x_tFs8 _ _ _)
      have hF2 := hF1.up e1 (x_ot_in (by omega) (by omega))
      refine x_aload_n (pc' := 97) rfl rfl rfl ?_
      refine x_iconst (pc' := 98) rfl rfl iconst_1 ?_
      refine x_aload_n (pc' := 99) rfl rfl rfl ?_
      refine x_get (pc' := 102) rfl rfl rfl (hT2.1) rfl ?_
      refine x_eqi htu' ?_
      refine x_isub (pc' := 103) rfl rfl ?_
      refine x_eqi (show (1 : Int32) - nI tu = nI (1 - tu) from pk_sub (a := 1) (b := tu) htu1) ?_
      refine x_put (pc' := 106) rfl rfl rfl (hT2.1) (Nat.le_of_ble_eq_true rfl) rfl rfl rfl rfl (fun f2 e2 => ?_)
      have hT3 := hT2.num 3 e2 (x_tFs3 _ _ _)
      have hF3 := hF2.up e2 (x_ot_in (by omega) (by omega))
      refine x_aload_n (pc' := 107) rfl rfl rfl ?_
      refine x_dup (pc' := 108) rfl rfl rfl ?_
      refine x_get (pc' := 111) rfl rfl rfl (hT3.1) rfl ?_
      refine x_iconst (pc' := 112) rfl rfl iconst_1 ?_
      refine x_iadd (pc' := 113) rfl rfl ?_
      refine x_put (pc' := 116) rfl rfl rfl (hT3.1) (Nat.le_of_ble_eq_true rfl) rfl rfl rfl rfl (fun f3 e3 => ?_)
      have hT4 := hT3.num 4 e3 (x_tFs4 _ _ _)
      have hF4 := hF3.up e3 (x_ot_in (by omega) (by omega))
      exact x_return rfl rfl (Nat.le_of_ble_eq_true rfl) (Nat.le_of_ble_eq_true rfl) (h _ _ hT4 ⟨r1, rfl, rfl, r4 0 (by decide) (by decide) (by decide), r4 1 (by decide) (by decide) (by decide), r4 2 (by decide) (by decide) (by decide), rfl, congrArg (· + 1) (r4 4 (by decide) (by decide) (by decide)), r5, r6, r7, (if_pos d1).symm⟩ (hFg.trans hF4))
    · rw [if_neg d1]
      refine x_if_eq (tgt := 92) (pc' := 88) rfl rfl rfl (fun _ => ?_) (fun q => absurd (by decide) q)
      refine x_iconst (pc' := 93) rfl rfl iconst_0 ?_
      refine x_put (pc' := 96) rfl rfl rfl (hT1.1) (Nat.le_of_ble_eq_true rfl) rfl rfl rfl rfl (fun f4 e4 => ?_)
      have hT2 := hT1.num 8 e4 (x_tFs8 _ _ _)
      have hF2 := hF1.up e4 (x_ot_in (by omega) (by omega))
      refine x_aload_n (pc' := 97) rfl rfl rfl ?_
      refine x_iconst (pc' := 98) rfl rfl iconst_1 ?_
      refine x_aload_n (pc' := 99) rfl rfl rfl ?_
      refine x_get (pc' := 102) rfl rfl rfl (hT2.1) rfl ?_
      refine x_eqi htu' ?_
      refine x_isub (pc' := 103) rfl rfl ?_
      refine x_eqi (show (1 : Int32) - nI tu = nI (1 - tu) from pk_sub (a := 1) (b := tu) htu1) ?_
      refine x_put (pc' := 106) rfl rfl rfl (hT2.1) (Nat.le_of_ble_eq_true rfl) rfl rfl rfl rfl (fun f5 e5 => ?_)
      have hT3 := hT2.num 3 e5 (x_tFs3 _ _ _)
      have hF3 := hF2.up e5 (x_ot_in (by omega) (by omega))
      refine x_aload_n (pc' := 107) rfl rfl rfl ?_
      refine x_dup (pc' := 108) rfl rfl rfl ?_
      refine x_get (pc' := 111) rfl rfl rfl (hT3.1) rfl ?_
      refine x_iconst (pc' := 112) rfl rfl iconst_1 ?_
      refine x_iadd (pc' := 113) rfl rfl ?_
      refine x_put (pc' := 116) rfl rfl rfl (hT3.1) (Nat.le_of_ble_eq_true rfl) rfl rfl rfl rfl (fun f6 e6 => ?_)
      have hT4 := hT3.num 4 e6 (x_tFs4 _ _ _)
      have hF4 := hF3.up e6 (x_ot_in (by omega) (by omega))
      exact x_return rfl rfl (Nat.le_of_ble_eq_true rfl) (Nat.le_of_ble_eq_true rfl) (h _ _ hT4 ⟨r1, rfl, rfl, r4 0 (by decide) (by decide) (by decide), r4 1 (by decide) (by decide) (by decide), r4 2 (by decide) (by decide) (by decide), rfl, congrArg (· + 1) (r4 4 (by decide) (by decide) (by decide)), r5, r6, r7, (if_neg d1).symm⟩ (hFg.trans hF4))
  refine x_aload_n (pc' := 1) rfl rfl rfl ?_
  refine x_iconst (pc' := 2) rfl rfl iconst_0 ?_
  refine x_put (pc' := 5) rfl rfl rfl (hT.1) (Nat.le_of_ble_eq_true rfl) rfl rfl rfl rfl (fun f1 e1 => ?_)
  have hT1 := hT.num 5 e1 (x_tFs5 _ _ _)
  have hF1 := (x_fr.rf (P := x_ot t)).up e1 (x_ot_in (by omega) (by omega))
  refine x_aload_n (pc' := 6) rfl rfl rfl ?_
  refine x_bipush (pc' := 8) rfl rfl bipush_m9 ?_
  refine x_put (pc' := 11) rfl rfl rfl (hT1.1) (Nat.le_of_ble_eq_true rfl) rfl rfl rfl rfl (fun f2 e2 => ?_)
  have hT2 := hT1.num 6 e2 (x_tFs6 _ _ _)
  have hF2 := hF1.up e2 (x_ot_in (by omega) (by omega))
  refine x_aload_n (pc' := 12) rfl rfl rfl ?_
  refine x_iconst (pc' := 13) rfl rfl iconst_0 ?_
  refine x_put (pc' := 16) rfl rfl rfl (hT2.1) (Nat.le_of_ble_eq_true rfl) rfl rfl rfl rfl (fun f3 e3 => ?_)
  have hT3 := hT2.num 7 e3 (x_tFs7 _ _ _)
  have hF3 := hF2.up e3 (x_ot_in (by omega) (by omega))
  refine x_iload_n (pc' := 17) rfl rfl rfl ?_
  refine x_istore_n (pc' := 18) (lv' := [(2, _), (0, _), (1, _)]) rfl rfl (Nat.le_of_ble_eq_true rfl) rfl ?_
  refine x_aload_n (pc' := 19) rfl rfl rfl ?_
  refine x_iload_n (pc' := 20) rfl rfl rfl ?_
  refine x_cV1i (d := 2) (pc' := 23) rfl rfl sX3_70 gX3_canMove (hT3.1) ⟨Nat.le_of_ble_eq_true rfl, Nat.le_of_ble_eq_true rfl⟩ (Nat.le_of_ble_eq_true rfl) ⟨Nat.le_of_ble_eq_true rfl, Nat.le_of_ble_eq_true rfl⟩ ?_
  have hV3 : q_V T (T.1, T.2.1, T.2.2.1, upd (upd (upd T.2.2.2 5 0) 6 (-9)) 7 0) β 0 0 none := ⟨rfl, hβ, rfl, fun j a1 a2 a3 => (pk_un a3).trans ((pk_un a2).trans (pk_un a1)), rfl, rfl, rfl⟩
  refine w_canMove hT3 (fun d => ⟨_, rfl, ?_⟩) (fun d => ⟨_, rfl, ?_⟩)
  · have d2 : 2 ≤ n := Nat.not_lt.mp (fun q => nI_ge (a := n) (b := 2) q (by decide) (by have h2 : (2 : Int32) ≤ T.2.2.2 0 := d.1; rw [hn] at h2; exact h2))
    have d3 : 0 < β b := Nat.pos_of_ne_zero (fun q => by have h2 : (0 : Int32) < T.2.1 (nI b).toNatClampNeg := d.2.2; rw [show T.2.1 (nI b).toNatClampNeg = nI (β b) from by rw [hcl, hβ], q] at h2; exact absurd h2 (by decide))
    have em : q_mv κ n fu ln β b = q_hands κ n fu ln 60 β b 0 0 none := by unfold q_mv; rw [if_pos ⟨d2, d3⟩]
    refine x_istore_n (pc' := 24) (lv' := [(3, _), (2, _), (0, _), (1, _)]) rfl rfl (Nat.le_of_ble_eq_true rfl) rfl ?_
    refine x_lvp [1, 0, 2, 3] rfl ?_
    exact w_mvL (T := T) (f := f) hn hn9 hfu hfu9 hln hln9 hκ hκ5 _ hK 60 β b 0 0 none _ _ rfl (by omega) hb hβ5 (fun p hp => by cases hp) em.symm hT3 hV3 hF3
  · have em : q_mv κ n fu ln β b = (β, 0, 0, none) := by
      unfold q_mv
      rw [if_neg]
      intro q
      refine d ⟨?_, t_has_nI hn hn9 hb, ?_⟩
      · show (2 : Int32) ≤ T.2.2.2 0
        rw [hn]
        exact nI_le (a := 2) (b := n) q.1 (by omega)
      · show (0 : Int32) < T.2.1 (nI b).toNatClampNeg
        rw [hcl, hβ]
        exact nI_lt (a := 0) (b := β b) q.2 (by omega)
    refine x_istore_n (pc' := 24) (lv' := [(3, _), (2, _), (0, _), (1, _)]) rfl rfl (Nat.le_of_ble_eq_true rfl) rfl ?_
    refine x_iload_n (pc' := 25) rfl rfl rfl ?_
    refine x_if_eq (tgt := 80) (pc' := 28) rfl rfl rfl (fun _ => ?_) (fun c25 => absurd ((by decide)) c25)
    refine x_lvp [1, 0, 2, 3] rfl ?_
    refine hK _ _ _ _ hT3 ?_ hF3
    rw [em]
    exact hV3
end MAKE
end
section
-- == 36.msows
/-! The reference makes a move. -/
theorem q_N.trans {M M1 M2 : x_N} {β β' : Nat → Nat} {l l' : Option Nat} (h1 : q_N M M1 β l) (h2 : q_N M1 M2 β' l') : q_N M M2 β' l' := ⟨h2.1, fun j hj => (h2.2.1 j hj).trans (h1.2.1 j hj), h2.2.2.1.trans h1.2.2.1, fun i a b c => (h2.2.2.2.1 i a b c).trans (h1.2.2.2.1 i a b c), h2.2.2.2.2⟩
theorem nI_iff_lt {a b : Nat} (ha : a < 2 ^ 31) (hb : b < 2 ^ 31) : nI a < nI b ↔ a < b := nI_ltI ha hb
section MSOWS
variable {E : x_E} {z : Nat} {f : x_H} {M : x_N} {post : Option Value → x_H → Prop} {n fu ln b tu : Nat} {κ β π : Nat → Nat} {l : Option Nat}
theorem m_swL {b0 : Nat} (hn : M.1 3 = nI n) (hn9 : n ≤ 9) (hfu : M.1 4 = nI fu) (hfu9 : fu < 2 ^ 20) (hln : M.1 5 = nI ln) (hln9 : ln < 2 ^ 31) (hκ : M.2.1 0 = fun i => nI (κ i)) (hκ5 : ∀ i, κ i ≤ 5) (vf : (Nat → Nat) × Nat × Nat × Option Nat)
    (K : ∀ (g : x_H) (Mg : x_N) (v2 : Int32), x_Mdl z g Mg → q_N M Mg vf.1 vf.2.2.2 → Mg.1 14 = nI vf.2.1 → Mg.1 16 = nI vf.2.2.1 → x_fr (fun q => q < 59) f g → X E (x_rm 3 0 0) mX6_sows (x_QM E z 0 0 post) 77 [(2, .int v2), (0, .ref 59), (1, .int (nI b0))] [] z g 0 0) :
    ∀ (k : Nat) (β : Nat → Nat) (hs s sown : Nat) (l : Option Nat) (g : x_H) (Mg : x_N), hs + k = 60 → s ≤ 100 * hs → sown ≤ 100 → (0 < sown → ∃ p, l = some p ∧ p < n) → (∀ i, β i ≤ 100) → (∀ p, l = some p → p < n) → (if 0 < sown ∧ q_full κ β fu (l.getD 0) then q_hands κ n fu ln k β (l.getD 0) hs s l else (β, hs, s, l)) = vf → x_Mdl z g Mg → q_N M Mg β l → Mg.1 14 = nI hs → Mg.1 16 = nI s → x_fr (fun q => q < 59) f g → X E (x_rm 3 0 0) mX6_sows (x_QM E z 0 0 post) 27 [(2, .int (nI sown)), (0, .ref 59), (1, .int (nI b0))] [] z g 0 0 := by
  intro k
  induction k with
  | zero =>
    intro β hs s sown l g Mg hk hs2 hsn hp hβ hl hv hM hN h14 h16 hF
    have hs60 : hs = 60 := by omega
    subst hs60
    have hv0 : (β, 60, s, l) = vf := by
      rw [← hv]
      split <;> rfl
    subst hv0
    by_cases d1 : 0 < sown
    ·
      refine x_iload_n (pc' := 28) rfl rfl rfl ?_
      refine x_if_le (tgt := 77) (pc' := 31) rfl rfl rfl (fun c28 => absurd c28 (Int32.not_le.mpr (nI_lt (a := 0) (b := sown) d1 (by omega)))) (fun _ => ?_)
      refine x_aload_n (pc' := 32) rfl rfl rfl ?_
      refine x_get (pc' := 35) rfl rfl rfl (hM.1) rfl ?_
      refine x_eqi h14 ?_
      refine x_bipush (pc' := 37) rfl rfl bipush_60 ?_
      refine x_icmp_ge (tgt := 77) (pc' := 40) rfl rfl rfl (fun _ => ?_) (fun c37 => absurd ((by decide : (60 : Int32) ≤ nI 60)) c37)
      exact K g Mg _ hM hN h14 h16 hF
    · have h0 : sown = 0 := by omega
      subst h0
      refine x_iload_n (pc' := 28) rfl rfl rfl ?_
      refine x_if_le (tgt := 77) (pc' := 31) rfl rfl rfl (fun _ => ?_) (fun c28 => absurd ((by decide : nI 0 ≤ 0)) c28)
      exact K g Mg _ hM hN h14 h16 hF
  | succ k ih =>
    intro β hs s sown l g Mg hk hs2 hsn hp hβ hl hv hM hN h14 h16 hF
    obtain ⟨r1, r2, r3, r4, r5⟩ := id hN
    have hn' : Mg.1 3 = nI n := (r4 3 (by decide) (by decide) (by decide)).trans hn
    have hfu' : Mg.1 4 = nI fu := (r4 4 (by decide) (by decide) (by decide)).trans hfu
    have hln' : Mg.1 5 = nI ln := (r4 5 (by decide) (by decide) (by decide)).trans hln
    have hκ' : Mg.2.1 0 = fun i => nI (κ i) := (r2 0 (by decide)).trans hκ
    by_cases d1 : 0 < sown
    · obtain ⟨p, hpe, hpn⟩ := hp d1
      have hgd : l.getD 0 = p := by rw [hpe]; rfl
      rw [hgd] at hv
      have e15 : Mg.1 15 = nI p := by rw [r5, hpe]; rfl
      have hcl : (nI p).toNatClampNeg = p := nI_clamp (by omega)
      have hv9 : vp_in (nI p) 9 := vp_in_nI (by omega) (by decide)
      have eβ : Mg.2.1 1 (nI p).toNatClampNeg = nI (β p) := by rw [hcl, r1]
      have eκ : Mg.2.1 0 (nI p).toNatClampNeg = nI (κ p) := by rw [hcl, hκ']
      have b1 := hβ p
      have b2 := hκ5 p
      have hqf : q_from (κ p) fu < 2 ^ 31 := by
        unfold q_from
        repeat' split
        all_goals omega
      have hle := q_hand_le (κ := κ) (fu := fu) (n := n) (ln := ln) (b := p) (l := l) (C := 100) (by decide) hβ
      have hla := q_hand_l (κ := κ) (fu := fu) (ln := ln) hpn hβ hl
      refine x_iload_n (pc' := 28) rfl rfl rfl ?_
      refine x_if_le (tgt := 77) (pc' := 31) rfl rfl rfl (fun c28 => absurd c28 (Int32.not_le.mpr (nI_lt (a := 0) (b := sown) d1 (by omega)))) (fun _ => ?_)
      refine x_aload_n (pc' := 32) rfl rfl rfl ?_
      refine x_get (pc' := 35) rfl rfl rfl (hM.1) rfl ?_
      refine x_eqi h14 ?_
      refine x_bipush (pc' := 37) rfl rfl bipush_60 ?_
      refine x_icmp_ge (tgt := 77) (pc' := 40) rfl rfl rfl (fun c37 => absurd c37 (nI_ge (a := hs) (b := 60) (by omega) (by decide))) (fun _ => ?_)
      refine x_aload_n (pc' := 41) rfl rfl rfl ?_
      refine x_get (pc' := 44) rfl rfl rfl (hM.1) rfl ?_
      refine x_aload_n (pc' := 45) rfl rfl rfl ?_
      refine x_get (pc' := 48) rfl rfl rfl (hM.1) rfl ?_
      refine x_eqi e15 ?_
      refine x_iaload (pc' := 49) rfl rfl (hM.2.1 1 (by decide)) (hv9) ?_
      refine x_eqi eβ ?_
      refine x_aload_n (pc' := 50) rfl rfl rfl ?_
      refine x_aload_n (pc' := 51) rfl rfl rfl ?_
      refine x_get (pc' := 54) rfl rfl rfl (hM.1) rfl ?_
      refine x_aload_n (pc' := 55) rfl rfl rfl ?_
      refine x_get (pc' := 58) rfl rfl rfl (hM.1) rfl ?_
      refine x_eqi e15 ?_
      refine x_iaload (pc' := 59) rfl rfl (hM.2.1 0 (by decide)) (hv9) ?_
      refine x_eqi eκ ?_
      refine x_cV1i (d := 1) (pc' := 62) rfl rfl sX6_93 gX6_soundsFrom (hM.1) ⟨Nat.le_of_ble_eq_true rfl, Nat.le_of_ble_eq_true rfl⟩ (Nat.le_of_ble_eq_true rfl) ⟨Nat.le_of_ble_eq_true rfl, Nat.le_of_ble_eq_true rfl⟩ ?_
      refine m_sounds1 hM hfu' hfu9 b2 ⟨_, rfl, ?_⟩
      by_cases d2 : q_full κ β fu p
      · rw [if_pos ⟨d1, d2⟩] at hv
        rw [if_neg d2.1]
        refine x_icmp_lt (tgt := 77) (pc' := 65) rfl rfl rfl (fun q => absurd q (nI_nlt d2.2 (by omega))) (fun _ => ?_)
        refine x_aload_n (pc' := 66) rfl rfl rfl ?_
        refine x_aload_n (pc' := 67) rfl rfl rfl ?_
        refine x_get (pc' := 70) rfl rfl rfl (hM.1) rfl ?_
        refine x_eqi e15 ?_
        refine x_cV1i (d := 2) (pc' := 73) rfl rfl sX6_90 gX6_sowsHand (hM.1) ⟨Nat.le_of_ble_eq_true rfl, Nat.le_of_ble_eq_true rfl⟩ (Nat.le_of_ble_eq_true rfl) ⟨Nat.le_of_ble_eq_true rfl, Nat.le_of_ble_eq_true rfl⟩ ?_
        refine m_sowsHand hM hn' hn9 hfu' hfu9 hln' hln9 hκ' hκ5 r1 hβ hpn r5 hl h14 h16 (fun f2 M2 hM2 hN2 g14 g16 hF2 => ⟨_, rfl, ?_⟩)
        refine x_istore_n (pc' := 74) (lv' := [(2, _), (0, _), (1, _)]) rfl rfl (Nat.le_of_ble_eq_true rfl) rfl ?_
        refine x_goto (tgt := 27) rfl rfl ?_
        exact ih _ _ _ _ _ _ _ (by omega) (by have := hle.2; omega) hle.2 hla.2 hle.1 hla.1 hv hM2 (hN.trans hN2) g14 g16 (hF.trans hF2)
      · rw [if_neg (fun q => d2 q.2)] at hv
        subst hv
        refine x_icmp_lt (tgt := 77) (pc' := 65) rfl rfl rfl (fun _ => ?_) (fun q => absurd ?_ q)
        · exact K g Mg _ hM hN h14 h16 hF
        · by_cases d3 : κ p = 2
          · rw [if_pos d3]
            exact nI_lt (a := β p) (b := 1000) (by omega) (by decide)
          · rw [if_neg d3]
            exact nI_lt (Nat.not_le.mp (fun q => d2 ⟨d3, q⟩)) hqf
    · have h0 : sown = 0 := by omega
      subst h0
      rw [if_neg (fun q => d1 q.1)] at hv
      subst hv
      refine x_iload_n (pc' := 28) rfl rfl rfl ?_
      refine x_if_le (tgt := 77) (pc' := 31) rfl rfl rfl (fun _ => ?_) (fun c28 => absurd ((by decide : nI 0 ≤ 0)) c28)
      exact K g Mg _ hM hN h14 h16 hF
/-- what sows leaves: a is whether it is aside -/
def q_Fm (M M' : x_N) (v : (Nat → Nat) × Nat × Nat × Option Nat) (π : Nat → Nat) (tu : Nat) (a : Nat) : Prop :=
  M'.2.1 1 = (fun i => nI (q_b1 v.1 (if a = 1 then 0 else π tu) v.2.2.2 i)) ∧ M'.2.1 2 = (fun i => nI (if a = 1 then π i else q_p1 v.1 π tu v.2.2.2 i)) ∧ (∀ j, j ≠ 1 → j ≠ 2 → M'.2.1 j = M.2.1 j) ∧ M'.2.2 = M.2.2 ∧ (∀ i, i ≠ 14 → i ≠ 15 → i ≠ 16 → i ≠ 17 → M'.1 i = M.1 i) ∧ M'.1 14 = nI v.2.1 ∧ M'.1 15 = q_lI v.2.2.2 ∧ M'.1 16 = nI v.2.2.1 ∧ M'.1 17 = (if q_tk1 v.1 (if a = 1 then 0 else π tu) v.2.2.2 = true then 1 else 0)
theorem q_tk1_no {β : Nat → Nat} {pt : Nat} {l : Option Nat} (h : q_tk1 β pt l = false) : q_b1 β pt l = β := by
  unfold q_b1
  rw [h]
  rfl
theorem q_p1_no {β π : Nat → Nat} {tu : Nat} {l : Option Nat} (h : q_tk1 β (π tu) l = false) : q_p1 β π tu l = π := by
  unfold q_p1
  rw [h]
  rfl
theorem m_sows {a : Nat} (hM : x_Mdl z f M) (hn : M.1 3 = nI n) (hn9 : n ≤ 9) (hfu : M.1 4 = nI fu) (hfu9 : fu < 2 ^ 20) (hln : M.1 5 = nI ln) (hln9 : ln < 2 ^ 31) (hκ : M.2.1 0 = fun i => nI (κ i)) (hκ5 : ∀ i, κ i ≤ 5) (hβ : M.2.1 1 = fun i => nI (β i)) (hβ5 : ∀ i, β i ≤ 100) (hb : b < n) (h2n : 2 ≤ n) (hb0 : 0 < β b) (htu : M.1 7 = nI tu) (htu1 : tu ≤ 1) (hπ : M.2.1 2 = fun i => nI (π i)) (hπ5 : ∀ i, π i < 2 ^ 30) (ha : M.1 18 = nI a) (ha1 : a ≤ 1)
    (h : ∀ (f' : x_H) (M' : x_N), x_Mdl z f' M' → q_Fm M M' (q_mv κ n fu ln β b) π tu a → x_fr (fun q => q < 59) f f' → post none f') : Y E 3 mX6_sows [.ref 59, .int (nI b)] z f 0 0 post := by
  refine Y.intro gX6_sows (lv := [(0, .ref 59), (1, .int (nI b))]) rfl (Nat.le_of_ble_eq_true rfl) ?_
  have em : q_mv κ n fu ln β b = q_hands κ n fu ln 60 β b 0 0 none := by unfold q_mv; rw [if_pos ⟨h2n, hb0⟩]
  have hok := q_hands_ok (κ := κ) (n := n) (fu := fu) (ln := ln) (C := 100) (by decide) (by decide) 60 β b 0 0 none hb hβ5 (fun p hp => by cases hp)
  have hle := q_hand_le (κ := κ) (fu := fu) (n := n) (ln := ln) (b := b) (l := none) (C := 100) (by decide) hβ5
  have hla := q_hand_l (κ := κ) (fu := fu) (ln := ln) (l := none) hb hβ5 (fun p hp => by cases hp)
  have hv1 : q_hands κ n fu ln 60 β b 0 0 none = (if 0 < (q_hand κ n fu ln β b none).2.1 ∧ q_full κ (q_hand κ n fu ln β b none).1 fu ((q_hand κ n fu ln β b none).2.2.getD 0) then q_hands κ n fu ln 59 (q_hand κ n fu ln β b none).1 ((q_hand κ n fu ln β b none).2.2.getD 0) (0 + 1) (0 + (q_hand κ n fu ln β b none).2.1) (q_hand κ n fu ln β b none).2.2 else ((q_hand κ n fu ln β b none).1, 0 + 1, 0 + (q_hand κ n fu ln β b none).2.1, (q_hand κ n fu ln β b none).2.2)) := rfl
  rw [← em] at hok hv1
  generalize q_mv κ n fu ln β b = v at *
  have hclt : (nI tu).toNatClampNeg = tu := nI_clamp (by omega)
  have hvt : vp_in (nI tu) 2 := vp_in_nI (by omega) (by decide)
  have p1 := hπ5 tu
  refine x_aload_n (pc' := 1) rfl rfl rfl ?_
  refine x_iconst (pc' := 2) rfl rfl iconst_0 ?_
  refine x_put (pc' := 5) rfl rfl rfl (hM.1) (Nat.le_of_ble_eq_true rfl) rfl rfl rfl rfl (fun f1 e1 => ?_)
  have hM1 := hM.num 14 e1 (x_mFs14 _ _)
  have hF1 := (x_fr.rf (P := fun q => q < 59)).up e1 (by decide)
  refine x_aload_n (pc' := 6) rfl rfl rfl ?_
  refine x_bipush (pc' := 8) rfl rfl bipush_m9 ?_
  refine x_put (pc' := 11) rfl rfl rfl (hM1.1) (Nat.le_of_ble_eq_true rfl) rfl rfl rfl rfl (fun f2 e2 => ?_)
  have hM2 := hM1.num 15 e2 (x_mFs15 _ _)
  have hF2 := hF1.up e2 (by decide)
  refine x_aload_n (pc' := 12) rfl rfl rfl ?_
  refine x_iconst (pc' := 13) rfl rfl iconst_0 ?_
  refine x_put (pc' := 16) rfl rfl rfl (hM2.1) (Nat.le_of_ble_eq_true rfl) rfl rfl rfl rfl (fun f3 e3 => ?_)
  have hM3 := hM2.num 16 e3 (x_mFs16 _ _)
  have hF3 := hF2.up e3 (by decide)
  refine x_aload_n (pc' := 17) rfl rfl rfl ?_
  refine x_iconst (pc' := 18) rfl rfl iconst_0 ?_
  refine x_put (pc' := 21) rfl rfl rfl (hM3.1) (Nat.le_of_ble_eq_true rfl) rfl rfl rfl rfl (fun f4 e4 => ?_)
  have hM4 := hM3.num 17 e4 (x_mFs17 _ _)
  have hF4 := hF3.up e4 (by decide)
  refine x_aload_n (pc' := 22) rfl rfl rfl ?_
  refine x_iload_n (pc' := 23) rfl rfl rfl ?_
  refine x_cV1i (d := 2) (pc' := 26) rfl rfl sX6_90 gX6_sowsHand (hM4.1) ⟨Nat.le_of_ble_eq_true rfl, Nat.le_of_ble_eq_true rfl⟩ (Nat.le_of_ble_eq_true rfl) ⟨Nat.le_of_ble_eq_true rfl, Nat.le_of_ble_eq_true rfl⟩ ?_
  refine m_sowsHand (hs := 0) (s0 := 0) (l := none) hM4 hn hn9 hfu hfu9 hln hln9 hκ hκ5 hβ hβ5 hb rfl (fun p hp => by cases hp) rfl rfl (fun f5 M5 hM5 hN5 g14 g16 hF5 => ⟨_, rfl, ?_⟩)
  refine x_istore_n (pc' := 27) (lv' := [(2, _), (0, _), (1, _)]) rfl rfl (Nat.le_of_ble_eq_true rfl) rfl ?_
  refine x_lvp [0, 1, 2] rfl ?_
  refine m_swL (M := (upd (upd (upd (upd M.1 14 0) 15 (-9)) 16 0) 17 0, M.2.1, M.2.2)) (f := f) hn hn9 hfu hfu9 hln hln9 hκ hκ5 v ?_ 59 _ (0 + 1) (0 + (q_hand κ n fu ln β b none).2.1) _ _ f5 M5 rfl (by have := hle.2; omega) hle.2 hla.2 hle.1 hla.1 hv1.symm hM5 hN5 g14 g16 (hF4.trans hF5)
  intro g Mg v2 hMg hNg k14 k16 hFg
  obtain ⟨r1, r2, r3, r4, r5⟩ := id hNg
  have n18 : Mg.1 18 = nI a := (r4 18 (by decide) (by decide) (by decide)).trans ha
  have n7 : Mg.1 7 = nI tu := (r4 7 (by decide) (by decide) (by decide)).trans htu
  have n17 : Mg.1 17 = 0 := r4 17 (by decide) (by decide) (by decide)
  have eπ : Mg.2.1 2 = fun i => nI (π i) := (r2 2 (by decide)).trans hπ
  have eπt : Mg.2.1 2 (nI tu).toNatClampNeg = nI (π tu) := by rw [hclt, eπ]
  have hno : q_tk1 v.1 (if a = 1 then 0 else π tu) v.2.2.2 = false → post none g := by
    intro hq
    refine h g Mg hMg ⟨?_, ?_, fun j j1 j2 => r2 j j1, r3, fun i i1 i2 i3 i4 => ?_, k14, r5, k16, ?_⟩ hFg
    · rw [q_tk1_no hq]
      exact r1
    · rw [eπ]
      by_cases d : a = 1
      · simp only [if_pos d]
      · rw [if_neg d] at hq
        simp only [if_neg d]
        rw [q_p1_no hq]
    · refine (r4 i i1 i2 i3).trans ?_
      show upd (upd (upd (upd M.1 14 0) 15 (-9)) 16 0) 17 0 i = M.1 i
      rw [pk_un i4, pk_un i3, pk_un i2, pk_un i1]
    · rw [hq]
      exact n17
  rcases hlc : v.2.2.2 with _ | p
  · rw [hlc] at hno r5
    refine x_aload_n (pc' := 78) rfl rfl rfl ?_
    refine x_get (pc' := 81) rfl rfl rfl (hMg.1) rfl ?_
    refine x_eqi (show Mg.1 15 = -9 from r5) ?_
    refine x_bipush (pc' := 83) rfl rfl bipush_m9 ?_
    refine x_icmp_eq (tgt := 160) (pc' := 86) rfl rfl rfl (fun _ => ?_) (fun c83 => absurd (rfl) c83)
    exact x_return rfl rfl (Nat.le_of_ble_eq_true rfl) (Nat.le_of_ble_eq_true rfl) (hno rfl)
  · have hp := hok.2 p hlc
    have hcl : (nI p).toNatClampNeg = p := nI_clamp (by omega)
    have hv9 : vp_in (nI p) 9 := vp_in_nI (by omega) (by decide)
    have eβ : Mg.2.1 1 (nI p).toNatClampNeg = nI (v.1 p) := by rw [hcl, r1]
    have b1 := hok.1 p
    have e15 : Mg.1 15 = nI p := by rw [r5, hlc]; rfl
    have hyes : ∀ (f' : x_H) (M' : x_N), q_tk1 v.1 (if a = 1 then 0 else π tu) (some p) = true → x_Mdl z f' M' → M'.1 = upd Mg.1 17 1 → M'.2.1 = x_ua (x_ua Mg.2.1 1 (fun i => nI (q_up v.1 p 0 i))) 2 (upd (Mg.2.1 2) tu (nI (π tu) + (if a = 1 then 0 else 1))) → M'.2.2 = Mg.2.2 → x_fr (fun q => q < 59) g f' → post none f' := by
      intro f' M' hq hM' m1 m2 m3 hF'
      refine h f' M' hM' ⟨?_, ?_, fun j j1 j2 => ?_, m3.trans r3, fun i i1 i2 i3 i4 => ?_, ?_, ?_, ?_, ?_⟩ (hFg.trans hF')
      · rw [m2, hlc]
        unfold q_b1
        rw [hq]
        rfl
      · rw [m2, hlc]
        show upd (Mg.2.1 2) tu (nI (π tu) + (if a = 1 then 0 else 1)) = _
        rw [eπ]
        by_cases d : a = 1
        · simp only [if_pos d]
          rw [show nI (π tu) + 0 = nI (π tu) from Int32.add_zero _, q_up_I]
          funext i
          unfold q_up
          by_cases di : i = tu
          · rw [if_pos di, di]
          · rw [if_neg di]
        · simp only [if_neg d] at hq ⊢
          rw [nI_1, q_up_I]
          unfold q_p1
          rw [hq]
          rfl
      · rw [m2]
        show (if j = 2 then _ else if j = 1 then _ else Mg.2.1 j) = _
        rw [if_neg j2, if_neg j1]
        exact r2 j j1
      · rw [m1, pk_un i4]
        refine (r4 i i1 i2 i3).trans ?_
        show upd (upd (upd (upd M.1 14 0) 15 (-9)) 16 0) 17 0 i = M.1 i
        rw [pk_un i4, pk_un i3, pk_un i2, pk_un i1]
      · rw [m1, pk_un (by decide)]
        exact k14
      · rw [m1, pk_un (by decide)]
        exact r5
      · rw [m1, pk_un (by decide)]
        exact k16
      · rw [m1, hlc, hq, pk_us]
        rfl
    rw [hlc] at hno
    refine x_aload_n (pc' := 78) rfl rfl rfl ?_
    refine x_get (pc' := 81) rfl rfl rfl (hMg.1) rfl ?_
    refine x_eqi e15 ?_
    refine x_bipush (pc' := 83) rfl rfl bipush_m9 ?_
    refine x_icmp_eq (tgt := 160) (pc' := 86) rfl rfl rfl (fun c83 => absurd c83 ((fun q => nI_pos (n := p) (by omega) (by rw [q]; decide)))) (fun _ => ?_)
    refine x_aload_n (pc' := 87) rfl rfl rfl ?_
    refine x_get (pc' := 90) rfl rfl rfl (hMg.1) rfl ?_
    refine x_aload_n (pc' := 91) rfl rfl rfl ?_
    refine x_get (pc' := 94) rfl rfl rfl (hMg.1) rfl ?_
    refine x_eqi e15 ?_
    refine x_iaload (pc' := 95) rfl rfl (hMg.2.1 1 (by decide)) (hv9) ?_
    refine x_eqi eβ ?_
    refine x_iconst (pc' := 96) rfl rfl iconst_1 ?_
    by_cases d1 : v.1 p = 1
    · refine x_icmp_ne (tgt := 160) (pc' := 99) rfl rfl rfl (fun q => absurd (show nI (v.1 p) = 1 by rw [d1]; decide) q) (fun _ => ?_)
      refine x_aload_n (pc' := 100) rfl rfl rfl ?_
      refine x_get (pc' := 103) rfl rfl rfl (hMg.1) rfl ?_
      refine x_eqi n18 ?_
      by_cases d2 : a = 1
      · refine x_if_ne (tgt := 121) (pc' := 106) rfl rfl rfl (fun _ => ?_) (fun q => absurd (show nI a = 0 from q) (by rw [d2]; decide))
        have hq : q_tk1 v.1 (if a = 1 then 0 else π tu) (some p) = true := by simp [q_tk1, d1, d2]
        refine x_aload_n (pc' := 122) rfl rfl rfl ?_
        refine x_get (pc' := 125) rfl rfl rfl (hMg.1) rfl ?_
        refine x_aload_n (pc' := 126) rfl rfl rfl ?_
        refine x_get (pc' := 129) rfl rfl rfl (hMg.1) rfl ?_
        refine x_eqi e15 ?_
        refine x_iconst (pc' := 130) rfl rfl iconst_0 ?_
        refine x_iastore (pc' := 131) rfl rfl (hMg.2.1 1 (by decide)) (hv9) (fun f5 e5 => ?_)
        have hM6 := hMg.arr 1 (by decide) e5
        have hF6 := (x_fr.rf (P := fun q => q < 59)).up e5 (by decide)
        rw [hcl, r1, show (0 : Int32) = nI 0 from rfl, q_up_I] at hM6
        refine x_aload_n (pc' := 132) rfl rfl rfl ?_
        refine x_iconst (pc' := 133) rfl rfl iconst_1 ?_
        refine x_put (pc' := 136) rfl rfl rfl (hM6.1) (Nat.le_of_ble_eq_true rfl) rfl rfl rfl rfl (fun f6 e6 => ?_)
        have hM7 := hM6.num 17 e6 (x_mFs17 _ _)
        have hF7 := hF6.up e6 (by decide)
        refine x_aload_n (pc' := 137) rfl rfl rfl ?_
        refine x_get (pc' := 140) rfl rfl rfl (hM7.1) rfl ?_
        refine x_aload_n (pc' := 141) rfl rfl rfl ?_
        refine x_get (pc' := 144) rfl rfl rfl (hM7.1) rfl ?_
        refine x_eqi n7 ?_
        refine x_dup2 (pc' := 145) rfl rfl rfl rfl ?_
        refine x_iaload (pc' := 146) rfl rfl (hM7.2.1 2 (by decide)) (hvt) ?_
        refine x_eqi eπt ?_
        refine x_aload_n (pc' := 147) rfl rfl rfl ?_
        refine x_get (pc' := 150) rfl rfl rfl (hM7.1) rfl ?_
        refine x_eqi n18 ?_
        refine x_if_eq (tgt := 157) (pc' := 153) rfl rfl rfl (fun c150 => absurd c150 ((by rw [d2]; decide))) (fun _ => ?_)
        refine x_iconst (pc' := 154) rfl rfl iconst_0 ?_
        refine x_goto (tgt := 158) rfl rfl ?_
        refine x_iadd (pc' := 159) rfl rfl ?_
        refine x_iastore (pc' := 160) rfl rfl (hM7.2.1 2 (by decide)) (hvt) (fun f7 e7 => ?_)
        have hM8 := hM7.arr 2 (by decide) e7
        have hF8 := hF7.up e7 (by decide)
        rw [hclt] at hM8
        exact x_return rfl rfl (Nat.le_of_ble_eq_true rfl) (Nat.le_of_ble_eq_true rfl) (hyes _ _ hq hM8 rfl (by rw [if_pos d2]; rfl) rfl hF8)
      · have d20 : a = 0 := by omega
        refine x_if_ne (tgt := 121) (pc' := 106) rfl rfl rfl (fun q => absurd (show nI a = 0 by rw [d20]; rfl) q) (fun _ => ?_)
        refine x_aload_n (pc' := 107) rfl rfl rfl ?_
        refine x_get (pc' := 110) rfl rfl rfl (hMg.1) rfl ?_
        refine x_aload_n (pc' := 111) rfl rfl rfl ?_
        refine x_get (pc' := 114) rfl rfl rfl (hMg.1) rfl ?_
        refine x_eqi n7 ?_
        refine x_iaload (pc' := 115) rfl rfl (hMg.2.1 2 (by decide)) (hvt) ?_
        refine x_eqi eπt ?_
        refine x_sipush (pc' := 118) rfl rfl sipush_999 ?_
        by_cases d3 : π tu < 999
        · refine x_icmp_ge (tgt := 160) (pc' := 121) rfl rfl rfl (fun q => absurd q (nI_ge (b := 999) d3 (by decide))) (fun _ => ?_)
          have hq : q_tk1 v.1 (if a = 1 then 0 else π tu) (some p) = true := by simp [q_tk1, d1, d2, d3]
          refine x_aload_n (pc' := 122) rfl rfl rfl ?_
          refine x_get (pc' := 125) rfl rfl rfl (hMg.1) rfl ?_
          refine x_aload_n (pc' := 126) rfl rfl rfl ?_
          refine x_get (pc' := 129) rfl rfl rfl (hMg.1) rfl ?_
          refine x_eqi e15 ?_
          refine x_iconst (pc' := 130) rfl rfl iconst_0 ?_
          refine x_iastore (pc' := 131) rfl rfl (hMg.2.1 1 (by decide)) (hv9) (fun f8 e8 => ?_)
          have hM6 := hMg.arr 1 (by decide) e8
          have hF6 := (x_fr.rf (P := fun q => q < 59)).up e8 (by decide)
          rw [hcl, r1, show (0 : Int32) = nI 0 from rfl, q_up_I] at hM6
          refine x_aload_n (pc' := 132) rfl rfl rfl ?_
          refine x_iconst (pc' := 133) rfl rfl iconst_1 ?_
          refine x_put (pc' := 136) rfl rfl rfl (hM6.1) (Nat.le_of_ble_eq_true rfl) rfl rfl rfl rfl (fun f9 e9 => ?_)
          have hM7 := hM6.num 17 e9 (x_mFs17 _ _)
          have hF7 := hF6.up e9 (by decide)
          refine x_aload_n (pc' := 137) rfl rfl rfl ?_
          refine x_get (pc' := 140) rfl rfl rfl (hM7.1) rfl ?_
          refine x_aload_n (pc' := 141) rfl rfl rfl ?_
          refine x_get (pc' := 144) rfl rfl rfl (hM7.1) rfl ?_
          refine x_eqi n7 ?_
          refine x_dup2 (pc' := 145) rfl rfl rfl rfl ?_
          refine x_iaload (pc' := 146) rfl rfl (hM7.2.1 2 (by decide)) (hvt) ?_
          refine x_eqi eπt ?_
          refine x_aload_n (pc' := 147) rfl rfl rfl ?_
          refine x_get (pc' := 150) rfl rfl rfl (hM7.1) rfl ?_
          refine x_eqi n18 ?_
          refine x_if_eq (tgt := 157) (pc' := 153) rfl rfl rfl (fun _ => ?_) (fun c150 => absurd ((by rw [d20]; rfl)) c150)
          refine x_iconst (pc' := 158) rfl rfl iconst_1 ?_
          refine x_iadd (pc' := 159) rfl rfl ?_
          refine x_iastore (pc' := 160) rfl rfl (hM7.2.1 2 (by decide)) (hvt) (fun f10 e10 => ?_)
          have hM8 := hM7.arr 2 (by decide) e10
          have hF8 := hF7.up e10 (by decide)
          rw [hclt] at hM8
          exact x_return rfl rfl (Nat.le_of_ble_eq_true rfl) (Nat.le_of_ble_eq_true rfl) (hyes _ _ hq hM8 rfl (by rw [if_neg d2]; rfl) rfl hF8)
        · refine x_icmp_ge (tgt := 160) (pc' := 121) rfl rfl rfl (fun _ => ?_) (fun q => absurd (nI_le (a := 999) (b := π tu) (by omega) (by omega)) q)
          exact x_return rfl rfl (Nat.le_of_ble_eq_true rfl) (Nat.le_of_ble_eq_true rfl) (hno (by simp [q_tk1, d2, d3]))
    · refine x_icmp_ne (tgt := 160) (pc' := 99) rfl rfl rfl (fun _ => ?_) (fun q => absurd ((nI_eq (a := v.1 p) (b := 1) (by omega) (by decide)).mp q) d1)
      exact x_return rfl rfl (Nat.le_of_ble_eq_true rfl) (Nat.le_of_ble_eq_true rfl) (hno (by simp [q_tk1, d1]))
theorem m_moves (hM : x_Mdl z f M) (hn : M.1 3 = nI n) (hn9 : n ≤ 9) (hfu : M.1 4 = nI fu) (hfu9 : fu < 2 ^ 20) (hln : M.1 5 = nI ln) (hln9 : ln < 2 ^ 31) (hκ : M.2.1 0 = fun i => nI (κ i)) (hκ5 : ∀ i, κ i ≤ 5) (hβ : M.2.1 1 = fun i => nI (β i)) (hβ5 : ∀ i, β i ≤ 100) (hb : b < n) (h2n : 2 ≤ n) (hb0 : 0 < β b) (htu : M.1 7 = nI tu) (htu1 : tu ≤ 1) (hπ : M.2.1 2 = fun i => nI (π i)) (hπ5 : ∀ i, π i < 2 ^ 30) (ha : M.1 18 = 0)
    (h : ∀ (f' : x_H) (M' : x_N) (M1 : x_N), x_Mdl z f' M' → q_Fm M M1 (q_mv κ n fu ln β b) π tu 0 → M' = (upd M1.1 7 (nI (1 - tu)), M1.2.1, M1.2.2) → x_fr (fun q => q < 59) f f' → post none f') : Y E 4 mX6_moves [.ref 59, .int (nI b)] z f 0 0 post := by
  refine Y.intro gX6_moves (lv := [(0, .ref 59), (1, .int (nI b))]) rfl (Nat.le_of_ble_eq_true rfl) ?_
  refine x_aload_n (pc' := 1) rfl rfl rfl ?_
  refine x_iload_n (pc' := 2) rfl rfl rfl ?_
  refine x_cV1v (d := 3) (pc' := 5) rfl rfl sX6_106 gX6_sows (hM.1) ⟨Nat.le_of_ble_eq_true rfl, Nat.le_of_ble_eq_true rfl⟩ (Nat.le_of_ble_eq_true rfl) ⟨Nat.le_of_ble_eq_true rfl, Nat.le_of_ble_eq_true rfl⟩ ?_
  refine m_sows (a := 0) hM hn hn9 hfu hfu9 hln hln9 hκ hκ5 hβ hβ5 hb h2n hb0 htu htu1 hπ hπ5 ha (by decide) (fun f1 M1 hM1 hG1 hF1 => ⟨rfl, ?_⟩)
  refine x_aload_n (pc' := 6) rfl rfl rfl ?_
  refine x_iconst (pc' := 7) rfl rfl iconst_1 ?_
  refine x_aload_n (pc' := 8) rfl rfl rfl ?_
  refine x_get (pc' := 11) rfl rfl rfl (hM1.1) rfl ?_
  refine x_eqi (show M1.1 7 = nI tu from (hG1.2.2.2.2.1 7 (by decide) (by decide) (by decide) (by decide)).trans htu) ?_
  refine x_isub (pc' := 12) rfl rfl ?_
  refine x_eqi (show (1 : Int32) - nI tu = nI (1 - tu) from pk_sub (a := 1) (b := tu) htu1) ?_
  refine x_put (pc' := 15) rfl rfl rfl (hM1.1) (Nat.le_of_ble_eq_true rfl) rfl rfl rfl rfl (fun f1 e1 => ?_)
  have hM2 := hM1.num 7 e1 (x_mFs7 _ _)
  have hF2 := hF1.up e1 (by decide)
  exact x_return rfl rfl (Nat.le_of_ble_eq_true rfl) (Nat.le_of_ble_eq_true rfl) (h _ _ M1 hM2 hG1 rfl hF2)
end MSOWS
end
