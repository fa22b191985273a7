/-! The game over Nat: a hand, the hands of a move, a move. -/
def q_up (f : Nat → Nat) (k v : Nat) : Nat → Nat := fun j => if j = k then v else f j
theorem q_up_s (f : Nat → Nat) (k v : Nat) : q_up f k v k = v := if_pos rfl
theorem q_up_n (f : Nat → Nat) {k j : Nat} (v : Nat) (h : j ≠ k) : q_up f k v j = f j := if_neg h
theorem q_up_I (f : Nat → Nat) (k v : Nat) : upd (fun i => nI (f i)) k (nI v) = fun i => nI (q_up f k v i) := by
  funext i
  unfold q_up upd
  split <;> rfl
theorem q_up_le {f : Nat → Nat} {k v B : Nat} (h : ∀ i, f i ≤ B) (hv : v ≤ B) : ∀ i, q_up f k v i ≤ B := by
  intro i
  unfold q_up
  split
  · exact hv
  · exact h i
def q_nx (n ln p : Nat) : Nat := if ln = 1 then (if p = 0 then n - 1 else p - 1) else (if n ≤ p + 1 then 0 else p + 1)
theorem q_nx_lt {n ln p : Nat} (hp : p < n) : q_nx n ln p < n := by
  unfold q_nx
  split <;> split <;> omega
abbrev q_tk (κ β : Nat → Nat) (fu i : Nat) : Prop := β i < 99 ∧ (κ i = 4 → β i < fu)
/-- beans, place, in hand, passed, sown, last -/
abbrev q_W : Type := (Nat → Nat) × Nat × Nat × Nat × Nat × Option Nat
def q_st (κ : Nat → Nat) (n fu ln : Nat) (w : q_W) : q_W :=
  if q_tk κ w.1 fu (q_nx n ln w.2.1) then (q_up w.1 (q_nx n ln w.2.1) (w.1 (q_nx n ln w.2.1) + 1), q_nx n ln w.2.1, w.2.2.1 - 1, 0, w.2.2.2.2.1 + 1, some (q_nx n ln w.2.1))
  else (w.1, q_nx n ln w.2.1, w.2.2.1, w.2.2.2.1 + 1, w.2.2.2.2.1, w.2.2.2.2.2)
def q_run (κ : Nat → Nat) (n fu ln : Nat) : Nat → q_W → q_W
  | 0, w => w
  | k + 1, w => if 0 < w.2.2.1 ∧ w.2.2.2.1 < n then q_run κ n fu ln k (q_st κ n fu ln w) else w
def q_ms (n : Nat) (w : q_W) : Nat := w.2.2.1 * n + (n - w.2.2.2.1)
theorem q_ms_st {κ : Nat → Nat} {n fu ln : Nat} {w : q_W} (h : 0 < w.2.2.1) (hq : w.2.2.2.1 < n) : q_ms n (q_st κ n fu ln w) < q_ms n w := by
  unfold q_st q_ms
  split
  · show (w.2.2.1 - 1) * n + (n - 0) < _
    obtain ⟨m, hm⟩ : ∃ m, w.2.2.1 = m + 1 := ⟨w.2.2.1 - 1, by omega⟩
    rw [hm, Nat.add_sub_cancel, Nat.add_mul]
    omega
  · show w.2.2.1 * n + (n - (w.2.2.2.1 + 1)) < _
    omega
theorem q_run_stop {κ : Nat → Nat} {n fu ln k : Nat} {w : q_W} (h : ¬ (0 < w.2.2.1 ∧ w.2.2.2.1 < n)) : q_run κ n fu ln k w = w := by
  cases k with
  | zero => rfl
  | succ k =>
    unfold q_run
    rw [if_neg h]
theorem q_run_go {κ : Nat → Nat} {n fu ln k : Nat} {w : q_W} (h : 0 < w.2.2.1 ∧ w.2.2.2.1 < n) : q_run κ n fu ln (k + 1) w = q_run κ n fu ln k (q_st κ n fu ln w) := by
  rw [q_run, if_pos h]
/-- what stays while a hand is sown -/
def q_ok (n B : Nat) (w : q_W) : Prop := w.2.1 < n ∧ (∀ i, w.1 i ≤ 100) ∧ w.2.2.2.1 ≤ n ∧ w.2.2.2.2.1 + w.2.2.1 ≤ B ∧ (∀ l, w.2.2.2.2.2 = some l → l < n)
theorem q_ok_st {κ : Nat → Nat} {n fu ln B : Nat} {w : q_W} (h : q_ok n B w) (h1 : 0 < w.2.2.1) (h2 : w.2.2.2.1 < n) : q_ok n B (q_st κ n fu ln w) := by
  obtain ⟨a1, a2, a3, a4, a5⟩ := h
  have a6 := q_nx_lt (ln := ln) a1
  unfold q_st
  split
  · rename_i ht
    refine ⟨a6, q_up_le a2 (by have := ht.1; omega), Nat.zero_le _, ?_, ?_⟩
    · show w.2.2.2.2.1 + 1 + (w.2.2.1 - 1) ≤ B
      omega
    · intro l hl
      have := Option.some.inj hl
      omega
  · exact ⟨a6, a2, h2, a4, a5⟩
theorem q_ok_run {κ : Nat → Nat} {n fu ln B : Nat} : ∀ (k : Nat) (w : q_W), q_ok n B w → q_ok n B (q_run κ n fu ln k w)
  | 0, w, h => h
  | k + 1, w, h => by
    by_cases hg : 0 < w.2.2.1 ∧ w.2.2.2.1 < n
    · rw [q_run_go hg]
      exact q_ok_run k _ (q_ok_st h hg.1 hg.2)
    · rw [q_run_stop hg]
      exact h
theorem q_run_more {κ : Nat → Nat} {n fu ln : Nat} : ∀ (k k' : Nat) (w : q_W), q_ms n w ≤ k → q_ms n w ≤ k' → q_run κ n fu ln k w = q_run κ n fu ln k' w := by
  intro k
  induction k with
  | zero =>
    intro k' w h h'
    by_cases hg : 0 < w.2.2.1 ∧ w.2.2.2.1 < n
    · have := q_ms_st (κ := κ) (fu := fu) (ln := ln) hg.1 hg.2
      omega
    · rw [q_run_stop hg, q_run_stop hg]
  | succ k ih =>
    intro k' w h h'
    by_cases hg : 0 < w.2.2.1 ∧ w.2.2.2.1 < n
    · have h1 := q_ms_st (κ := κ) (fu := fu) (ln := ln) hg.1 hg.2
      cases k' with
      | zero => omega
      | succ k' =>
        rw [q_run_go hg, q_run_go hg]
        exact ih k' _ (by omega) (by omega)
    · rw [q_run_stop hg, q_run_stop hg]
/-- a hand out of b: beans, sown, last -/
def q_hand (κ : Nat → Nat) (n fu ln : Nat) (β : Nat → Nat) (b : Nat) (l : Option Nat) : (Nat → Nat) × Nat × Option Nat :=
  let w := q_run κ n fu ln 1000 (q_up β b 0, b, β b, 0, 0, l)
  (q_up w.1 b (w.1 b + w.2.2.1), w.2.2.2.2.1, w.2.2.2.2.2)
def q_from (k fu : Nat) : Nat := if k = 0 then fu else if k = 3 then 2 * fu else if k = 5 then 12 else (fu + 1) / 2
abbrev q_full (κ β : Nat → Nat) (fu i : Nat) : Prop := κ i ≠ 2 ∧ q_from (κ i) fu ≤ β i
/-- the hands of a move: beans, hands, sown, last; k hands at the most -/
def q_hands (κ : Nat → Nat) (n fu ln : Nat) : Nat → (Nat → Nat) → Nat → Nat → Nat → Option Nat → (Nat → Nat) × Nat × Nat × Option Nat
  | 0, β, _, hs, s, l => (β, hs, s, l)
  | k + 1, β, b, hs, s, l =>
    let r := q_hand κ n fu ln β b l
    if 0 < r.2.1 ∧ q_full κ r.1 fu (r.2.2.getD 0) then q_hands κ n fu ln k r.1 (r.2.2.getD 0) (hs + 1) (s + r.2.1) r.2.2
    else (r.1, hs + 1, s + r.2.1, r.2.2)
def q_lI (l : Option Nat) : Int32 := match l with
  | none => (-9)
  | some p => nI p
