/-! What calls leave is a state again; both sides leave the same. -/
theorem q_rn_ok {L : Nat} {ℓ : Nat → Nat} : ∀ (k s : Nat) (G G' : q_G × Nat), q_fa (q_t L ℓ) L k s = none → g_ok 99 G.1 → G.2 ≤ 999 → q_rn (q_t L ℓ) L k s G = .inr G' → g_ok 99 G'.1 ∧ G'.2 ≤ 999
  | 0, s, G, G', _, h, hm, e => by
    have e2 := Sum.inr.inj e
    subst e2
    exact ⟨h, hm⟩
  | k + 1, s, G, G', hf, h, hm, e => by
    by_cases hs : s < L
    · obtain ⟨hsk, hf2⟩ := q_fa_go hs hf
      unfold q_rn at e
      rw [if_pos hs] at e
      split at e
      · cases e
      · rename_i G1 h1
        obtain ⟨o1, o2⟩ := q_do_ok hsk h hm h1
        exact q_rn_ok k _ G1 G' hf2 o1 o2 e
    · rw [q_rn_end hs] at e
      have e2 := Sum.inr.inj e
      subst e2
      exact ⟨h, hm⟩
section OKS
variable {A : q_A} {a b : Int32}
theorem ok_letter (h : a_ok A) : a_ok (s_letter A a).1 := by
  unfold s_letter
  split
  · exact h
  · rename_i h0
    split
    · exact h
    · rename_i h1
      obtain ⟨n, hn, rfl⟩ := nI_of2 (n := 255) (M := 255) rfl h0 (Int32.not_lt.mp (fun q => h1 (Or.inl q)))
      have h2 : ¬ a_lc A = 96 := fun q => h1 (Or.inr q)
      have h3 := h.2.2.2.1
      refine ⟨h.1, h.2.1, h.2.2.1, ?_, q_up_le h.2.2.2.2.1 ?_, h.2.2.2.2.2⟩
      · show a_lc A + 1 ≤ 96
        omega
      · rw [nI_clamp (by omega)]
        exact hn
theorem ok_row (h : a_ok A) : a_ok (s_row A a).1 := by
  unfold s_row
  split
  · exact h
  · rename_i h0
    split
    · exact h
    · rename_i h1
      obtain ⟨n, hn, rfl⟩ := nI_of2 (n := 9) (M := 9) rfl h0 (Int32.not_lt.mp (fun q => h1 (Or.inl q)))
      have h2 : ¬ a_rc A = 12 := fun q => h1 (Or.inr q)
      have h3 := h.2.2.2.2.2.1
      refine ⟨h.1, h.2.1, h.2.2.1, h.2.2.2.1, h.2.2.2.2.1, ?_, q_up_le h.2.2.2.2.2.2 ?_⟩
      · show a_rc A + 1 ≤ 12
        omega
      · rw [nI_clamp (by omega)]
        exact hn
theorem ok_put (h : a_ok A) : a_ok (s_put A a b).1 := by
  unfold s_put
  split
  · rename_i h0
    split
    · exact h
    · rename_i h1
      split
      · exact h
      · rename_i h2
        obtain ⟨n, hn, rfl⟩ := nI_of2 (n := 20) (M := 20) rfl h1 (Int32.not_lt.mp h2)
        refine s_g_ok h (g_bm_ok h.1 h0.2 (Nat.le_refl 99) ?_)
        rw [nI_clamp (by omega)]
        omega
  · exact h
theorem ok_set (h : a_ok A) : a_ok (s_set A a b).1 := by
  unfold s_set
  by_cases e0 : a < 0 ∨ 2 < a
  · rw [if_pos e0]
    exact h
  · rw [if_neg e0]
    by_cases h1 : b < (if a = 0 then 1 else 0)
    · rw [if_pos h1]
      exact h
    · rw [if_neg h1]
      by_cases h2 : (if a = 0 then 9 else 1) < b
      · rw [if_pos h2]
        exact h
      · rw [if_neg h2]
        obtain ⟨a1, a2, a3, a4, a5⟩ := h.1
        refine s_g_ok h ?_
        unfold g_set
        by_cases d0 : a = 0
        · rw [if_pos d0]
          rw [if_pos d0] at h1 h2
          obtain ⟨n, hn, rfl⟩ := nI_of2 (n := 9) (M := 9) rfl (fun q => h1 (Int32.lt_trans q (by decide))) (Int32.not_lt.mp h2)
          have hn1 : 1 ≤ n := Nat.pos_of_ne_zero (fun q => h1 (by rw [q]; decide))
          rw [nI_clamp (by omega)]
          exact ⟨a1, ⟨hn1, hn⟩, a3, a4, a5⟩
        · rw [if_neg d0]
          rw [if_neg d0] at h1 h2
          obtain ⟨n, hn, rfl⟩ := nI_of2 (n := 1) (M := 1) rfl h1 (Int32.not_lt.mp h2)
          rw [nI_clamp (by omega)]
          split
          · exact ⟨a1, a2, hn, a4, a5⟩
          · exact ⟨a1, a2, a3, hn, a5⟩
theorem ok_move (h : a_ok A) : a_ok (s_move A a).1 := by
  unfold s_move
  split
  · rename_i h0
    split
    · split
      · exact h
      · rename_i h2
        refine ⟨g_mv_ok h.1 (by decide) (by decide) h0.2, ?_, h.2.2⟩
        have h3 := h.2.1
        show a_mv A + 1 ≤ 999
        omega
    · exact h
  · exact h
theorem ok_game (h : a_ok A) : a_ok (s_game A).1 := by
  unfold s_game
  split
  · exact ⟨h.1, h.2.1, h.2.2.1, Nat.zero_le _, h.2.2.2.2⟩
  · rename_i hff
    have hL0 : ¬ a_lc A = 0 := fun q => by unfold q_ff at hff; rw [if_pos q] at hff; cases hff
    have hfa : q_fa (q_t (a_lc A) (a_lf A)) (a_lc A) (a_lc A) 0 = none := by
      unfold q_ff at hff
      rw [if_neg hL0] at hff
      exact hff
    split
    · exact ⟨h.1, h.2.1, h.2.2.1, Nat.zero_le _, h.2.2.2.2⟩
    · rename_i G hrn
      obtain ⟨o1, o2⟩ := q_rn_ok _ _ _ _ hfa h.1 h.2.1 hrn
      exact ⟨o1, o2, h.2.2.1, Nat.zero_le _, h.2.2.2.2⟩
theorem ok_image (h : a_ok A) : a_ok (s_image A).1 := ⟨h.1, h.2.1, fun g m e => by
  have e2 := Option.some.inj e
  have e3 : a_g A = g := congrArg Prod.fst e2
  have e4 : a_mv A = m := congrArg Prod.snd e2
  rw [← e3, ← e4]
  exact ⟨h.1, h.2.1⟩, h.2.2.2⟩
theorem ok_on (h : a_ok A) : a_ok (s_on A).1 := by
  unfold s_on
  split
  · exact h
  · rename_i p hp
    obtain ⟨o1, o2⟩ := h.2.2.1 p.1 p.2 hp
    exact ⟨o1, o2, h.2.2⟩
theorem ok_judge (h : a_ok A) : a_ok (s_judge A).1 := ⟨h.1, h.2.1, h.2.2.1, h.2.2.2.1, h.2.2.2.2.1, Nat.zero_le _, h.2.2.2.2.2.2⟩
theorem ok_bowl (h : a_ok A) : a_ok (s_bowl A a b).1 := by
  unfold s_bowl
  repeat' split
  all_goals exact h
theorem ok_by (h : a_ok A) : a_ok (s_by A a b).1 := by
  unfold s_by
  repeat' split
  all_goals exact h
theorem ok_behind (h : a_ok A) : a_ok (s_behind A a b).1 := by
  unfold s_behind
  repeat' split
  all_goals exact h
theorem ok_empties (h : a_ok A) : a_ok (s_empties A a).1 := by
  unfold s_empties
  repeat' split
  all_goals exact h
theorem ok_best (h : a_ok A) : a_ok (s_bestC A a).1 := by
  unfold s_bestC
  repeat' split
  all_goals exact h
theorem ok_worth (h : a_ok A) : a_ok (s_worthC A a).1 := by
  unfold s_worthC
  repeat' split
  all_goals exact h
theorem ok_lost (h : a_ok A) : a_ok (s_lost A).1 := h
theorem ok_back (h : a_ok A) : a_ok (s_backC A a).1 := by
  unfold s_backC
  repeat' split
  all_goals exact h
theorem ok_loop (h : a_ok A) : a_ok (n_loop A a b) := by
  unfold n_loop
  repeat' split
  all_goals exact h
theorem ok_toEmpty (h : a_ok A) : a_ok (s_teC A a b).1 := by
  unfold s_teC
  repeat' split
  all_goals exact h
theorem ok_price (h : a_ok A) : a_ok (s_priceC A a).1 := by
  unfold s_priceC
  repeat' split
  all_goals exact h
theorem ok_sold (h : a_ok A) : a_ok (s_soldC A a).1 := by
  unfold s_soldC
  repeat' split
  all_goals exact h
theorem ok_sounds (h : a_ok A) : a_ok (s_soR A a).1 := by
  unfold s_soR
  repeat' split
  all_goals exact h
theorem ok_next (h : a_ok A) : a_ok (s_neC A a).1 := by
  unfold s_neC
  repeat' split
  all_goals exact h
theorem ok_played (h : a_ok A) : a_ok (s_played A a).1 := by
  unfold s_played
  repeat' split
  all_goals exact h
theorem ok_lots (h : a_ok A) : a_ok (s_lots A a b).1 := by
  unfold s_lots
  repeat' split
  all_goals exact h
theorem st_best : (s_bestR A a).1 = (s_bestC A a).1 := by
  unfold s_bestR s_bestC
  repeat' split
  all_goals rfl
theorem st_worth : (s_worthR A a).1 = (s_worthC A a).1 := by
  unfold s_worthR s_worthC
  repeat' split
  all_goals rfl
theorem st_back : (s_backR A a).1 = (s_backC A a).1 := by
  unfold s_backR s_backC
  repeat' split
  all_goals rfl
theorem st_toEmpty : (s_teR A a b).1 = (s_teC A a b).1 := by
  unfold s_teR s_teC
  repeat' split
  all_goals rfl
theorem st_price : (s_priceR A a).1 = (s_priceC A a).1 := by
  unfold s_priceR s_priceC
  repeat' split
  all_goals rfl
theorem st_sold : (s_soldR A a).1 = (s_soldC A a).1 := by
  unfold s_soldR s_soldC
  repeat' split
  all_goals rfl
theorem st_next : (s_neR A a).1 = (s_neC A a).1 := by
  unfold s_neR s_neC
  repeat' split
  all_goals rfl
end OKS
