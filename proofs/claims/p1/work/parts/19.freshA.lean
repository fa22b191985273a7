/-! The class's first answers: what each call on a new object answers. -/
def a_letter (a : Int32) : Int32 := if a < 0 then (-4) else if 255 < a then (-6) else 1
def a_set (a b : Int32) : Int32 := if a < 0 ∨ 2 < a then (-2) else if b < (if a = 0 then 1 else 0) then (-4) else if (if a = 0 then 9 else 1) < b then (-6) else if a = 0 then 4 else 0
def a_best (a : Int32) : Int32 := if a < 1 then (-4) else if 4 < a then (-6) else (-9)
def a_worth (a : Int32) : Int32 := if a < 1 then 1000000004 else if 4 < a then 1000000006 else 0
def a_sounds (a : Int32) : Int32 := if a < 0 then (-4) else if 40 < a then (-6) else if a = 0 then 1 else 0
def a_next (a : Int32) : Int32 := if a < 0 then (-4) else if 40 < a then (-6) else (-9)
def a_played (a : Int32) : Int32 := if a < 0 ∨ 1 < a then (-2) else 0
def a_row (a : Int32) : Int32 := if a < 0 then (-4) else if 9 < a then (-6) else 1
def a_lots (a : Int32) : Int32 := if a < 1 then 1000000004 else if 20 < a then 1000000006 else 1000000003
def a_count (a : Int32) : Int32 := if a = 6 then 4 else if (¬ a < 0 ∧ ¬ 9 < a) ∨ (¬ a < 11 ∧ ¬ 16 < a) then 0 else (-9)
section FRESHA
variable {E : x_E} {z : Nat} {f : x_H} {post : Option Value → x_H → Prop}
abbrev x_P (post : Option Value → x_H → Prop) (f : x_H) (r : Int32) : Prop := ∀ f' : x_H, x_fr (fun q => 59 ≤ q) f f' → post (some (.int r)) f'
theorem has0 {b : Int32} : ¬ t_has (x_S0.2.1 0) b := by
  intro h
  have h1 : ¬ b < 0 := h.1
  have h2 : b < 0 := h.2.1
  exact h1 h2
theorem f_letter {a : Int32} (hS : x_Sys z f x_S0) (h : x_P post f (a_letter a)) : Y E 9 mX5_letter [.ref 0, .int a] z f 0 0 post := by
  refine Y.intro gX5_letter (lv := [(0, .ref 0), (1, .int a)]) rfl (Nat.le_of_ble_eq_true rfl) ?_
  refine x_iload_n (pc' := 1) rfl rfl rfl ?_
  by_cases c1 : a < 0
  · have e : a_letter a = -4 := by simp [a_letter, c1]
    rw [e] at h
    refine x_if_ge (tgt := 11) (pc' := 4) rfl rfl rfl (fun q => absurd c1 (Int32.not_lt.mpr q)) (fun _ => ?_)
    refine x_aload_n (pc' := 5) rfl rfl rfl ?_
    refine x_bipush (pc' := 7) rfl rfl bipush_m4 ?_
    refine x_cV1i (d := 1) (pc' := 10) rfl rfl sX5_68 gX5_refuse (hS.1) ⟨Nat.le_of_ble_eq_true rfl, Nat.le_of_ble_eq_true rfl⟩ (Nat.le_of_ble_eq_true rfl) ⟨Nat.le_of_ble_eq_true rfl, Nat.le_of_ble_eq_true rfl⟩ ?_
    refine w_refuse (k := 4) (by decide) (by decide) hS (fun f1 hS1 hF1 => ⟨_, rfl, ?_⟩)
    exact x_ireturn rfl rfl rfl (Nat.le_of_ble_eq_true rfl) (Nat.le_of_ble_eq_true rfl) (h _ hF1)
  · refine x_if_ge (tgt := 11) (pc' := 4) rfl rfl rfl (fun _ => ?_) (fun q => absurd (Int32.not_lt.mp c1) q)
    refine x_iload_n (pc' := 12) rfl rfl rfl ?_
    refine x_sipush (pc' := 15) rfl rfl sipush_255 ?_
    by_cases c2 : 255 < a
    · have e : a_letter a = -6 := by simp [a_letter, c1, c2]
      rw [e] at h
      refine x_icmp_gt (tgt := 29) (pc' := 18) rfl rfl rfl (fun _ => ?_) (fun q => absurd c2 q)
      refine x_aload_n (pc' := 30) rfl rfl rfl ?_
      refine x_bipush (pc' := 32) rfl rfl bipush_m6 ?_
      refine x_cV1i (d := 1) (pc' := 35) rfl rfl sX5_68 gX5_refuse (hS.1) ⟨Nat.le_of_ble_eq_true rfl, Nat.le_of_ble_eq_true rfl⟩ (Nat.le_of_ble_eq_true rfl) ⟨Nat.le_of_ble_eq_true rfl, Nat.le_of_ble_eq_true rfl⟩ ?_
      refine w_refuse (k := 6) (by decide) (by decide) hS (fun f1 hS1 hF1 => ⟨_, rfl, ?_⟩)
      exact x_ireturn rfl rfl rfl (Nat.le_of_ble_eq_true rfl) (Nat.le_of_ble_eq_true rfl) (h _ hF1)
    · have e : a_letter a = 1 := by simp [a_letter, c1, c2]
      rw [e] at h
      refine x_icmp_gt (tgt := 29) (pc' := 18) rfl rfl rfl (fun q => absurd q c2) (fun _ => ?_)
      refine x_aload_n (pc' := 19) rfl rfl rfl ?_
      refine x_get (pc' := 22) rfl rfl rfl (hS.1) rfl ?_
      refine x_iload_n (pc' := 23) rfl rfl rfl ?_
      refine x_cV1i (d := 1) (pc' := 26) rfl rfl sX5_72 gX2_add (hS.lt) ⟨Nat.le_of_ble_eq_true rfl, Nat.le_of_ble_eq_true rfl⟩ (Nat.le_of_ble_eq_true rfl) ⟨Nat.le_of_ble_eq_true rfl, Nat.le_of_ble_eq_true rfl⟩ ?_
      refine w_add (n := 0) hS rfl (fun _ f1 hS1 hF1 => ⟨_, rfl, ?_⟩) (fun q => absurd q (by decide)) (by decide)
      refine x_if_ne (tgt := 36) (pc' := 29) rfl rfl rfl (fun _ => ?_) (fun c26 => absurd c26 ((by decide)))
      refine x_aload_n (pc' := 37) rfl rfl rfl ?_
      refine x_get (pc' := 40) rfl rfl rfl (hS1.1) rfl ?_
      refine x_get (pc' := 43) rfl rfl rfl (hS1.lt) rfl ?_
      exact x_ireturn rfl rfl rfl (Nat.le_of_ble_eq_true rfl) (Nat.le_of_ble_eq_true rfl) (h _ hF1)
theorem f_game (hS : x_Sys z f x_S0) (h : x_P post f (-1000)) : Y E 9 mX5_game [.ref 0] z f 0 0 post := by
  refine Y.intro gX5_game (lv := [(0, .ref 0)]) rfl (Nat.le_of_ble_eq_true rfl) ?_
  refine x_aload_n (pc' := 1) rfl rfl rfl ?_
  refine x_get (pc' := 4) rfl rfl rfl (hS.1) rfl ?_
  refine x_aload_n (pc' := 5) rfl rfl rfl ?_
  refine x_get (pc' := 8) rfl rfl rfl (hS.1) rfl ?_
  refine x_cV1v (d := 1) (pc' := 11) rfl rfl sX5_79 gX3_copyFrom ((hS.2.1 2 (by decide)).1) ⟨Nat.le_of_ble_eq_true rfl, Nat.le_of_ble_eq_true rfl⟩ (Nat.le_of_ble_eq_true rfl) ⟨Nat.le_of_ble_eq_true rfl, Nat.le_of_ble_eq_true rfl⟩ ?_
  refine w_copyFrom (hS.2.1 2 (by decide)) (hS.2.1 0 (by decide)) (by decide) (fun f1 hT1 hF1 => ⟨rfl, ?_⟩)
  have hS1 := hS.tab 2 (by decide) hT1 hF1
  have hG1 := hF1.mono (fun q hq => x_tpq 2 (by decide) hq)
  refine x_aload_n (pc' := 12) rfl rfl rfl ?_
  refine x_get (pc' := 15) rfl rfl rfl (hS1.1) rfl ?_
  refine x_aload_n (pc' := 16) rfl rfl rfl ?_
  refine x_get (pc' := 19) rfl rfl rfl (hS1.1) rfl ?_
  refine x_cV1i (d := 4) (pc' := 22) rfl rfl sX5_83 gX2_playOn (hS1.lt) ⟨Nat.le_of_ble_eq_true rfl, Nat.le_of_ble_eq_true rfl⟩ (Nat.le_of_ble_eq_true rfl) ⟨Nat.le_of_ble_eq_true rfl, Nat.le_of_ble_eq_true rfl⟩ ?_
  refine w_playOn0 hS1 rfl ⟨_, rfl, ?_⟩
  refine x_istore_n (pc' := 23) (lv' := [(1, _), (0, _)]) rfl rfl (Nat.le_of_ble_eq_true rfl) rfl ?_
  refine x_aload_n (pc' := 24) rfl rfl rfl ?_
  refine x_get (pc' := 27) rfl rfl rfl (hS1.1) rfl ?_
  refine x_cV0v (d := 1) (pc' := 30) rfl rfl sX5_87 gX2_clear (hS1.lt) ⟨Nat.le_of_ble_eq_true rfl, Nat.le_of_ble_eq_true rfl⟩ (Nat.le_of_ble_eq_true rfl) ⟨Nat.le_of_ble_eq_true rfl, Nat.le_of_ble_eq_true rfl⟩ ?_
  refine w_clear hS1 (fun f2 hS2 hF2 => ⟨rfl, ?_⟩)
  refine x_iload_n (pc' := 31) rfl rfl rfl ?_
  refine x_if_lt (tgt := 45) (pc' := 34) rfl rfl rfl (fun _ => ?_) (fun c31 => absurd ((by decide)) c31)
  refine x_iload_n (pc' := 46) rfl rfl rfl ?_
  exact x_ireturn rfl rfl rfl (Nat.le_of_ble_eq_true rfl) (Nat.le_of_ble_eq_true rfl) (h _ (hG1.trans hF2))
theorem f_bowl {a : Int32} {b : Int32} (hS : x_Sys z f x_S0) (h : x_P post f (-1)) : Y E 9 mX5_bowl [.ref 0, .int a, .int b] z f 0 0 post := by
  refine Y.intro gX5_bowl (lv := [(0, .ref 0), (1, .int a), (2, .int b)]) rfl (Nat.le_of_ble_eq_true rfl) ?_
  refine x_aload_n (pc' := 1) rfl rfl rfl ?_
  refine x_get (pc' := 4) rfl rfl rfl (hS.1) rfl ?_
  refine x_iload_n (pc' := 5) rfl rfl rfl ?_
  refine x_cV1i (d := 1) (pc' := 8) rfl rfl sX5_90 gX3_has ((hS.2.1 0 (by decide)).1) ⟨Nat.le_of_ble_eq_true rfl, Nat.le_of_ble_eq_true rfl⟩ (Nat.le_of_ble_eq_true rfl) ⟨Nat.le_of_ble_eq_true rfl, Nat.le_of_ble_eq_true rfl⟩ ?_
  refine w_has (hS.2.1 0 (by decide)) (fun q => absurd q has0) (fun q => ⟨_, rfl, ?_⟩)
  refine x_if_ne (tgt := 17) (pc' := 11) rfl rfl rfl (fun c8 => absurd ((by decide)) c8) (fun _ => ?_)
  refine x_aload_n (pc' := 12) rfl rfl rfl ?_
  refine x_iconst (pc' := 13) rfl rfl iconst_m1 ?_
  refine x_cV1i (d := 1) (pc' := 16) rfl rfl sX5_68 gX5_refuse (hS.1) ⟨Nat.le_of_ble_eq_true rfl, Nat.le_of_ble_eq_true rfl⟩ (Nat.le_of_ble_eq_true rfl) ⟨Nat.le_of_ble_eq_true rfl, Nat.le_of_ble_eq_true rfl⟩ ?_
  refine w_refuse (k := 1) (by decide) (by decide) hS (fun f1 hS1 hF1 => ⟨_, rfl, ?_⟩)
  exact x_ireturn rfl rfl rfl (Nat.le_of_ble_eq_true rfl) (Nat.le_of_ble_eq_true rfl) (h _ hF1)
theorem f_put {a : Int32} {b : Int32} (hS : x_Sys z f x_S0) (h : x_P post f (-1)) : Y E 9 mX5_put [.ref 0, .int a, .int b] z f 0 0 post := by
  refine Y.intro gX5_put (lv := [(0, .ref 0), (1, .int a), (2, .int b)]) rfl (Nat.le_of_ble_eq_true rfl) ?_
  refine x_aload_n (pc' := 1) rfl rfl rfl ?_
  refine x_get (pc' := 4) rfl rfl rfl (hS.1) rfl ?_
  refine x_iload_n (pc' := 5) rfl rfl rfl ?_
  refine x_cV1i (d := 1) (pc' := 8) rfl rfl sX5_90 gX3_has ((hS.2.1 0 (by decide)).1) ⟨Nat.le_of_ble_eq_true rfl, Nat.le_of_ble_eq_true rfl⟩ (Nat.le_of_ble_eq_true rfl) ⟨Nat.le_of_ble_eq_true rfl, Nat.le_of_ble_eq_true rfl⟩ ?_
  refine w_has (hS.2.1 0 (by decide)) (fun q => absurd q has0) (fun q => ⟨_, rfl, ?_⟩)
  refine x_if_ne (tgt := 17) (pc' := 11) rfl rfl rfl (fun c8 => absurd ((by decide)) c8) (fun _ => ?_)
  refine x_aload_n (pc' := 12) rfl rfl rfl ?_
  refine x_iconst (pc' := 13) rfl rfl iconst_m1 ?_
  refine x_cV1i (d := 1) (pc' := 16) rfl rfl sX5_68 gX5_refuse (hS.1) ⟨Nat.le_of_ble_eq_true rfl, Nat.le_of_ble_eq_true rfl⟩ (Nat.le_of_ble_eq_true rfl) ⟨Nat.le_of_ble_eq_true rfl, Nat.le_of_ble_eq_true rfl⟩ ?_
  refine w_refuse (k := 1) (by decide) (by decide) hS (fun f1 hS1 hF1 => ⟨_, rfl, ?_⟩)
  exact x_ireturn rfl rfl rfl (Nat.le_of_ble_eq_true rfl) (Nat.le_of_ble_eq_true rfl) (h _ hF1)
theorem f_move {a : Int32} (hS : x_Sys z f x_S0) (h : x_P post f (-1)) : Y E 9 mX5_move [.ref 0, .int a] z f 0 0 post := by
  refine Y.intro gX5_move (lv := [(0, .ref 0), (1, .int a)]) rfl (Nat.le_of_ble_eq_true rfl) ?_
  refine x_aload_n (pc' := 1) rfl rfl rfl ?_
  refine x_get (pc' := 4) rfl rfl rfl (hS.1) rfl ?_
  refine x_iload_n (pc' := 5) rfl rfl rfl ?_
  refine x_cV1i (d := 1) (pc' := 8) rfl rfl sX5_90 gX3_has ((hS.2.1 0 (by decide)).1) ⟨Nat.le_of_ble_eq_true rfl, Nat.le_of_ble_eq_true rfl⟩ (Nat.le_of_ble_eq_true rfl) ⟨Nat.le_of_ble_eq_true rfl, Nat.le_of_ble_eq_true rfl⟩ ?_
  refine w_has (hS.2.1 0 (by decide)) (fun q => absurd q has0) (fun q => ⟨_, rfl, ?_⟩)
  refine x_if_ne (tgt := 17) (pc' := 11) rfl rfl rfl (fun c8 => absurd ((by decide)) c8) (fun _ => ?_)
  refine x_aload_n (pc' := 12) rfl rfl rfl ?_
  refine x_iconst (pc' := 13) rfl rfl iconst_m1 ?_
  refine x_cV1i (d := 1) (pc' := 16) rfl rfl sX5_68 gX5_refuse (hS.1) ⟨Nat.le_of_ble_eq_true rfl, Nat.le_of_ble_eq_true rfl⟩ (Nat.le_of_ble_eq_true rfl) ⟨Nat.le_of_ble_eq_true rfl, Nat.le_of_ble_eq_true rfl⟩ ?_
  refine w_refuse (k := 1) (by decide) (by decide) hS (fun f1 hS1 hF1 => ⟨_, rfl, ?_⟩)
  exact x_ireturn rfl rfl rfl (Nat.le_of_ble_eq_true rfl) (Nat.le_of_ble_eq_true rfl) (h _ hF1)
theorem f_by {a : Int32} {b : Int32} (hS : x_Sys z f x_S0) (h : x_P post f (-1)) : Y E 9 mX5_by [.ref 0, .int a, .int b] z f 0 0 post := by
  refine Y.intro gX5_by (lv := [(0, .ref 0), (1, .int a), (2, .int b)]) rfl (Nat.le_of_ble_eq_true rfl) ?_
  refine x_aload_n (pc' := 1) rfl rfl rfl ?_
  refine x_get (pc' := 4) rfl rfl rfl (hS.1) rfl ?_
  refine x_iload_n (pc' := 5) rfl rfl rfl ?_
  refine x_cV1i (d := 1) (pc' := 8) rfl rfl sX5_90 gX3_has ((hS.2.1 0 (by decide)).1) ⟨Nat.le_of_ble_eq_true rfl, Nat.le_of_ble_eq_true rfl⟩ (Nat.le_of_ble_eq_true rfl) ⟨Nat.le_of_ble_eq_true rfl, Nat.le_of_ble_eq_true rfl⟩ ?_
  refine w_has (hS.2.1 0 (by decide)) (fun q => absurd q has0) (fun q => ⟨_, rfl, ?_⟩)
  refine x_if_ne (tgt := 17) (pc' := 11) rfl rfl rfl (fun c8 => absurd ((by decide)) c8) (fun _ => ?_)
  refine x_aload_n (pc' := 12) rfl rfl rfl ?_
  refine x_iconst (pc' := 13) rfl rfl iconst_m1 ?_
  refine x_cV1i (d := 1) (pc' := 16) rfl rfl sX5_68 gX5_refuse (hS.1) ⟨Nat.le_of_ble_eq_true rfl, Nat.le_of_ble_eq_true rfl⟩ (Nat.le_of_ble_eq_true rfl) ⟨Nat.le_of_ble_eq_true rfl, Nat.le_of_ble_eq_true rfl⟩ ?_
  refine w_refuse (k := 1) (by decide) (by decide) hS (fun f1 hS1 hF1 => ⟨_, rfl, ?_⟩)
  exact x_ireturn rfl rfl rfl (Nat.le_of_ble_eq_true rfl) (Nat.le_of_ble_eq_true rfl) (h _ hF1)
theorem f_empties {a : Int32} (hS : x_Sys z f x_S0) (h : x_P post f (-1)) : Y E 9 mX5_empties [.ref 0, .int a] z f 0 0 post := by
  refine Y.intro gX5_empties (lv := [(0, .ref 0), (1, .int a)]) rfl (Nat.le_of_ble_eq_true rfl) ?_
  refine x_aload_n (pc' := 1) rfl rfl rfl ?_
  refine x_get (pc' := 4) rfl rfl rfl (hS.1) rfl ?_
  refine x_iload_n (pc' := 5) rfl rfl rfl ?_
  refine x_cV1i (d := 1) (pc' := 8) rfl rfl sX5_90 gX3_has ((hS.2.1 0 (by decide)).1) ⟨Nat.le_of_ble_eq_true rfl, Nat.le_of_ble_eq_true rfl⟩ (Nat.le_of_ble_eq_true rfl) ⟨Nat.le_of_ble_eq_true rfl, Nat.le_of_ble_eq_true rfl⟩ ?_
  refine w_has (hS.2.1 0 (by decide)) (fun q => absurd q has0) (fun q => ⟨_, rfl, ?_⟩)
  refine x_if_ne (tgt := 17) (pc' := 11) rfl rfl rfl (fun c8 => absurd ((by decide)) c8) (fun _ => ?_)
  refine x_aload_n (pc' := 12) rfl rfl rfl ?_
  refine x_iconst (pc' := 13) rfl rfl iconst_m1 ?_
  refine x_cV1i (d := 1) (pc' := 16) rfl rfl sX5_68 gX5_refuse (hS.1) ⟨Nat.le_of_ble_eq_true rfl, Nat.le_of_ble_eq_true rfl⟩ (Nat.le_of_ble_eq_true rfl) ⟨Nat.le_of_ble_eq_true rfl, Nat.le_of_ble_eq_true rfl⟩ ?_
  refine w_refuse (k := 1) (by decide) (by decide) hS (fun f1 hS1 hF1 => ⟨_, rfl, ?_⟩)
  exact x_ireturn rfl rfl rfl (Nat.le_of_ble_eq_true rfl) (Nat.le_of_ble_eq_true rfl) (h _ hF1)
theorem f_back {a : Int32} (hS : x_Sys z f x_S0) (h : x_P post f (-1)) : Y E 9 mX5_back [.ref 0, .int a] z f 0 0 post := by
  refine Y.intro gX5_back (lv := [(0, .ref 0), (1, .int a)]) rfl (Nat.le_of_ble_eq_true rfl) ?_
  refine x_aload_n (pc' := 1) rfl rfl rfl ?_
  refine x_get (pc' := 4) rfl rfl rfl (hS.1) rfl ?_
  refine x_iload_n (pc' := 5) rfl rfl rfl ?_
  refine x_cV1i (d := 1) (pc' := 8) rfl rfl sX5_90 gX3_has ((hS.2.1 0 (by decide)).1) ⟨Nat.le_of_ble_eq_true rfl, Nat.le_of_ble_eq_true rfl⟩ (Nat.le_of_ble_eq_true rfl) ⟨Nat.le_of_ble_eq_true rfl, Nat.le_of_ble_eq_true rfl⟩ ?_
  refine w_has (hS.2.1 0 (by decide)) (fun q => absurd q has0) (fun q => ⟨_, rfl, ?_⟩)
  refine x_if_ne (tgt := 17) (pc' := 11) rfl rfl rfl (fun c8 => absurd ((by decide)) c8) (fun _ => ?_)
  refine x_aload_n (pc' := 12) rfl rfl rfl ?_
  refine x_iconst (pc' := 13) rfl rfl iconst_m1 ?_
  refine x_cV1i (d := 1) (pc' := 16) rfl rfl sX5_68 gX5_refuse (hS.1) ⟨Nat.le_of_ble_eq_true rfl, Nat.le_of_ble_eq_true rfl⟩ (Nat.le_of_ble_eq_true rfl) ⟨Nat.le_of_ble_eq_true rfl, Nat.le_of_ble_eq_true rfl⟩ ?_
  refine w_refuse (k := 1) (by decide) (by decide) hS (fun f1 hS1 hF1 => ⟨_, rfl, ?_⟩)
  exact x_ireturn rfl rfl rfl (Nat.le_of_ble_eq_true rfl) (Nat.le_of_ble_eq_true rfl) (h _ hF1)
theorem f_loop {a : Int32} {b : Int32} (hS : x_Sys z f x_S0) (h : x_P post f (-1)) : Y E 9 mX5_loop [.ref 0, .int a, .int b] z f 0 0 post := by
  refine Y.intro gX5_loop (lv := [(0, .ref 0), (1, .int a), (2, .int b)]) rfl (Nat.le_of_ble_eq_true rfl) ?_
  refine x_aload_n (pc' := 1) rfl rfl rfl ?_
  refine x_get (pc' := 4) rfl rfl rfl (hS.1) rfl ?_
  refine x_iload_n (pc' := 5) rfl rfl rfl ?_
  refine x_cV1i (d := 1) (pc' := 8) rfl rfl sX5_90 gX3_has ((hS.2.1 0 (by decide)).1) ⟨Nat.le_of_ble_eq_true rfl, Nat.le_of_ble_eq_true rfl⟩ (Nat.le_of_ble_eq_true rfl) ⟨Nat.le_of_ble_eq_true rfl, Nat.le_of_ble_eq_true rfl⟩ ?_
  refine w_has (hS.2.1 0 (by decide)) (fun q => absurd q has0) (fun q => ⟨_, rfl, ?_⟩)
  refine x_if_ne (tgt := 17) (pc' := 11) rfl rfl rfl (fun c8 => absurd ((by decide)) c8) (fun _ => ?_)
  refine x_aload_n (pc' := 12) rfl rfl rfl ?_
  refine x_iconst (pc' := 13) rfl rfl iconst_m1 ?_
  refine x_cV1i (d := 1) (pc' := 16) rfl rfl sX5_68 gX5_refuse (hS.1) ⟨Nat.le_of_ble_eq_true rfl, Nat.le_of_ble_eq_true rfl⟩ (Nat.le_of_ble_eq_true rfl) ⟨Nat.le_of_ble_eq_true rfl, Nat.le_of_ble_eq_true rfl⟩ ?_
  refine w_refuse (k := 1) (by decide) (by decide) hS (fun f1 hS1 hF1 => ⟨_, rfl, ?_⟩)
  exact x_ireturn rfl rfl rfl (Nat.le_of_ble_eq_true rfl) (Nat.le_of_ble_eq_true rfl) (h _ hF1)
theorem f_toEmpty {a : Int32} {b : Int32} (hS : x_Sys z f x_S0) (h : x_P post f (-1)) : Y E 9 mX5_toEmpty [.ref 0, .int a, .int b] z f 0 0 post := by
  refine Y.intro gX5_toEmpty (lv := [(0, .ref 0), (1, .int a), (2, .int b)]) rfl (Nat.le_of_ble_eq_true rfl) ?_
  refine x_aload_n (pc' := 1) rfl rfl rfl ?_
  refine x_get (pc' := 4) rfl rfl rfl (hS.1) rfl ?_
  refine x_iload_n (pc' := 5) rfl rfl rfl ?_
  refine x_cV1i (d := 1) (pc' := 8) rfl rfl sX5_90 gX3_has ((hS.2.1 0 (by decide)).1) ⟨Nat.le_of_ble_eq_true rfl, Nat.le_of_ble_eq_true rfl⟩ (Nat.le_of_ble_eq_true rfl) ⟨Nat.le_of_ble_eq_true rfl, Nat.le_of_ble_eq_true rfl⟩ ?_
  refine w_has (hS.2.1 0 (by decide)) (fun q => absurd q has0) (fun q => ⟨_, rfl, ?_⟩)
  refine x_if_ne (tgt := 17) (pc' := 11) rfl rfl rfl (fun c8 => absurd ((by decide)) c8) (fun _ => ?_)
  refine x_aload_n (pc' := 12) rfl rfl rfl ?_
  refine x_iconst (pc' := 13) rfl rfl iconst_m1 ?_
  refine x_cV1i (d := 1) (pc' := 16) rfl rfl sX5_68 gX5_refuse (hS.1) ⟨Nat.le_of_ble_eq_true rfl, Nat.le_of_ble_eq_true rfl⟩ (Nat.le_of_ble_eq_true rfl) ⟨Nat.le_of_ble_eq_true rfl, Nat.le_of_ble_eq_true rfl⟩ ?_
  refine w_refuse (k := 1) (by decide) (by decide) hS (fun f1 hS1 hF1 => ⟨_, rfl, ?_⟩)
  exact x_ireturn rfl rfl rfl (Nat.le_of_ble_eq_true rfl) (Nat.le_of_ble_eq_true rfl) (h _ hF1)
theorem f_behind {a : Int32} {b : Int32} (hS : x_Sys z f x_S0) (h : x_P post f (-1)) : Y E 9 mX5_behind [.ref 0, .int a, .int b] z f 0 0 post := by
  refine Y.intro gX5_behind (lv := [(0, .ref 0), (1, .int a), (2, .int b)]) rfl (Nat.le_of_ble_eq_true rfl) ?_
  refine x_aload_n (pc' := 1) rfl rfl rfl ?_
  refine x_get (pc' := 4) rfl rfl rfl (hS.1) rfl ?_
  refine x_iload_n (pc' := 5) rfl rfl rfl ?_
  refine x_cV1i (d := 1) (pc' := 8) rfl rfl sX5_90 gX3_has ((hS.2.1 0 (by decide)).1) ⟨Nat.le_of_ble_eq_true rfl, Nat.le_of_ble_eq_true rfl⟩ (Nat.le_of_ble_eq_true rfl) ⟨Nat.le_of_ble_eq_true rfl, Nat.le_of_ble_eq_true rfl⟩ ?_
  refine w_has (hS.2.1 0 (by decide)) (fun q => absurd q has0) (fun q => ⟨_, rfl, ?_⟩)
  refine x_if_eq (tgt := 22) (pc' := 11) rfl rfl rfl (fun _ => ?_) (fun c8 => absurd ((by decide)) c8)
  refine x_aload_n (pc' := 23) rfl rfl rfl ?_
  refine x_iconst (pc' := 24) rfl rfl iconst_m1 ?_
  refine x_cV1i (d := 1) (pc' := 27) rfl rfl sX5_68 gX5_refuse (hS.1) ⟨Nat.le_of_ble_eq_true rfl, Nat.le_of_ble_eq_true rfl⟩ (Nat.le_of_ble_eq_true rfl) ⟨Nat.le_of_ble_eq_true rfl, Nat.le_of_ble_eq_true rfl⟩ ?_
  refine w_refuse (k := 1) (by decide) (by decide) hS (fun f1 hS1 hF1 => ⟨_, rfl, ?_⟩)
  exact x_ireturn rfl rfl rfl (Nat.le_of_ble_eq_true rfl) (Nat.le_of_ble_eq_true rfl) (h _ hF1)
theorem f_price {a : Int32} (hS : x_Sys z f x_S0) (h : x_P post f (1000000000 - (-1))) : Y E 9 mX5_price [.ref 0, .int a] z f 0 0 post := by
  refine Y.intro gX5_price (lv := [(0, .ref 0), (1, .int a)]) rfl (Nat.le_of_ble_eq_true rfl) ?_
  refine x_aload_n (pc' := 1) rfl rfl rfl ?_
  refine x_get (pc' := 4) rfl rfl rfl (hS.1) rfl ?_
  refine x_iload_n (pc' := 5) rfl rfl rfl ?_
  refine x_cV1i (d := 1) (pc' := 8) rfl rfl sX5_90 gX3_has ((hS.2.1 0 (by decide)).1) ⟨Nat.le_of_ble_eq_true rfl, Nat.le_of_ble_eq_true rfl⟩ (Nat.le_of_ble_eq_true rfl) ⟨Nat.le_of_ble_eq_true rfl, Nat.le_of_ble_eq_true rfl⟩ ?_
  refine w_has (hS.2.1 0 (by decide)) (fun q => absurd q has0) (fun q => ⟨_, rfl, ?_⟩)
  refine x_if_ne (tgt := 17) (pc' := 11) rfl rfl rfl (fun c8 => absurd ((by decide)) c8) (fun _ => ?_)
  refine x_aload_n (pc' := 12) rfl rfl rfl ?_
  refine x_iconst (pc' := 13) rfl rfl iconst_m1 ?_
  refine x_cV1i (d := 2) (pc' := 16) rfl rfl sX5_152 gX5_refuseFar (hS.1) ⟨Nat.le_of_ble_eq_true rfl, Nat.le_of_ble_eq_true rfl⟩ (Nat.le_of_ble_eq_true rfl) ⟨Nat.le_of_ble_eq_true rfl, Nat.le_of_ble_eq_true rfl⟩ ?_
  refine w_refuseFar (k := 1) (by decide) (by decide) hS (fun f1 hS1 hF1 => ⟨_, rfl, ?_⟩)
  exact x_ireturn rfl rfl rfl (Nat.le_of_ble_eq_true rfl) (Nat.le_of_ble_eq_true rfl) (h _ hF1)
theorem f_sold {a : Int32} (hS : x_Sys z f x_S0) (h : x_P post f (1000000000 - (-1))) : Y E 9 mX5_sold [.ref 0, .int a] z f 0 0 post := by
  refine Y.intro gX5_sold (lv := [(0, .ref 0), (1, .int a)]) rfl (Nat.le_of_ble_eq_true rfl) ?_
  refine x_aload_n (pc' := 1) rfl rfl rfl ?_
  refine x_get (pc' := 4) rfl rfl rfl (hS.1) rfl ?_
  refine x_iload_n (pc' := 5) rfl rfl rfl ?_
  refine x_cV1i (d := 1) (pc' := 8) rfl rfl sX5_90 gX3_has ((hS.2.1 0 (by decide)).1) ⟨Nat.le_of_ble_eq_true rfl, Nat.le_of_ble_eq_true rfl⟩ (Nat.le_of_ble_eq_true rfl) ⟨Nat.le_of_ble_eq_true rfl, Nat.le_of_ble_eq_true rfl⟩ ?_
  refine w_has (hS.2.1 0 (by decide)) (fun q => absurd q has0) (fun q => ⟨_, rfl, ?_⟩)
  refine x_if_ne (tgt := 17) (pc' := 11) rfl rfl rfl (fun c8 => absurd ((by decide)) c8) (fun _ => ?_)
  refine x_aload_n (pc' := 12) rfl rfl rfl ?_
  refine x_iconst (pc' := 13) rfl rfl iconst_m1 ?_
  refine x_cV1i (d := 2) (pc' := 16) rfl rfl sX5_152 gX5_refuseFar (hS.1) ⟨Nat.le_of_ble_eq_true rfl, Nat.le_of_ble_eq_true rfl⟩ (Nat.le_of_ble_eq_true rfl) ⟨Nat.le_of_ble_eq_true rfl, Nat.le_of_ble_eq_true rfl⟩ ?_
  refine w_refuseFar (k := 1) (by decide) (by decide) hS (fun f1 hS1 hF1 => ⟨_, rfl, ?_⟩)
  exact x_ireturn rfl rfl rfl (Nat.le_of_ble_eq_true rfl) (Nat.le_of_ble_eq_true rfl) (h _ hF1)
end FRESHA
