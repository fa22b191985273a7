section WRAP
variable {E : x_E} {R : Room} {me : x_M} {QQ : List Frame → Array Value → State → State → Prop} {pc : Nat} {lv : x_L} {st : List Value} {z : Nat} {f : x_H} {cl sl : Nat}
theorem Y.mono {E : x_E} {d : Nat} {me : x_M} {av : List Value} {z : Nat} {f : x_H} {mc ms : Nat} {P Q : Option Value → x_H → Prop} (h : Y E d me av z f mc ms P) (hPQ : ∀ v f', P v f' → Q v f') : Y E d me av z f mc ms Q := by
  intro p e ha hc hk s m args below hf happ hP hK
  obtain ⟨n, o, g1, g2, g3, ⟨⟨⟨r, f', h1, h2, h3⟩, h4⟩, h5⟩⟩ := h p e ha hc hk s m args below hf happ hP hK
  exact ⟨n, o, g1, g2, g3, ⟨⟨⟨r, f', h1, hPQ _ _ h2, h3⟩, h4⟩, h5⟩⟩
theorem x_cV0i {pc' : Nat} {d i ci r : Nat} {ce : x_M} {fs : List Value} (hc : x_at me pc = some (.invokevirtual i, 3)) (hp : pc + 3 = pc') (hs : x_sV me.2.2.2.2.2.1 i ce 0 ci) (hg : x_good ce) (ho : x_o z f r ci fs) (hR : d + 1 ≤ R.frames ∧ 8 + (ce.2.2.1 + 11) + 200 * d ≤ R.locals) (hw : (st.map fun v => v.category).sum ≤ 8) (hf : cl ≤ R.cells ∧ sl ≤ R.slots) (hY : Y E d ce [.ref r] z f 0 0 (fun v f' => ∃ r : Int32, v = some (.int r) ∧ X E R me QQ pc' lv (.int r :: st) z f' cl sl)) : X E R me QQ pc lv (.ref r :: st) z f cl sl := by
  refine x_callV (As := []) hc hp hs hg ho (Y.mono hY (fun v f' h => ?_)) rfl rfl hR hw hf
  obtain ⟨q, rfl, h⟩ := h
  exact h
theorem x_cV1i {pc' : Nat} {d i ci r : Nat} {ce : x_M} {fs : List Value} {a1 : Value} (hc : x_at me pc = some (.invokevirtual i, 3)) (hp : pc + 3 = pc') (hs : x_sV me.2.2.2.2.2.1 i ce 1 ci) (hg : x_good ce) (ho : x_o z f r ci fs) (hR : d + 1 ≤ R.frames ∧ 8 + (ce.2.2.1 + 11) + 200 * d ≤ R.locals) (hw : (st.map fun v => v.category).sum ≤ 8) (hf : cl ≤ R.cells ∧ sl ≤ R.slots) (hY : Y E d ce [.ref r, a1] z f 0 0 (fun v f' => ∃ r : Int32, v = some (.int r) ∧ X E R me QQ pc' lv (.int r :: st) z f' cl sl)) : X E R me QQ pc lv (a1 :: .ref r :: st) z f cl sl := by
  refine x_callV (As := [a1]) hc hp hs hg ho (Y.mono hY (fun v f' h => ?_)) rfl rfl hR hw hf
  obtain ⟨q, rfl, h⟩ := h
  exact h
theorem x_cV2i {pc' : Nat} {d i ci r : Nat} {ce : x_M} {fs : List Value} {a1 a2 : Value} (hc : x_at me pc = some (.invokevirtual i, 3)) (hp : pc + 3 = pc') (hs : x_sV me.2.2.2.2.2.1 i ce 2 ci) (hg : x_good ce) (ho : x_o z f r ci fs) (hR : d + 1 ≤ R.frames ∧ 8 + (ce.2.2.1 + 11) + 200 * d ≤ R.locals) (hw : (st.map fun v => v.category).sum ≤ 8) (hf : cl ≤ R.cells ∧ sl ≤ R.slots) (hY : Y E d ce [.ref r, a1, a2] z f 0 0 (fun v f' => ∃ r : Int32, v = some (.int r) ∧ X E R me QQ pc' lv (.int r :: st) z f' cl sl)) : X E R me QQ pc lv (a2 :: a1 :: .ref r :: st) z f cl sl := by
  refine x_callV (As := [a1, a2]) hc hp hs hg ho (Y.mono hY (fun v f' h => ?_)) rfl rfl hR hw hf
  obtain ⟨q, rfl, h⟩ := h
  exact h
theorem x_cV3i {pc' : Nat} {d i ci r : Nat} {ce : x_M} {fs : List Value} {a1 a2 a3 : Value} (hc : x_at me pc = some (.invokevirtual i, 3)) (hp : pc + 3 = pc') (hs : x_sV me.2.2.2.2.2.1 i ce 3 ci) (hg : x_good ce) (ho : x_o z f r ci fs) (hR : d + 1 ≤ R.frames ∧ 8 + (ce.2.2.1 + 11) + 200 * d ≤ R.locals) (hw : (st.map fun v => v.category).sum ≤ 8) (hf : cl ≤ R.cells ∧ sl ≤ R.slots) (hY : Y E d ce [.ref r, a1, a2, a3] z f 0 0 (fun v f' => ∃ r : Int32, v = some (.int r) ∧ X E R me QQ pc' lv (.int r :: st) z f' cl sl)) : X E R me QQ pc lv (a3 :: a2 :: a1 :: .ref r :: st) z f cl sl := by
  refine x_callV (As := [a1, a2, a3]) hc hp hs hg ho (Y.mono hY (fun v f' h => ?_)) rfl rfl hR hw hf
  obtain ⟨q, rfl, h⟩ := h
  exact h
theorem x_cS1i {pc' : Nat} {d i : Nat} {ce : x_M} {a1 : Value} (hc : x_at me pc = some (.invokestatic i, 3)) (hp : pc + 3 = pc') (hs : x_sS me.2.2.2.2.2.1 i ce 1) (hg : x_good ce) (hR : d + 1 ≤ R.frames ∧ 8 + (ce.2.2.1 + 11) + 200 * d ≤ R.locals) (hw : (st.map fun v => v.category).sum ≤ 8) (hf : cl ≤ R.cells ∧ sl ≤ R.slots) (hY : Y E d ce [a1] z f 0 0 (fun v f' => ∃ r : Int32, v = some (.int r) ∧ X E R me QQ pc' lv (.int r :: st) z f' cl sl)) : X E R me QQ pc lv (a1 :: st) z f cl sl := by
  refine x_callS (As := [a1]) hc hp hs hg (Y.mono hY (fun v f' h => ?_)) rfl rfl hR hw hf
  obtain ⟨q, rfl, h⟩ := h
  exact h
theorem x_cS2i {pc' : Nat} {d i : Nat} {ce : x_M} {a1 a2 : Value} (hc : x_at me pc = some (.invokestatic i, 3)) (hp : pc + 3 = pc') (hs : x_sS me.2.2.2.2.2.1 i ce 2) (hg : x_good ce) (hR : d + 1 ≤ R.frames ∧ 8 + (ce.2.2.1 + 11) + 200 * d ≤ R.locals) (hw : (st.map fun v => v.category).sum ≤ 8) (hf : cl ≤ R.cells ∧ sl ≤ R.slots) (hY : Y E d ce [a1, a2] z f 0 0 (fun v f' => ∃ r : Int32, v = some (.int r) ∧ X E R me QQ pc' lv (.int r :: st) z f' cl sl)) : X E R me QQ pc lv (a2 :: a1 :: st) z f cl sl := by
  refine x_callS (As := [a1, a2]) hc hp hs hg (Y.mono hY (fun v f' h => ?_)) rfl rfl hR hw hf
  obtain ⟨q, rfl, h⟩ := h
  exact h
theorem x_cS3i {pc' : Nat} {d i : Nat} {ce : x_M} {a1 a2 a3 : Value} (hc : x_at me pc = some (.invokestatic i, 3)) (hp : pc + 3 = pc') (hs : x_sS me.2.2.2.2.2.1 i ce 3) (hg : x_good ce) (hR : d + 1 ≤ R.frames ∧ 8 + (ce.2.2.1 + 11) + 200 * d ≤ R.locals) (hw : (st.map fun v => v.category).sum ≤ 8) (hf : cl ≤ R.cells ∧ sl ≤ R.slots) (hY : Y E d ce [a1, a2, a3] z f 0 0 (fun v f' => ∃ r : Int32, v = some (.int r) ∧ X E R me QQ pc' lv (.int r :: st) z f' cl sl)) : X E R me QQ pc lv (a3 :: a2 :: a1 :: st) z f cl sl := by
  refine x_callS (As := [a1, a2, a3]) hc hp hs hg (Y.mono hY (fun v f' h => ?_)) rfl rfl hR hw hf
  obtain ⟨q, rfl, h⟩ := h
  exact h
theorem x_cS5i {pc' : Nat} {d i : Nat} {ce : x_M} {a1 a2 a3 a4 a5 : Value} (hc : x_at me pc = some (.invokestatic i, 3)) (hp : pc + 3 = pc') (hs : x_sS me.2.2.2.2.2.1 i ce 5) (hg : x_good ce) (hR : d + 1 ≤ R.frames ∧ 8 + (ce.2.2.1 + 11) + 200 * d ≤ R.locals) (hw : (st.map fun v => v.category).sum ≤ 8) (hf : cl ≤ R.cells ∧ sl ≤ R.slots) (hY : Y E d ce [a1, a2, a3, a4, a5] z f 0 0 (fun v f' => ∃ r : Int32, v = some (.int r) ∧ X E R me QQ pc' lv (.int r :: st) z f' cl sl)) : X E R me QQ pc lv (a5 :: a4 :: a3 :: a2 :: a1 :: st) z f cl sl := by
  refine x_callS (As := [a1, a2, a3, a4, a5]) hc hp hs hg (Y.mono hY (fun v f' h => ?_)) rfl rfl hR hw hf
  obtain ⟨q, rfl, h⟩ := h
  exact h
theorem x_cS6i {pc' : Nat} {d i : Nat} {ce : x_M} {a1 a2 a3 a4 a5 a6 : Value} (hc : x_at me pc = some (.invokestatic i, 3)) (hp : pc + 3 = pc') (hs : x_sS me.2.2.2.2.2.1 i ce 6) (hg : x_good ce) (hR : d + 1 ≤ R.frames ∧ 8 + (ce.2.2.1 + 11) + 200 * d ≤ R.locals) (hw : (st.map fun v => v.category).sum ≤ 8) (hf : cl ≤ R.cells ∧ sl ≤ R.slots) (hY : Y E d ce [a1, a2, a3, a4, a5, a6] z f 0 0 (fun v f' => ∃ r : Int32, v = some (.int r) ∧ X E R me QQ pc' lv (.int r :: st) z f' cl sl)) : X E R me QQ pc lv (a6 :: a5 :: a4 :: a3 :: a2 :: a1 :: st) z f cl sl := by
  refine x_callS (As := [a1, a2, a3, a4, a5, a6]) hc hp hs hg (Y.mono hY (fun v f' h => ?_)) rfl rfl hR hw hf
  obtain ⟨q, rfl, h⟩ := h
  exact h
theorem x_cV0l {pc' : Nat} {d i ci r : Nat} {ce : x_M} {fs : List Value} (hc : x_at me pc = some (.invokevirtual i, 3)) (hp : pc + 3 = pc') (hs : x_sV me.2.2.2.2.2.1 i ce 0 ci) (hg : x_good ce) (ho : x_o z f r ci fs) (hR : d + 1 ≤ R.frames ∧ 8 + (ce.2.2.1 + 11) + 200 * d ≤ R.locals) (hw : (st.map fun v => v.category).sum ≤ 8) (hf : cl ≤ R.cells ∧ sl ≤ R.slots) (hY : Y E d ce [.ref r] z f 0 0 (fun v f' => ∃ r : Int64, v = some (.long r) ∧ X E R me QQ pc' lv (.long r :: st) z f' cl sl)) : X E R me QQ pc lv (.ref r :: st) z f cl sl := by
  refine x_callV (As := []) hc hp hs hg ho (Y.mono hY (fun v f' h => ?_)) rfl rfl hR hw hf
  obtain ⟨q, rfl, h⟩ := h
  exact h
theorem x_cV1l {pc' : Nat} {d i ci r : Nat} {ce : x_M} {fs : List Value} {a1 : Value} (hc : x_at me pc = some (.invokevirtual i, 3)) (hp : pc + 3 = pc') (hs : x_sV me.2.2.2.2.2.1 i ce 1 ci) (hg : x_good ce) (ho : x_o z f r ci fs) (hR : d + 1 ≤ R.frames ∧ 8 + (ce.2.2.1 + 11) + 200 * d ≤ R.locals) (hw : (st.map fun v => v.category).sum ≤ 8) (hf : cl ≤ R.cells ∧ sl ≤ R.slots) (hY : Y E d ce [.ref r, a1] z f 0 0 (fun v f' => ∃ r : Int64, v = some (.long r) ∧ X E R me QQ pc' lv (.long r :: st) z f' cl sl)) : X E R me QQ pc lv (a1 :: .ref r :: st) z f cl sl := by
  refine x_callV (As := [a1]) hc hp hs hg ho (Y.mono hY (fun v f' h => ?_)) rfl rfl hR hw hf
  obtain ⟨q, rfl, h⟩ := h
  exact h
theorem x_cV2l {pc' : Nat} {d i ci r : Nat} {ce : x_M} {fs : List Value} {a1 a2 : Value} (hc : x_at me pc = some (.invokevirtual i, 3)) (hp : pc + 3 = pc') (hs : x_sV me.2.2.2.2.2.1 i ce 2 ci) (hg : x_good ce) (ho : x_o z f r ci fs) (hR : d + 1 ≤ R.frames ∧ 8 + (ce.2.2.1 + 11) + 200 * d ≤ R.locals) (hw : (st.map fun v => v.category).sum ≤ 8) (hf : cl ≤ R.cells ∧ sl ≤ R.slots) (hY : Y E d ce [.ref r, a1, a2] z f 0 0 (fun v f' => ∃ r : Int64, v = some (.long r) ∧ X E R me QQ pc' lv (.long r :: st) z f' cl sl)) : X E R me QQ pc lv (a2 :: a1 :: .ref r :: st) z f cl sl := by
  refine x_callV (As := [a1, a2]) hc hp hs hg ho (Y.mono hY (fun v f' h => ?_)) rfl rfl hR hw hf
  obtain ⟨q, rfl, h⟩ := h
  exact h
theorem x_cV3l {pc' : Nat} {d i ci r : Nat} {ce : x_M} {fs : List Value} {a1 a2 a3 : Value} (hc : x_at me pc = some (.invokevirtual i, 3)) (hp : pc + 3 = pc') (hs : x_sV me.2.2.2.2.2.1 i ce 3 ci) (hg : x_good ce) (ho : x_o z f r ci fs) (hR : d + 1 ≤ R.frames ∧ 8 + (ce.2.2.1 + 11) + 200 * d ≤ R.locals) (hw : (st.map fun v => v.category).sum ≤ 8) (hf : cl ≤ R.cells ∧ sl ≤ R.slots) (hY : Y E d ce [.ref r, a1, a2, a3] z f 0 0 (fun v f' => ∃ r : Int64, v = some (.long r) ∧ X E R me QQ pc' lv (.long r :: st) z f' cl sl)) : X E R me QQ pc lv (a3 :: a2 :: a1 :: .ref r :: st) z f cl sl := by
  refine x_callV (As := [a1, a2, a3]) hc hp hs hg ho (Y.mono hY (fun v f' h => ?_)) rfl rfl hR hw hf
  obtain ⟨q, rfl, h⟩ := h
  exact h
theorem x_cS1l {pc' : Nat} {d i : Nat} {ce : x_M} {a1 : Value} (hc : x_at me pc = some (.invokestatic i, 3)) (hp : pc + 3 = pc') (hs : x_sS me.2.2.2.2.2.1 i ce 1) (hg : x_good ce) (hR : d + 1 ≤ R.frames ∧ 8 + (ce.2.2.1 + 11) + 200 * d ≤ R.locals) (hw : (st.map fun v => v.category).sum ≤ 8) (hf : cl ≤ R.cells ∧ sl ≤ R.slots) (hY : Y E d ce [a1] z f 0 0 (fun v f' => ∃ r : Int64, v = some (.long r) ∧ X E R me QQ pc' lv (.long r :: st) z f' cl sl)) : X E R me QQ pc lv (a1 :: st) z f cl sl := by
  refine x_callS (As := [a1]) hc hp hs hg (Y.mono hY (fun v f' h => ?_)) rfl rfl hR hw hf
  obtain ⟨q, rfl, h⟩ := h
  exact h
theorem x_cS2l {pc' : Nat} {d i : Nat} {ce : x_M} {a1 a2 : Value} (hc : x_at me pc = some (.invokestatic i, 3)) (hp : pc + 3 = pc') (hs : x_sS me.2.2.2.2.2.1 i ce 2) (hg : x_good ce) (hR : d + 1 ≤ R.frames ∧ 8 + (ce.2.2.1 + 11) + 200 * d ≤ R.locals) (hw : (st.map fun v => v.category).sum ≤ 8) (hf : cl ≤ R.cells ∧ sl ≤ R.slots) (hY : Y E d ce [a1, a2] z f 0 0 (fun v f' => ∃ r : Int64, v = some (.long r) ∧ X E R me QQ pc' lv (.long r :: st) z f' cl sl)) : X E R me QQ pc lv (a2 :: a1 :: st) z f cl sl := by
  refine x_callS (As := [a1, a2]) hc hp hs hg (Y.mono hY (fun v f' h => ?_)) rfl rfl hR hw hf
  obtain ⟨q, rfl, h⟩ := h
  exact h
theorem x_cS3l {pc' : Nat} {d i : Nat} {ce : x_M} {a1 a2 a3 : Value} (hc : x_at me pc = some (.invokestatic i, 3)) (hp : pc + 3 = pc') (hs : x_sS me.2.2.2.2.2.1 i ce 3) (hg : x_good ce) (hR : d + 1 ≤ R.frames ∧ 8 + (ce.2.2.1 + 11) + 200 * d ≤ R.locals) (hw : (st.map fun v => v.category).sum ≤ 8) (hf : cl ≤ R.cells ∧ sl ≤ R.slots) (hY : Y E d ce [a1, a2, a3] z f 0 0 (fun v f' => ∃ r : Int64, v = some (.long r) ∧ X E R me QQ pc' lv (.long r :: st) z f' cl sl)) : X E R me QQ pc lv (a3 :: a2 :: a1 :: st) z f cl sl := by
  refine x_callS (As := [a1, a2, a3]) hc hp hs hg (Y.mono hY (fun v f' h => ?_)) rfl rfl hR hw hf
  obtain ⟨q, rfl, h⟩ := h
  exact h
theorem x_cS5l {pc' : Nat} {d i : Nat} {ce : x_M} {a1 a2 a3 a4 a5 : Value} (hc : x_at me pc = some (.invokestatic i, 3)) (hp : pc + 3 = pc') (hs : x_sS me.2.2.2.2.2.1 i ce 5) (hg : x_good ce) (hR : d + 1 ≤ R.frames ∧ 8 + (ce.2.2.1 + 11) + 200 * d ≤ R.locals) (hw : (st.map fun v => v.category).sum ≤ 8) (hf : cl ≤ R.cells ∧ sl ≤ R.slots) (hY : Y E d ce [a1, a2, a3, a4, a5] z f 0 0 (fun v f' => ∃ r : Int64, v = some (.long r) ∧ X E R me QQ pc' lv (.long r :: st) z f' cl sl)) : X E R me QQ pc lv (a5 :: a4 :: a3 :: a2 :: a1 :: st) z f cl sl := by
  refine x_callS (As := [a1, a2, a3, a4, a5]) hc hp hs hg (Y.mono hY (fun v f' h => ?_)) rfl rfl hR hw hf
  obtain ⟨q, rfl, h⟩ := h
  exact h
theorem x_cS6l {pc' : Nat} {d i : Nat} {ce : x_M} {a1 a2 a3 a4 a5 a6 : Value} (hc : x_at me pc = some (.invokestatic i, 3)) (hp : pc + 3 = pc') (hs : x_sS me.2.2.2.2.2.1 i ce 6) (hg : x_good ce) (hR : d + 1 ≤ R.frames ∧ 8 + (ce.2.2.1 + 11) + 200 * d ≤ R.locals) (hw : (st.map fun v => v.category).sum ≤ 8) (hf : cl ≤ R.cells ∧ sl ≤ R.slots) (hY : Y E d ce [a1, a2, a3, a4, a5, a6] z f 0 0 (fun v f' => ∃ r : Int64, v = some (.long r) ∧ X E R me QQ pc' lv (.long r :: st) z f' cl sl)) : X E R me QQ pc lv (a6 :: a5 :: a4 :: a3 :: a2 :: a1 :: st) z f cl sl := by
  refine x_callS (As := [a1, a2, a3, a4, a5, a6]) hc hp hs hg (Y.mono hY (fun v f' h => ?_)) rfl rfl hR hw hf
  obtain ⟨q, rfl, h⟩ := h
  exact h
theorem x_cV0v {pc' : Nat} {d i ci r : Nat} {ce : x_M} {fs : List Value} (hc : x_at me pc = some (.invokevirtual i, 3)) (hp : pc + 3 = pc') (hs : x_sV me.2.2.2.2.2.1 i ce 0 ci) (hg : x_good ce) (ho : x_o z f r ci fs) (hR : d + 1 ≤ R.frames ∧ 8 + (ce.2.2.1 + 11) + 200 * d ≤ R.locals) (hw : (st.map fun v => v.category).sum ≤ 8) (hf : cl ≤ R.cells ∧ sl ≤ R.slots) (hY : Y E d ce [.ref r] z f 0 0 (fun v f' => v = none ∧ X E R me QQ pc' lv st z f' cl sl)) : X E R me QQ pc lv (.ref r :: st) z f cl sl := by
  refine x_callV (As := []) hc hp hs hg ho (Y.mono hY (fun v f' h => ?_)) rfl rfl hR hw hf
  obtain ⟨rfl, h⟩ := h
  exact h
theorem x_cV1v {pc' : Nat} {d i ci r : Nat} {ce : x_M} {fs : List Value} {a1 : Value} (hc : x_at me pc = some (.invokevirtual i, 3)) (hp : pc + 3 = pc') (hs : x_sV me.2.2.2.2.2.1 i ce 1 ci) (hg : x_good ce) (ho : x_o z f r ci fs) (hR : d + 1 ≤ R.frames ∧ 8 + (ce.2.2.1 + 11) + 200 * d ≤ R.locals) (hw : (st.map fun v => v.category).sum ≤ 8) (hf : cl ≤ R.cells ∧ sl ≤ R.slots) (hY : Y E d ce [.ref r, a1] z f 0 0 (fun v f' => v = none ∧ X E R me QQ pc' lv st z f' cl sl)) : X E R me QQ pc lv (a1 :: .ref r :: st) z f cl sl := by
  refine x_callV (As := [a1]) hc hp hs hg ho (Y.mono hY (fun v f' h => ?_)) rfl rfl hR hw hf
  obtain ⟨rfl, h⟩ := h
  exact h
theorem x_cV2v {pc' : Nat} {d i ci r : Nat} {ce : x_M} {fs : List Value} {a1 a2 : Value} (hc : x_at me pc = some (.invokevirtual i, 3)) (hp : pc + 3 = pc') (hs : x_sV me.2.2.2.2.2.1 i ce 2 ci) (hg : x_good ce) (ho : x_o z f r ci fs) (hR : d + 1 ≤ R.frames ∧ 8 + (ce.2.2.1 + 11) + 200 * d ≤ R.locals) (hw : (st.map fun v => v.category).sum ≤ 8) (hf : cl ≤ R.cells ∧ sl ≤ R.slots) (hY : Y E d ce [.ref r, a1, a2] z f 0 0 (fun v f' => v = none ∧ X E R me QQ pc' lv st z f' cl sl)) : X E R me QQ pc lv (a2 :: a1 :: .ref r :: st) z f cl sl := by
  refine x_callV (As := [a1, a2]) hc hp hs hg ho (Y.mono hY (fun v f' h => ?_)) rfl rfl hR hw hf
  obtain ⟨rfl, h⟩ := h
  exact h
theorem x_cV3v {pc' : Nat} {d i ci r : Nat} {ce : x_M} {fs : List Value} {a1 a2 a3 : Value} (hc : x_at me pc = some (.invokevirtual i, 3)) (hp : pc + 3 = pc') (hs : x_sV me.2.2.2.2.2.1 i ce 3 ci) (hg : x_good ce) (ho : x_o z f r ci fs) (hR : d + 1 ≤ R.frames ∧ 8 + (ce.2.2.1 + 11) + 200 * d ≤ R.locals) (hw : (st.map fun v => v.category).sum ≤ 8) (hf : cl ≤ R.cells ∧ sl ≤ R.slots) (hY : Y E d ce [.ref r, a1, a2, a3] z f 0 0 (fun v f' => v = none ∧ X E R me QQ pc' lv st z f' cl sl)) : X E R me QQ pc lv (a3 :: a2 :: a1 :: .ref r :: st) z f cl sl := by
  refine x_callV (As := [a1, a2, a3]) hc hp hs hg ho (Y.mono hY (fun v f' h => ?_)) rfl rfl hR hw hf
  obtain ⟨rfl, h⟩ := h
  exact h
theorem x_cS1v {pc' : Nat} {d i : Nat} {ce : x_M} {a1 : Value} (hc : x_at me pc = some (.invokestatic i, 3)) (hp : pc + 3 = pc') (hs : x_sS me.2.2.2.2.2.1 i ce 1) (hg : x_good ce) (hR : d + 1 ≤ R.frames ∧ 8 + (ce.2.2.1 + 11) + 200 * d ≤ R.locals) (hw : (st.map fun v => v.category).sum ≤ 8) (hf : cl ≤ R.cells ∧ sl ≤ R.slots) (hY : Y E d ce [a1] z f 0 0 (fun v f' => v = none ∧ X E R me QQ pc' lv st z f' cl sl)) : X E R me QQ pc lv (a1 :: st) z f cl sl := by
  refine x_callS (As := [a1]) hc hp hs hg (Y.mono hY (fun v f' h => ?_)) rfl rfl hR hw hf
  obtain ⟨rfl, h⟩ := h
  exact h
theorem x_cS2v {pc' : Nat} {d i : Nat} {ce : x_M} {a1 a2 : Value} (hc : x_at me pc = some (.invokestatic i, 3)) (hp : pc + 3 = pc') (hs : x_sS me.2.2.2.2.2.1 i ce 2) (hg : x_good ce) (hR : d + 1 ≤ R.frames ∧ 8 + (ce.2.2.1 + 11) + 200 * d ≤ R.locals) (hw : (st.map fun v => v.category).sum ≤ 8) (hf : cl ≤ R.cells ∧ sl ≤ R.slots) (hY : Y E d ce [a1, a2] z f 0 0 (fun v f' => v = none ∧ X E R me QQ pc' lv st z f' cl sl)) : X E R me QQ pc lv (a2 :: a1 :: st) z f cl sl := by
  refine x_callS (As := [a1, a2]) hc hp hs hg (Y.mono hY (fun v f' h => ?_)) rfl rfl hR hw hf
  obtain ⟨rfl, h⟩ := h
  exact h
theorem x_cS3v {pc' : Nat} {d i : Nat} {ce : x_M} {a1 a2 a3 : Value} (hc : x_at me pc = some (.invokestatic i, 3)) (hp : pc + 3 = pc') (hs : x_sS me.2.2.2.2.2.1 i ce 3) (hg : x_good ce) (hR : d + 1 ≤ R.frames ∧ 8 + (ce.2.2.1 + 11) + 200 * d ≤ R.locals) (hw : (st.map fun v => v.category).sum ≤ 8) (hf : cl ≤ R.cells ∧ sl ≤ R.slots) (hY : Y E d ce [a1, a2, a3] z f 0 0 (fun v f' => v = none ∧ X E R me QQ pc' lv st z f' cl sl)) : X E R me QQ pc lv (a3 :: a2 :: a1 :: st) z f cl sl := by
  refine x_callS (As := [a1, a2, a3]) hc hp hs hg (Y.mono hY (fun v f' h => ?_)) rfl rfl hR hw hf
  obtain ⟨rfl, h⟩ := h
  exact h
theorem x_cS5v {pc' : Nat} {d i : Nat} {ce : x_M} {a1 a2 a3 a4 a5 : Value} (hc : x_at me pc = some (.invokestatic i, 3)) (hp : pc + 3 = pc') (hs : x_sS me.2.2.2.2.2.1 i ce 5) (hg : x_good ce) (hR : d + 1 ≤ R.frames ∧ 8 + (ce.2.2.1 + 11) + 200 * d ≤ R.locals) (hw : (st.map fun v => v.category).sum ≤ 8) (hf : cl ≤ R.cells ∧ sl ≤ R.slots) (hY : Y E d ce [a1, a2, a3, a4, a5] z f 0 0 (fun v f' => v = none ∧ X E R me QQ pc' lv st z f' cl sl)) : X E R me QQ pc lv (a5 :: a4 :: a3 :: a2 :: a1 :: st) z f cl sl := by
  refine x_callS (As := [a1, a2, a3, a4, a5]) hc hp hs hg (Y.mono hY (fun v f' h => ?_)) rfl rfl hR hw hf
  obtain ⟨rfl, h⟩ := h
  exact h
theorem x_cS6v {pc' : Nat} {d i : Nat} {ce : x_M} {a1 a2 a3 a4 a5 a6 : Value} (hc : x_at me pc = some (.invokestatic i, 3)) (hp : pc + 3 = pc') (hs : x_sS me.2.2.2.2.2.1 i ce 6) (hg : x_good ce) (hR : d + 1 ≤ R.frames ∧ 8 + (ce.2.2.1 + 11) + 200 * d ≤ R.locals) (hw : (st.map fun v => v.category).sum ≤ 8) (hf : cl ≤ R.cells ∧ sl ≤ R.slots) (hY : Y E d ce [a1, a2, a3, a4, a5, a6] z f 0 0 (fun v f' => v = none ∧ X E R me QQ pc' lv st z f' cl sl)) : X E R me QQ pc lv (a6 :: a5 :: a4 :: a3 :: a2 :: a1 :: st) z f cl sl := by
  refine x_callS (As := [a1, a2, a3, a4, a5, a6]) hc hp hs hg (Y.mono hY (fun v f' h => ?_)) rfl rfl hR hw hf
  obtain ⟨rfl, h⟩ := h
  exact h
theorem x_cI {pc' : Nat} {d i r mc ms : Nat} {nest : Bool} {ce : x_M} (hc : x_at me pc = some (.invokespecial i, 3)) (hp : pc + 3 = pc') (hs : x_sI me.2.2.2.2.2.1 i ce 0 nest) (hg : x_good ce) (hR : d + 1 ≤ R.frames ∧ 8 + (ce.2.2.1 + 11) + 200 * d ≤ R.locals) (hw : (st.map fun v => v.category).sum ≤ 8) (hf : cl + mc ≤ R.cells ∧ sl + ms ≤ R.slots) (hY : Y E d ce [.ref r] z f mc ms (fun v f' => v = none ∧ X E R me QQ pc' lv st (z + mc) f' (cl + mc) (sl + ms))) : X E R me QQ pc lv (.ref r :: st) z f cl sl := by
  refine x_callI (As := []) hc hp hs hg (Y.mono hY (fun v f' h => ?_)) rfl rfl hR hw hf
  obtain ⟨rfl, h⟩ := h
  exact h
end WRAP
theorem bipush_m9 : (Int8.ofInt (-9)).toInt32 = (-9) := by decide +kernel
theorem bipush_m6 : (Int8.ofInt (-6)).toInt32 = (-6) := by decide +kernel
theorem bipush_m4 : (Int8.ofInt (-4)).toInt32 = (-4) := by decide +kernel
theorem bipush_m3 : (Int8.ofInt (-3)).toInt32 = (-3) := by decide +kernel
theorem bipush_m2 : (Int8.ofInt (-2)).toInt32 = (-2) := by decide +kernel
theorem bipush_6 : (Int8.ofInt 6).toInt32 = 6 := by decide +kernel
theorem bipush_7 : (Int8.ofInt 7).toInt32 = 7 := by decide +kernel
theorem bipush_8 : (Int8.ofInt 8).toInt32 = 8 := by decide +kernel
theorem bipush_9 : (Int8.ofInt 9).toInt32 = 9 := by decide +kernel
theorem bipush_10 : (Int8.ofInt 10).toInt32 = 10 := by decide +kernel
theorem bipush_11 : (Int8.ofInt 11).toInt32 = 11 := by decide +kernel
theorem bipush_12 : (Int8.ofInt 12).toInt32 = 12 := by decide +kernel
theorem bipush_16 : (Int8.ofInt 16).toInt32 = 16 := by decide +kernel
theorem bipush_20 : (Int8.ofInt 20).toInt32 = 20 := by decide +kernel
theorem bipush_21 : (Int8.ofInt 21).toInt32 = 21 := by decide +kernel
theorem bipush_31 : (Int8.ofInt 31).toInt32 = 31 := by decide +kernel
theorem bipush_40 : (Int8.ofInt 40).toInt32 = 40 := by decide +kernel
theorem bipush_41 : (Int8.ofInt 41).toInt32 = 41 := by decide +kernel
theorem bipush_48 : (Int8.ofInt 48).toInt32 = 48 := by decide +kernel
theorem bipush_50 : (Int8.ofInt 50).toInt32 = 50 := by decide +kernel
theorem bipush_57 : (Int8.ofInt 57).toInt32 = 57 := by decide +kernel
theorem bipush_59 : (Int8.ofInt 59).toInt32 = 59 := by decide +kernel
theorem bipush_60 : (Int8.ofInt 60).toInt32 = 60 := by decide +kernel
theorem bipush_96 : (Int8.ofInt 96).toInt32 = 96 := by decide +kernel
theorem bipush_98 : (Int8.ofInt 98).toInt32 = 98 := by decide +kernel
theorem bipush_99 : (Int8.ofInt 99).toInt32 = 99 := by decide +kernel
theorem bipush_100 : (Int8.ofInt 100).toInt32 = 100 := by decide +kernel
theorem bipush_102 : (Int8.ofInt 102).toInt32 = 102 := by decide +kernel
theorem bipush_104 : (Int8.ofInt 104).toInt32 = 104 := by decide +kernel
theorem bipush_108 : (Int8.ofInt 108).toInt32 = 108 := by decide +kernel
theorem bipush_110 : (Int8.ofInt 110).toInt32 = 110 := by decide +kernel
theorem bipush_111 : (Int8.ofInt 111).toInt32 = 111 := by decide +kernel
theorem bipush_113 : (Int8.ofInt 113).toInt32 = 113 := by decide +kernel
theorem bipush_115 : (Int8.ofInt 115).toInt32 = 115 := by decide +kernel
theorem bipush_116 : (Int8.ofInt 116).toInt32 = 116 := by decide +kernel
theorem bipush_119 : (Int8.ofInt 119).toInt32 = 119 := by decide +kernel
theorem iconst_m1 : Int32.ofInt (-1) = (-1) := by decide +kernel
theorem iconst_0 : Int32.ofInt 0 = 0 := by decide +kernel
theorem iconst_1 : Int32.ofInt 1 = 1 := by decide +kernel
theorem iconst_2 : Int32.ofInt 2 = 2 := by decide +kernel
theorem iconst_3 : Int32.ofInt 3 = 3 := by decide +kernel
theorem iconst_4 : Int32.ofInt 4 = 4 := by decide +kernel
theorem iconst_5 : Int32.ofInt 5 = 5 := by decide +kernel
theorem sipush_m2000 : (Int16.ofInt (-2000)).toInt32 = (-2000) := by decide +kernel
theorem sipush_m1000 : (Int16.ofInt (-1000)).toInt32 = (-1000) := by decide +kernel
theorem sipush_200 : (Int16.ofInt 200).toInt32 = 200 := by decide +kernel
theorem sipush_255 : (Int16.ofInt 255).toInt32 = 255 := by decide +kernel
theorem sipush_256 : (Int16.ofInt 256).toInt32 = 256 := by decide +kernel
theorem sipush_999 : (Int16.ofInt 999).toInt32 = 999 := by decide +kernel
theorem sipush_1000 : (Int16.ofInt 1000).toInt32 = 1000 := by decide +kernel
theorem sipush_1809 : (Int16.ofInt 1809).toInt32 = 1809 := by decide +kernel
theorem sipush_7381 : (Int16.ofInt 7381).toInt32 = 7381 := by decide +kernel
theorem sipush_16383 : (Int16.ofInt 16383).toInt32 = 16383 := by decide +kernel
theorem sipush_16384 : (Int16.ofInt 16384).toInt32 = 16384 := by decide +kernel
theorem lconst_0 : Int64.ofNat ((0 : Fin 2) : Nat) = 0 := by decide +kernel
theorem lconst_1 : Int64.ofNat ((1 : Fin 2) : Nat) = 1 := by decide +kernel
