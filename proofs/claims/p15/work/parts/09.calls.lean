section STEPS2
variable {E : x_E} {R : Room} {me : x_M} {QQ : List Frame → Array Value → State → State → Prop} {pc : Nat} {lv : x_L} {st : List Value} {z : Nat} {f : x_H} {cl sl : Nat}
theorem x_ireturn {mc ms : Nat} {post : Option Value → x_H → Prop} (hc : x_at me pc = some (.ireturn, 1)) {v : Int32} {ty : FieldType} (hret : me.2.2.2.1 = some ty) (hn : narrow ty (.int v) = .int v) (h1 : cl ≤ mc) (h2 : sl ≤ ms) (h : post (some (.int v)) f) : X E R me (x_QM E z mc ms post) pc lv [.int v] z f cl sl := by
  intro p e s m args below meth c H locs ls cx hz hP hS hl
  obtain ⟨hx, hb, hr, hml, hown, hts, hlk, hK, hbs, hin, hd, hI⟩ := id cx
  intro T hT hX
  have hsz := x_size hT hX hbs hz hP hS
  exact (W.widen h1 h2 (W.zret hx hb (hr.trans hret) hn (fun t ht hW => ⟨⟨some (.int v), f, rfl, h, by rw [ht]; exact hsz, by rw [ht]; exact hP, x_K.warm hW hK⟩, hS.F ht⟩) hS.2.2 (x_dec_at hd hc) hlk)) T hT hX
theorem x_lreturn {mc ms : Nat} {post : Option Value → x_H → Prop} (hc : x_at me pc = some (.lreturn, 1)) {v : Int64} (hret : me.2.2.2.1 = some .long) (h1 : cl ≤ mc) (h2 : sl ≤ ms) (h : post (some (.long v)) f) : X E R me (x_QM E z mc ms post) pc lv [.long v] z f cl sl := by
  intro p e s m args below meth c H locs ls cx hz hP hS hl
  obtain ⟨hx, hb, hr, hml, hown, hts, hlk, hK, hbs, hin, hd, hI⟩ := id cx
  intro T hT hX
  have hsz := x_size hT hX hbs hz hP hS
  exact (W.widen h1 h2 (W.lret hx hb (hr.trans hret) (fun t ht hW => ⟨⟨some (.long v), f, rfl, h, by rw [ht]; exact hsz, by rw [ht]; exact hP, x_K.warm hW hK⟩, hS.F ht⟩) hS.2.2 (x_dec_at hd hc) hlk)) T hT hX
theorem x_return {mc ms : Nat} {post : Option Value → x_H → Prop} (hc : x_at me pc = some (.return_, 1)) (hret : me.2.2.2.1 = none) (h1 : cl ≤ mc) (h2 : sl ≤ ms) (h : post none f) : X E R me (x_QM E z mc ms post) pc lv [] z f cl sl := by
  intro p e s m args below meth c H locs ls cx hz hP hS hl
  obtain ⟨hx, hb, hr, hml, hown, hts, hlk, hK, hbs, hin, hd, hI⟩ := id cx
  intro T hT hX
  have hsz := x_size hT hX hbs hz hP hS
  exact (W.widen h1 h2 (W.vret hx hb (hr.trans hret) (fun t ht hW => ⟨⟨none, f, rfl, h, by rw [ht]; exact hsz, by rw [ht]; exact hP, x_K.warm hW hK⟩, hS.F ht⟩) hS.2.2 (x_dec_at hd hc) hlk)) T hT hX
theorem x_ws_good {ce : x_M} (hg : x_good ce) : GoodIn x_tb (x_ws ce) := by
  intro w hw
  rcases List.mem_cons.mp hw with h | h
  · subst h
    exact ⟨hg.2.2.2.2.1, x_tb_good _ hg.2.2.2.2.1⟩
  · exact ⟨h, x_tb_good _ h⟩
theorem x_blind (E : x_E) (av : List Value) (z : Nat) (f : x_H) : FrameBlind (va_Pc av (x_in E z f)) := by
  intro a U g mk h
  obtain ⟨h1, h2, h3, h4⟩ := h
  exact ⟨h1, h2, h3, x_K.same (u := U) (U := U.calling g mk a) rfl h4⟩
/-- behind a call -/
theorem x_after {E : x_E} {R : Room} {me : x_M} {QQ : List Frame → Array Value → State → State → Prop} {pc : Nat} {lv : x_L} {st : List Value} {z : Nat} {cl sl mc ms : Nat} {p : Program} {e : Env} {s : State} {m : MethodId} {args : Array Value} {below : List Frame} {meth : Method} {c : Code} {H : Heap} {locs : List Loc} {ls : Array Slot} {st0 : List Value} {av : Array Value} {T : State}
    (cx : x_cx E me p s m args meth c) (hz : s.heap.size + cl = E.2.2.2.1 + z) (hS : va_S (x_A E) s.heap H locs) (hl : lv_has ls me.2.2.1 (x_lv E lv)) (hT : T.heap = H) (hX : Stand p E.1 e R s m args below meth c T locs cl sl)
    (hr : va_Run p E.1 e R s m args below meth c H locs cl sl mc ms (F0 m pc ls st0) (st.map (x_sh E)) (x_Q E (z + mc) (fun v f' => X E R me QQ (pc + 3) lv (v.toList ++ st) (z + mc) f' (cl + mc) (sl + ms)) av) (x_A E)) : ∃ t, Steps p.tables e below (T.setTop (F0 m pc ls st0)) t ∧ QQ below args s t := by
  obtain ⟨v, st₀, t, T', L, h0, X', hL, e1, e2, ⟨⟨r, f', hv, hpost, hin'⟩, hF⟩, hgo⟩ := hr T hT hX
  cases hv
  obtain ⟨g1, g2, g3⟩ := hin'
  have hbs := cx.2.2.2.2.2.2.2.2.1
  have hsz0 : H.size ≤ t.heap.size := by
    have := hF.1
    rw [h0] at this
    exact this
  have hSt : va_S (x_A E) s.heap t.heap (locs ++ L) := by
    refine ⟨Nat.le_trans hS.1 hsz0, fun q h1 h2 => ?_, fun q hq => ?_⟩
    · have h3 := hF.2 q (by rw [h0]; exact Nat.lt_of_lt_of_le h1 hS.1) h2
      rw [h3, h0]
      exact hS.2.1 q h1 h2
    · rcases List.mem_append.mp hq with h | h
      · exact hS.2.2 q h
      · exact hL q h
  obtain ⟨t2, a1, b1⟩ := hpost p e s m args below meth c t.heap (locs ++ L) ls cx (by omega) g2 hSt hl T' e1 X'
  refine ⟨t2, hgo t2 ?_, b1⟩
  cases r with
  | none => exact a1
  | some v => exact a1
theorem x_callV {pc' : Nat} {d mc ms i n ci r : Nat} {ce : x_M} {As : List Value} {fs : List Value} {stk : List Value} (hc : x_at me pc = some (.invokevirtual i, 3)) (hp : pc + 3 = pc') (hs : x_sV me.2.2.2.2.2.1 i ce n ci) (hg : x_good ce) (ho : x_o z f r ci fs)
    (hY : Y E d ce (.ref r :: As) z f mc ms (fun v f' => X E R me QQ pc' lv (v.toList ++ st) (z + mc) f' (cl + mc) (sl + ms)))
    (hn : As.length = n) (hstk : stk = As.reverse ++ .ref r :: st) (hR : d + 1 ≤ R.frames ∧ 8 + (ce.2.2.1 + 11) + 200 * d ≤ R.locals) (hw : (st.map fun v => v.category).sum ≤ 8) (hf : cl + mc ≤ R.cells ∧ sl + ms ≤ R.slots) : X E R me QQ pc lv stk z f cl sl := by
  subst hstk
  subst hp
  intro p e s m args below meth c H locs ls cx hz hP hS hl
  obtain ⟨hx, hb, hr, hml, hown, hts, hlk, hK, hbs, hin, hd, hI⟩ := id cx
  intro T hT hX
  have hsz := x_size hT hX hbs hz hP hS
  obtain ⟨s1, s2, s3, s4, q, hq, hqn⟩ := hs
  have hG : GoodIn x_tb (wsV me.2.2.2.2.2.1 i ce.1.cls ce.1 (x_ws ce)) := by
    intro w hw
    unfold wsV at hw
    rcases List.mem_append.mp hw with h | h
    · simp only [List.mem_cons, List.not_mem_nil, or_false] at h
      rcases h with h | h | h | h <;> subst h
      · exact ⟨s1, x_tb_good _ s1⟩
      · exact ⟨s2, x_tb_good _ s2⟩
      · exact ⟨s3, x_tb_good _ s3⟩
      · exact ⟨hg.2.2.2.2.2.1, x_tb_good _ hg.2.2.2.2.2.1⟩
    · exact x_ws_good hg w h
  have cw := cwV (rm := x_rm d mc ms) (mc := mc) (ms := ms) (R := R) n hts hG rfl rfl rfl ⟨rfl, hg.2.2.2.2.2.2.1, hg.2.2.2.2.2.2.2, s4⟩ hR
  have hrec := va_recv hK.1 hP hq (x_o_at ho)
  rw [hqn] at hrec
  have hr1 := va_runV (e := e) (below := below) (meth := meth) (locs := locs) (As := As.map (x_sh E)) (rest := st.map (x_sh E)) (g := F0 m pc ls ((As.reverse ++ .ref r :: st).map (x_sh E))) (b := E.2.2.2.1 + r) ⟨hx, hb, hml, hown, hts⟩ hY cw ⟨x_blind E _ z f, hrec, fun U hU hW => ⟨rfl, by rw [hU]; exact hsz, by rw [hU]; exact hP, x_K.warm hW hK⟩⟩ rfl (by rw [List.length_map]; exact hn) hl.1 (by simp [x_sh]) (lv_room (by rw [List.map_map]; simpa [Function.comp_def, x_sh_cat] using hw)) (by rw [← hb, hb]; exact x_dec_at hd hc) hf
  exact x_after cx hz hS hl hT hX hr1
theorem x_callS {pc' : Nat} {d mc ms i n : Nat} {ce : x_M} {As : List Value} {stk : List Value} (hc : x_at me pc = some (.invokestatic i, 3)) (hp : pc + 3 = pc') (hs : x_sS me.2.2.2.2.2.1 i ce n) (hg : x_good ce)
    (hY : Y E d ce As z f mc ms (fun v f' => X E R me QQ pc' lv (v.toList ++ st) (z + mc) f' (cl + mc) (sl + ms)))
    (hn : As.length = n) (hstk : stk = As.reverse ++ st) (hR : d + 1 ≤ R.frames ∧ 8 + (ce.2.2.1 + 11) + 200 * d ≤ R.locals) (hw : (st.map fun v => v.category).sum ≤ 8) (hf : cl + mc ≤ R.cells ∧ sl + ms ≤ R.slots) : X E R me QQ pc lv stk z f cl sl := by
  subst hstk
  subst hp
  intro p e s m args below meth c H locs ls cx hz hP hS hl
  obtain ⟨hx, hb, hr, hml, hown, hts, hlk, hK, hbs, hin, hd, hI⟩ := id cx
  intro T hT hX
  have hsz := x_size hT hX hbs hz hP hS
  obtain ⟨s1, s2, s4⟩ := hs
  have cw := callB_of (rm := x_rm d mc ms) (mc := mc) (ms := ms) (R := R) (own := me.2.2.2.2.2.1) (index := i) n hts (x_ws_good hg) rfl rfl rfl (hts _ hg.2.2.2.2.2.1) (hts _ s1) ⟨hg.2.2.2.2.2.2.1, hg.2.2.2.2.2.2.2, s4⟩ hR
  have hr1 := va_runS (e := e) (below := below) (meth := meth) (locs := locs) (As := As.map (x_sh E)) (rest := st.map (x_sh E)) (g := F0 m pc ls ((As.reverse ++ st).map (x_sh E))) ⟨hx, hb, hml, hown, hts⟩ hY ⟨cw, hts _ s2⟩ ⟨x_blind E _ z f, fun U hU hW => ⟨rfl, by rw [hU]; exact hsz, by rw [hU]; exact hP, x_K.warm hW hK⟩⟩ rfl (by rw [List.length_map]; exact hn) hl.1 (by simp) (lv_room (by rw [List.map_map]; simpa [Function.comp_def, x_sh_cat] using hw)) (by rw [← hb, hb]; exact x_dec_at hd hc) hf
  exact x_after cx hz hS hl hT hX hr1
theorem x_callI {pc' : Nat} {d mc ms i n r : Nat} {nest : Bool} {ce : x_M} {As : List Value} {stk : List Value} (hc : x_at me pc = some (.invokespecial i, 3)) (hp : pc + 3 = pc') (hs : x_sI me.2.2.2.2.2.1 i ce n nest) (hg : x_good ce)
    (hY : Y E d ce (.ref r :: As) z f mc ms (fun v f' => X E R me QQ pc' lv (v.toList ++ st) (z + mc) f' (cl + mc) (sl + ms)))
    (hn : As.length = n) (hstk : stk = As.reverse ++ .ref r :: st) (hR : d + 1 ≤ R.frames ∧ 8 + (ce.2.2.1 + 11) + 200 * d ≤ R.locals) (hw : (st.map fun v => v.category).sum ≤ 8) (hf : cl + mc ≤ R.cells ∧ sl + ms ≤ R.slots) : X E R me QQ pc lv stk z f cl sl := by
  subst hstk
  subst hp
  intro p e s m args below meth c H locs ls cx hz hP hS hl
  obtain ⟨hx, hb, hr, hml, hown, hts, hlk, hK, hbs, hin, hd, hI⟩ := id cx
  intro T hT hX
  have hsz := x_size hT hX hbs hz hP hS
  obtain ⟨s1, s1', s2, s3, s5, s4⟩ := hs
  have hws : x_ws ce = Cond.code ce.1 ce.2.1 ce.2.2.1 none :: x_tb := by rw [← s5]; rfl
  cases nest with
  | false =>
    have cw := cwI (rm := x_rm d mc ms) (mc := mc) (ms := ms) (R := R) (own := me.2.2.2.2.2.1) (index := i) n hts (x_ws_good hg) hws rfl rfl (hts _ hg.2.2.2.2.2.1) (hts _ (s1 rfl)) (hts _ s2) s3 ⟨hg.2.2.2.2.2.2.1, hg.2.2.2.2.2.2.2, s4⟩ hR
    have hr1 := va_runI (e := e) (below := below) (meth := meth) (locs := locs) (As := As.map (x_sh E)) (rest := st.map (x_sh E)) (g := F0 m pc ls ((As.reverse ++ .ref r :: st).map (x_sh E))) (b := E.2.2.2.1 + r) ⟨hx, hb, hml, hown, hts⟩ hY cw ⟨x_blind E _ z f, fun U hU hW => ⟨rfl, by rw [hU]; exact hsz, by rw [hU]; exact hP, x_K.warm hW hK⟩⟩ rfl (by rw [List.length_map]; exact hn) hl.1 (by simp [x_sh]) (lv_room (by rw [List.map_map]; simpa [Function.comp_def, x_sh_cat] using hw)) (by rw [← hb, hb]; exact x_dec_at hd hc) hf
    exact x_after cx hz hS hl hT hX hr1
  | true =>
    have cw := va_cnB (rm := x_rm d mc ms) (mc := mc) (ms := ms) (R := R) (own := me.2.2.2.2.2.1) (index := i) (host := RX5) n hts (x_ws_good hg) hws rfl rfl (hK.2.1 _ (s1' rfl)) (hts _ hg.2.2.2.2.2.1) ⟨hg.2.2.2.2.2.2.1, hg.2.2.2.2.2.2.2, s4⟩ hR
    have hr1 := va_runIN (e := e) (below := below) (meth := meth) (locs := locs) (As := As.map (x_sh E)) (rest := st.map (x_sh E)) (g := F0 m pc ls ((As.reverse ++ .ref r :: st).map (x_sh E))) (b := E.2.2.2.1 + r) ⟨hx, hb, hml, hown, hts⟩ hY ⟨cw, s3, hts _ s2⟩ ⟨x_blind E _ z f, fun U hU hW => ⟨rfl, by rw [hU]; exact hsz, by rw [hU]; exact hP, x_K.warm hW hK⟩⟩ rfl (by rw [List.length_map]; exact hn) hl.1 (by simp [x_sh]) (lv_room (by rw [List.map_map]; simpa [Function.comp_def, x_sh_cat] using hw)) (by rw [← hb, hb]; exact x_dec_at hd hc) hf
    exact x_after cx hz hS hl hT hX hr1
theorem x_obj {pc' : Nat} {i r : Nat} (hc : x_at me pc = some (.invokespecial i, 3)) (hp : pc + 3 = pc') (hs : Cond.methodLink me.2.2.2.2.2.1 i objectInit ∈ x_tb) (hR : 1 ≤ R.frames ∧ 20 ≤ R.locals) (hw : (st.map fun v => v.category).sum ≤ 8) (k : X E R me QQ pc' lv st z f cl sl) : X E R me QQ pc lv (.ref r :: st) z f cl sl := by
  subst hp
  intro p e s m args below meth c H locs ls cx hz hP hS hl
  obtain ⟨hx, hb, hr, hml, hown, hts, hlk, hK, hbs, hin, hd, hI⟩ := id cx
  exact W.objInit hx hb hown (hts _ hs) (hts _ x_obI) (hts _ x_obC) rfl (by rw [hml]; exact hl.1) rfl (x_dec_at hd hc) hR.1 (by have h2 := hR.2; have h3 : ((st.map (x_sh E)).map fun v => v.category).sum = (st.map fun v => v.category).sum := (by rw [List.map_map]; congr 2; funext v; exact x_sh_cat E v); show 2 * 0 + _ + 12 ≤ _; rw [h3]; omega) (k p e s m args below meth c H locs ls cx hz hP hS hl)
theorem x_new {pc' : Nat} {i ci : Nat} {q : vw_C} {fs : List Value} (hc : x_at me pc = some (.new i, 3)) (hp : pc + 3 = pc') (hL : x_lk me.2.2.2.2.2.2.2.2.2 i = some ci) (hq : x_cl[ci]? = some q) (hfs : ∀ j, j < q.2.2 → defaultValue (x_ty ci j) = vp_V fs j) (hsh : fs.map (x_sh E) = fs) (h1 : cl + 1 ≤ R.cells) (h2 : sl + q.2.2 ≤ R.slots) (k : ∀ f' : x_H, f' = x_up f z (.inr (ci, fs)) → X E R me QQ pc' lv (.ref z :: st) (z + 1) f' (cl + 1) (sl + q.2.2)) : X E R me QQ pc lv st z f cl sl := by
  subst hp
  intro p e s m args below meth c H locs ls cx hz hP hS hl
  obtain ⟨hx, hb, hr, hml, hown, hts, hlk, hK, hbs, hin, hd, hI⟩ := id cx
  intro T hT hX
  have hsz := x_size hT hX hbs hz hP hS
  obtain ⟨q', hq', hcl⟩ := hI.2.2.2 _ (x_lk_mem _ _ _ hL)
  cases hq.symm.trans hq'
  have hKn := hK.1.1 ci _ hq
  have hi := x_ini ci q hq
  refine (W.newcK hx hb hown (hts _ hcl) (hts _ hi.2) (hts _ hi.1) rfl (x_dec_at hd hc) h1 h2 hKn.2.1 hsz (fun H1 kC hkC e1 z1 o1 => ?_)) T hT hX
  have hk : ∀ (k : Nat) (x : Nat × va_E), (x_w E z f)[k]? = some x → H1[x.1]? = H[x.1]? := fun k x hx => o1 x.1 (by have h9 := (hP k x hx).lt; rw [hsz] at h9; exact h9)
  have hP1 : va_P E.2.1 x_cl (x_w E (z + 1) (x_up f z (.inr (ci, fs)))) H1 := by
    rw [← x_w_push]
    refine (hP.kept hk).app (fun k x hx => ?_)
    have hz : k < 1 := (List.getElem?_eq_some_iff.mp hx).1
    rw [show k = 0 by omega] at hx
    cases hx
    refine ⟨_, hq, (u_born (x_ty ci) hts (x_ws_in _ _ hq) hKn hkC e1 (x_ty_ok ci q hq).1).to ?_⟩
    dsimp only [x_ce]
    rw [hsh]
    exact hfs
  exact k _ rfl p e s m args below meth c H1 locs ls cx (by omega) hP1 ⟨by have := hS.1; omega, fun x g1 g2 => (o1 x (by have := hS.1; omega)).trans (hS.2.1 x g1 g2), hS.2.2⟩ hl
theorem x_newarrayI {pc' : Nat} {n : Int32} {N : Nat} (hc : x_at me pc = some (.newarray .int, 2)) (hp : pc + 2 = pc') (hn : ¬ n < 0) (hN : n.toNatClampNeg = N) (hby : N * 8 ≤ 536870912) (h1 : cl + 1 ≤ R.cells) (h2 : sl + N ≤ R.slots) (k : ∀ f' : x_H, f' = x_up f z (.inl (N, .inl (fun _ => 0))) → X E R me QQ pc' lv (.ref z :: st) (z + 1) f' (cl + 1) (sl + N)) : X E R me QQ pc lv (.int n :: st) z f cl sl := by
  subst hp
  intro p e s m args below meth c H locs ls cx hz hP hS hl
  obtain ⟨hx, hb, hr, hml, hown, hts, hlk, hK, hbs, hin, hd, hI⟩ := id cx
  intro T hT hX
  have hsz := x_size hT hX hbs hz hP hS
  refine (va_newaK (atype := .int) hx hb (hts _ x_acI) rfl (x_dec_at hd hc) rfl hn hN (by show N * componentBytes .int ≤ _; simp only [componentBytes]; omega) h1 h2 hsz (fun H1 cA e1 z1 o1 hAr hNm => ?_)) T hT hX
  have hcA : E.2.2.1 0 = cA := by
    have h9 := (hK.1.2 0 (E.2.2.1 0, .int) rfl).2
    exact Option.some.inj (h9.symm.trans hNm)
  have hk : ∀ (k : Nat) (x : Nat × va_E), (x_w E z f)[k]? = some x → H1[x.1]? = H[x.1]? := fun k x hx => o1 x.1 (by have h9 := (hP k x hx).lt; rw [hsz] at h9; exact h9)
  have hP1 : va_P E.2.1 x_cl (x_w E (z + 1) (x_up f z (.inl (N, .inl (fun _ => 0))))) H1 := by
    rw [← x_w_push]
    refine (hP.kept hk).app (fun k x hx => ?_)
    have hz : k < 1 := (List.getElem?_eq_some_iff.mp hx).1
    rw [show k = 0 by omega] at hx
    cases hx
    show H1[E.2.2.2.1 + z]? = some (vp_cell (E.2.2.1 0) (N, .inl (fun _ => 0)))
    rw [hcA]
    exact e1
  exact k _ rfl p e s m args below meth c H1 locs ls cx (by omega) hP1 ⟨by have := hS.1; omega, fun x g1 g2 => (o1 x (by have := hS.1; omega)).trans (hS.2.1 x g1 g2), hS.2.2⟩ hl
theorem x_newarrayL {pc' : Nat} {n : Int32} {N : Nat} (hc : x_at me pc = some (.newarray .long, 2)) (hp : pc + 2 = pc') (hn : ¬ n < 0) (hN : n.toNatClampNeg = N) (hby : N * 8 ≤ 536870912) (h1 : cl + 1 ≤ R.cells) (h2 : sl + N ≤ R.slots) (k : ∀ f' : x_H, f' = x_up f z (.inl (N, .inr (.inl (fun _ => 0)))) → X E R me QQ pc' lv (.ref z :: st) (z + 1) f' (cl + 1) (sl + N)) : X E R me QQ pc lv (.int n :: st) z f cl sl := by
  subst hp
  intro p e s m args below meth c H locs ls cx hz hP hS hl
  obtain ⟨hx, hb, hr, hml, hown, hts, hlk, hK, hbs, hin, hd, hI⟩ := id cx
  intro T hT hX
  have hsz := x_size hT hX hbs hz hP hS
  refine (va_newaK (atype := .long) hx hb (hts _ x_acJ) rfl (x_dec_at hd hc) rfl hn hN (by show N * componentBytes .long ≤ _; simp only [componentBytes]; omega) h1 h2 hsz (fun H1 cA e1 z1 o1 hAr hNm => ?_)) T hT hX
  have hcA : E.2.2.1 1 = cA := by
    have h9 := (hK.1.2 1 (E.2.2.1 1, .long) rfl).2
    exact Option.some.inj (h9.symm.trans hNm)
  have hk : ∀ (k : Nat) (x : Nat × va_E), (x_w E z f)[k]? = some x → H1[x.1]? = H[x.1]? := fun k x hx => o1 x.1 (by have h9 := (hP k x hx).lt; rw [hsz] at h9; exact h9)
  have hP1 : va_P E.2.1 x_cl (x_w E (z + 1) (x_up f z (.inl (N, .inr (.inl (fun _ => 0)))))) H1 := by
    rw [← x_w_push]
    refine (hP.kept hk).app (fun k x hx => ?_)
    have hz : k < 1 := (List.getElem?_eq_some_iff.mp hx).1
    rw [show k = 0 by omega] at hx
    cases hx
    show H1[E.2.2.2.1 + z]? = some (vp_cell (E.2.2.1 1) (N, .inr (.inl (fun _ => 0))))
    rw [hcA]
    exact e1
  exact k _ rfl p e s m args below meth c H1 locs ls cx (by omega) hP1 ⟨by have := hS.1; omega, fun x g1 g2 => (o1 x (by have := hS.1; omega)).trans (hS.2.1 x g1 g2), hS.2.2⟩ hl
theorem x_anew {pc' : Nat} {i : Nat} {n : Int32} {N : Nat} (hc : x_at me pc = some (.anewarray i, 3)) (hp : pc + 3 = pc') (hL : x_lk me.2.2.2.2.2.2.2.2.2 i = some 3) (hn : ¬ n < 0) (hN : n.toNatClampNeg = N) (hby : N * 4 ≤ 536870912) (h1 : cl + 1 ≤ R.cells) (h2 : sl + N ≤ R.slots) (k : ∀ f' : x_H, f' = x_up f z (.inl (N, .inr (.inr (.inr (.inr (fun _ => none)))))) → X E R me QQ pc' lv (.ref z :: st) (z + 1) f' (cl + 1) (sl + N)) : X E R me QQ pc lv (.int n :: st) z f cl sl := by
  subst hp
  intro p e s m args below meth c H locs ls cx hz hP hS hl
  obtain ⟨hx, hb, hr, hml, hown, hts, hlk, hK, hbs, hin, hd, hI⟩ := id cx
  subst hN
  intro T hT hX
  have hsz := x_size hT hX hbs hz hP hS
  obtain ⟨q', hq', hcl⟩ := hI.2.2.2 _ (x_lk_mem _ _ _ hL)
  cases hq'
  refine (W.anew hx hb hown (hts _ hcl) (va_AO.use hK.2.2) rfl (x_dec_at hd hc) rfl hn hby h1 h2 (fun cA kA comp f1 f2 f3 f4 => ?_)) T hT hX
  have hcA : E.2.2.1 2 = cA := by
    obtain ⟨kA', comp', g1, g2, g3, g4⟩ := (hK.1.2 2 (E.2.2.1 2, .object RX3) rfl).2
    exact Option.some.inj (g4.symm.trans f1)
  subst hcA
  generalize hH1 : H.push ({ cls := E.2.2.1 2, slots := Array.replicate n.toNatClampNeg .null, vm := .none } : Cell) = H1
  have z1 : H1.size = H.size + 1 := by rw [← hH1, Array.size_push]
  have e1 : H1[H.size]? = some (arrV (E.2.2.1 2) n.toNatClampNeg (fun _ => .null)) := by rw [← hH1, Array.getElem?_push_size, ← arrV_new]
  have o1 : ∀ q : Nat, q < H.size → H1[q]? = H[q]? := fun q hq => by rw [← hH1, Array.getElem?_push, if_neg (Nat.ne_of_lt hq)]
  have hk : ∀ (k : Nat) (x : Nat × va_E), (x_w E z f)[k]? = some x → H1[x.1]? = H[x.1]? := fun k x hx => o1 x.1 (hP k x hx).lt
  rw [hsz] at z1 e1 ⊢
  have hP1 : va_P E.2.1 x_cl (x_w E (z + 1) (x_up f z (.inl (n.toNatClampNeg, .inr (.inr (.inr (.inr (fun _ => none)))))))) H1 := by
    rw [← x_w_push]
    refine (hP.kept hk).app (fun k x hx => ?_)
    have hz : k < 1 := (List.getElem?_eq_some_iff.mp hx).1
    rw [show k = 0 by omega] at hx
    cases hx
    show H1[E.2.2.2.1 + z]? = some (vp_cell (E.2.2.1 2) _)
    exact e1
  exact k _ rfl p e s m args below meth c H1 locs ls cx (by omega) hP1 ⟨by have := hS.1; omega, fun x g1 g2 => (o1 x (by have := hS.1; omega)).trans (hS.2.1 x g1 g2), hS.2.2⟩ hl
theorem x_aastore {pc' : Nat} {r n x : Nat} {g : Nat → Option Nat} {i : Int32} {vs : List Value} (hc : x_at me pc = some (.aastore, 1)) (hp : pc + 1 = pc') (ha : x_a z f r (n, .inr (.inr (.inr (.inr g))))) (ho : x_o z f x 3 vs) (hi : vp_in i n) (k : ∀ f' : x_H, f' = x_up f r (.inl (n, .inr (.inr (.inr (.inr (va_up g i.toNatClampNeg (some x))))))) → X E R me QQ pc' lv st z f' cl sl) : X E R me QQ pc lv (.ref x :: .int i :: .ref r :: st) z f cl sl := by
  subst hp
  intro p e s m args below meth c H locs ls cx hz hP hS hl
  refine va_astq cx.1 cx.2.1 cx.2.2.2.2.2.2.2.1.1 hP (x_w_D E z f) hS r 2 x 3 (x_a_at ha) rfl (x_o_at ho) rfl hi (x_dec_at cx.2.2.2.2.2.2.2.2.2.2.1 hc) (fun H1 locs1 hP1 _ hS1 => ?_)
  have hg : ∀ j : Nat, va_up (fun j => (g j).map (fun k => E.2.2.2.1 + k)) i.toNatClampNeg (some (E.2.2.2.1 + x)) j = ((va_up g i.toNatClampNeg (some x)) j).map (fun k => E.2.2.2.1 + k) := by
    intro j
    by_cases h : j = i.toNatClampNeg
    · subst h
      simp [va_up]
    · simp [va_up, h]
  have hw : (x_w E z f).set r (E.2.2.2.1 + r, .inl (E.2.2.1 2, n, .inr (.inr (.inr (.inr (va_up (fun j => (g j).map (fun k => E.2.2.2.1 + k)) i.toNatClampNeg (some (E.2.2.2.1 + x)))))))) = x_w E z (x_up f r (.inl (n, .inr (.inr (.inr (.inr (va_up g i.toNatClampNeg (some x)))))))) := by
    rw [← x_w_set, funext hg]
    rfl
  have hP2 : va_P E.2.1 x_cl ((x_w E z f).set r (E.2.2.2.1 + r, .inl (E.2.2.1 2, n, .inr (.inr (.inr (.inr (va_up (fun j => (g j).map (fun k => E.2.2.2.1 + k)) i.toNatClampNeg (some (E.2.2.2.1 + x))))))))) H1 := hP1
  rw [hw] at hP2
  exact k _ rfl p e s m args below meth c H1 locs1 ls cx hz hP2 hS1 hl
theorem x_copy {pc' : Nat} {i r0 r1 n0 n1 : Nat} {g0 g1 : Nat → Int32} {sp dp n : Int32} (hc : x_at me pc = some (.invokestatic i, 3)) (hp : pc + 3 = pc') (hs : Cond.methodLink me.2.2.2.2.2.1 i arraycopyName ∈ x_tb) (ha0 : x_a z f r0 (n0, .inl g0)) (ha1 : x_a z f r1 (n1, .inl g1)) (h1 : ¬ sp < 0) (h2 : ¬ dp < 0) (h3 : ¬ n < 0) (h4 : sp.toNatClampNeg + n.toNatClampNeg ≤ n0) (h5 : dp.toNatClampNeg + n.toNatClampNeg ≤ n1)
    (hR : 1 ≤ R.frames ∧ 8 + (nativeFrameWords "java/lang/System" "arraycopy" 5 + 11) ≤ R.locals) (hw : (st.map fun v => v.category).sum ≤ 8) (k : ∀ f' : x_H, f' = x_up f r1 (.inl (n1, .inl (va_cpy g0 g1 sp.toNatClampNeg dp.toNatClampNeg n.toNatClampNeg))) → X E R me QQ pc' lv st z f' cl sl) : X E R me QQ pc lv (.int n :: .int dp :: .ref r1 :: .int sp :: .ref r0 :: st) z f cl sl := by
  subst hp
  intro p e s m args below meth c H locs ls cx hz hP hS hl
  obtain ⟨hx, hb, hr, hml, hown, hts, hlk, hK, hbs, hin, hd, hI⟩ := id cx
  have h9 : ((st.map (x_sh E)).map fun v => v.category).sum = (st.map fun v => v.category).sum := by rw [List.map_map]; congr 2; funext v; exact x_sh_cat E v
  refine va_copyi hx hb (by rw [hml]; exact hl.1.symm) hown (hts _ hs) (hts _ x_cpN) (hts _ x_cpS) (hts _ iniJ10) hK.1 hP (x_w_D E z f) hS r0 r1 0 0 (x_a_at ha0) (x_a_at ha1) rfl rfl rfl h1 h2 h3 h4 h5 (fun _ _ => rfl) hR.1 (by rw [h9]; have := hR.2; omega) (x_dec_at hd hc) (fun H1 locs1 hP1 _ hS1 => ?_)
  have hw : (x_w E z f).set r1 (E.2.2.2.1 + r1, .inl (E.2.2.1 0, n1, .inl (va_cpy g0 g1 sp.toNatClampNeg dp.toNatClampNeg n.toNatClampNeg))) = x_w E z (x_up f r1 (.inl (n1, .inl (va_cpy g0 g1 sp.toNatClampNeg dp.toNatClampNeg n.toNatClampNeg)))) := by
    rw [← x_w_set]
    rfl
  have hP2 : va_P E.2.1 x_cl ((x_w E z f).set r1 (E.2.2.2.1 + r1, .inl (E.2.2.1 0, n1, .inl (va_cpy g0 g1 sp.toNatClampNeg dp.toNatClampNeg n.toNatClampNeg)))) H1 := hP1
  rw [hw] at hP2
  exact k _ rfl p e s m args below meth c H1 locs1 ls cx hz hP2 hS1 hl
end STEPS2
