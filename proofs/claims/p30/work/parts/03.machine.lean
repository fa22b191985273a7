/-! A method's walk over an abstract heap: cells by number, addresses counted from a base. -/
abbrev x_C : Type := vp_A ⊕ (Nat × List Value)
abbrev x_H : Type := Nat → x_C
/-- links of fields (pool entry; number of the type, field, by a nest mate), int and long constants, made types, of one pool -/
abbrev x_I : Type := String × List (Nat × (Nat × Nat × Bool)) × List (Nat × Int32) × List (Nat × Int64) × List (Nat × Nat)
/-- a method: name, bytes, places for variables, answer's type, decoded bytes by sixteens, its pool -/
abbrev x_M : Type := MethodName × ByteArray × Nat × Option FieldType × List (List (Nat × Instr × Nat)) × x_I
def x_lk {α : Type} : List (Nat × α) → Nat → Option α
  | [], _ => none
  | q :: t, n => cond (Nat.beq q.1 n) (some q.2) (x_lk t n)
theorem x_lk_mem {α : Type} : ∀ (l : List (Nat × α)) (n : Nat) (a : α), x_lk l n = some a → (n, a) ∈ l
  | [], _, _, h => by cases h
  | q :: t, n, a, h => by
    unfold x_lk at h
    cases hb : Nat.beq q.1 n with
    | true =>
      rw [hb] at h
      have h1 : q.1 = n := Nat.eq_of_beq_eq_true hb
      have h2 : q.2 = a := Option.some.inj h
      subst h1; subst h2
      exact List.mem_cons_self
    | false =>
      rw [hb] at h
      exact List.mem_cons_of_mem _ (x_lk_mem t n a h)
def x_at (me : x_M) (pc : Nat) : Option (Instr × Nat) := x_lk (me.2.2.2.2.1.getD (pc / 16) []) pc
/-- what is decided of a method's table -/
def x_dec (me : x_M) : Prop := ∀ ch ∈ me.2.2.2.2.1, ∀ e ∈ ch, decode me.2.1 e.1 = .ok e.2
theorem x_dec_at {me : x_M} (h : x_dec me) {pc : Nat} {i : Instr} {n : Nat} (hc : x_at me pc = some (i, n)) : decode me.2.1 pc = .ok (i, n) := by
  unfold x_at at hc
  have h1 := x_lk_mem _ _ _ hc
  by_cases hl : pc / 16 < me.2.2.2.2.1.length
  · have h2 : me.2.2.2.2.1.getD (pc / 16) [] = me.2.2.2.2.1[pc / 16] := by simp [List.getD, hl]
    rw [h2] at h1
    have h3 := h _ (List.getElem_mem hl) (pc, i, n) h1
    dsimp only at h3
    exact h3
  · have h2 : me.2.2.2.2.1.getD (pc / 16) [] = [] := by simp [List.getD, Nat.not_lt.mp hl]
    rw [h2] at h1
    cases h1
/-- what is decided of a pool -/
def x_okI (I : x_I) : Prop :=
  (∀ e ∈ I.2.1, ∃ r : vw_C, x_cl[e.2.1]? = some r ∧ e.2.2.1 < r.2.2 ∧ (e.2.2.2 = false → Cond.fieldLink I.1 e.1 (r.2.1 e.2.2.1).1 (r.2.1 e.2.2.1).2.1 (r.2.1 e.2.2.1).2.2.1 ∈ x_tb) ∧ (e.2.2.2 = true → Cond.fieldLinkNest I.1 e.1 (r.2.1 e.2.2.1).1 (r.2.1 e.2.2.1).2.1 (r.2.1 e.2.2.1).2.2.1 RX5 ∈ x_nw)) ∧
  (∀ e ∈ I.2.2.1, Cond.constant I.1 e.1 e.2 ∈ x_tb) ∧ (∀ e ∈ I.2.2.2.1, Cond.constantLong I.1 e.1 e.2 ∈ x_tb) ∧ (∀ e ∈ I.2.2.2.2, ∃ r : vw_C, x_cl[e.2]? = some r ∧ Cond.classLink I.1 e.1 r.1 ∈ x_tb)
/-- the launch, the numbers of the types, the numbers of the array types, the base, the script's address, length, values -/
abbrev x_E : Type := Launch × va_G × (Nat → ClassId) × Nat × Nat
def x_sh (E : x_E) (v : Value) : Value := match v with
  | .ref k => .ref (E.2.2.2.1 + k)
  | .retAddr _ => .ref E.2.2.2.2
  | v => v
theorem x_sh_cat (E : x_E) (v : Value) : (x_sh E v).category = v.category := by cases v <;> rfl
def x_shA (E : x_E) (a : vp_A) : vp_A := match a with
  | (n, .inr (.inr (.inr (.inr f)))) => (n, .inr (.inr (.inr (.inr (fun j => (f j).map (fun k => E.2.2.2.1 + k))))))
  | a => a
def x_kd (a : vp_A) : Nat := match a.2 with
  | .inl _ => 0
  | .inr (.inl _) => 1
  | _ => 2
def x_ce (E : x_E) (c : x_C) : va_E := match c with
  | .inl a => .inl (E.2.2.1 (x_kd a), x_shA E a)
  | .inr o => .inr (o.1, o.2.map (x_sh E))
def x_w (E : x_E) (z : Nat) (f : x_H) : va_W := (List.range z).map (fun k => (E.2.2.2.1 + k, x_ce E (f k)))
def x_up (f : x_H) (k : Nat) (c : x_C) : x_H := fun j => if j = k then c else f j
theorem x_up_s (f : x_H) (k : Nat) (c : x_C) : x_up f k c k = c := by simp [x_up]
theorem x_up_n (f : x_H) {k j : Nat} (c : x_C) (h : j ≠ k) : x_up f k c j = f j := by simp [x_up, h]
theorem x_w_at {E : x_E} {z : Nat} {f : x_H} {k : Nat} (h : k < z) : (x_w E z f)[k]? = some (E.2.2.2.1 + k, x_ce E (f k)) := by
  simp [x_w, h]
theorem x_w_len (E : x_E) (z : Nat) (f : x_H) : (x_w E z f).length = z := by simp [x_w]
theorem x_w_set {E : x_E} {z : Nat} {f : x_H} {k : Nat} (c : x_C) : (x_w E z f).set k (E.2.2.2.1 + k, x_ce E c) = x_w E z (x_up f k c) := by
  apply List.ext_getElem?
  intro j
  rw [List.getElem?_set]
  by_cases hj : k = j
  · subst hj
    by_cases hz : k < z
    · rw [if_pos rfl, if_pos (by rw [x_w_len]; exact hz), x_w_at hz, x_up_s]
    · rw [if_pos rfl, if_neg (by rw [x_w_len]; exact hz)]
      rw [List.getElem?_eq_none (by rw [x_w_len]; omega)]
  · rw [if_neg hj]
    by_cases hz : j < z
    · rw [x_w_at hz, x_w_at hz, x_up_n f c (Ne.symm hj)]
    · rw [List.getElem?_eq_none (by rw [x_w_len]; omega), List.getElem?_eq_none (by rw [x_w_len]; omega)]
theorem x_w_push {E : x_E} {z : Nat} {f : x_H} (c : x_C) : x_w E z f ++ [(E.2.2.2.1 + z, x_ce E c)] = x_w E (z + 1) (x_up f z c) := by
  apply List.ext_getElem?
  intro j
  rcases Nat.lt_trichotomy j z with h | h | h
  · rw [List.getElem?_append_left (by rw [x_w_len]; exact h), x_w_at h, x_w_at (by omega), x_up_n f c (by omega)]
  · subst h
    rw [List.getElem?_append_right (by rw [x_w_len]; exact Nat.le_refl _), x_w_len, x_w_at (by omega), x_up_s]
    simp
  · rw [List.getElem?_eq_none (by simp [x_w_len]; omega), List.getElem?_eq_none (by rw [x_w_len]; omega)]
def x_A (E : x_E) : Nat → Prop := fun q => E.2.2.2.1 ≤ q
theorem x_w_D (E : x_E) (z : Nat) (f : x_H) : va_D (x_A E) (x_w E z f) := by
  have key : ∀ (i : Nat) (p : Nat × va_E), (x_w E z f)[i]? = some p → p.1 = E.2.2.2.1 + i := by
    intro i p h
    have hi : i < z := by
      have := (List.getElem?_eq_some_iff.mp h).1
      rw [x_w_len] at this
      exact this
    rw [x_w_at hi] at h
    exact (congrArg Prod.fst (Option.some.inj h)).symm
  refine ⟨fun i j p q hp hq e => ?_, fun k q hq => ?_⟩
  · have h1 := key i p hp
    have h2 := key j q hq
    omega
  · show E.2.2.2.1 ≤ q.1
    have h1 := key k q hq
    omega
def x_tys (E : x_E) : List (ClassId × FieldType) := [(E.2.2.1 0, .int), (E.2.2.1 1, .long), (E.2.2.1 2, .object RX3)]
/-- what the machine's tables say, at any state -/
def x_K (E : x_E) (U : State) : Prop := va_K E.2.1 x_cl (x_tys E) U ∧ (∀ w ∈ x_nw, va_Nw w U) ∧ va_AO RX3 U
theorem x_nw_kind : ∀ w ∈ x_nw, (∃ a i b n d h, w = Cond.fieldLinkNest a i b n d h) ∨ (∃ a i x h, w = Cond.methodLinkNest a i x h) := by
  intro w hw
  have h : x_nw.all (fun w => match w with
    | .fieldLinkNest _ _ _ _ _ _ => true
    | .methodLinkNest _ _ _ _ => true
    | _ => false) = true := by decide +kernel
  have h1 := List.all_eq_true.mp h w hw
  cases w <;> first | exact Or.inl ⟨_, _, _, _, _, _, rfl⟩ | exact Or.inr ⟨_, _, _, _, rfl⟩ | cases h1
theorem x_nw_warm {s U : State} (hW : s.WarmedH U.vm) (h : ∀ w ∈ x_nw, va_Nw w s) : ∀ w ∈ x_nw, va_Nw w U := by
  intro w hw
  have h1 := h w hw
  rcases x_nw_kind w hw with ⟨a, i, b, n, d, h2, rfl⟩ | ⟨a, i, x, h2, rfl⟩
  · exact va_Nw.warmF hW h1
  · exact va_Nw.warmM hW h1
theorem x_nw_same {u U : State} (hv : u.vm = U.vm) (h : ∀ w ∈ x_nw, va_Nw w u) : ∀ w ∈ x_nw, va_Nw w U := by
  intro w hw
  have h1 := h w hw
  rcases x_nw_kind w hw with ⟨a, i, b, n, d, h2, rfl⟩ | ⟨a, i, x, h2, rfl⟩
  · exact va_Nw.same rfl hv h1
  · exact va_Nw.same rfl hv h1
theorem x_K.warm {E : x_E} {s U : State} (hW : s.WarmedH U.vm) (h : x_K E s) : x_K E U := ⟨va_K.moved hW.alike h.1, x_nw_warm hW h.2.1, va_AO.moved hW.alike h.2.2⟩
theorem x_K.same {E : x_E} {u U : State} (hv : u.vm = U.vm) (h : x_K E u) : x_K E U := ⟨va_K.moved (hv ▸ Vm.Alike.refl u.vm) h.1, x_nw_same hv h.2.1, va_AO.moved (hv ▸ Vm.Alike.refl u.vm) h.2.2⟩
def x_in (E : x_E) (z : Nat) (f : x_H) (U : State) : Prop := U.heap.size = E.2.2.2.1 + z ∧ va_P E.2.1 x_cl (x_w E z f) U.heap ∧ x_K E U
def x_Q (E : x_E) (z : Nat) (post : Option Value → x_H → Prop) : Array Value → State → Outcome → State → Prop := fun _ st oc t =>
  (∃ (r : Option Value) (f : x_H), oc = .returned (r.map (x_sh E)) ∧ post r f ∧ x_in E z f t) ∧ va_F (x_A E) st t
def x_rm (d mc ms : Nat) : Room := { frames := d, cells := mc, slots := ms, locals := 200 * d }
def x_ws (me : x_M) : List Cond := .code me.1 me.2.1 me.2.2.1 me.2.2.2.1 :: x_tb
/-- A METHOD'S CONTRACT: called on the abstract heap f of z cells it returns, and what is asked ('post') holds of its answer and its heap; mc cells of ms places are new -/
def Y (E : x_E) (d : Nat) (me : x_M) (av : List Value) (z : Nat) (f : x_H) (mc ms : Nat) (post : Option Value → x_H → Prop) : Prop :=
  Met E.1 me.1 (x_ws me) (x_rm d mc ms) (va_Pc (av.map (x_sh E)) (x_in E z f)) (x_Q E (z + mc) post) mc ms (x_A E)
/-- what stays while a method is walked -/
def x_cx (E : x_E) (me : x_M) (p : Program) (s : State) (m : MethodId) (args : Array Value) (meth : Method) (c : Code) : Prop :=
  p.tables.exec = Jvm.exec ∧ c.code = me.2.1 ∧ meth.sig.returnType = me.2.2.2.1 ∧ c.maxLocals = me.2.2.1 ∧ s.vm.findClass me.2.2.2.2.2.1 = some m.cls ∧ (∀ w ∈ x_tb, w.before args s = true) ∧ meth.locks = false ∧ x_K E s ∧ E.2.2.2.1 ≤ s.heap.size ∧ (me.1.name = "<init>" → meth.name = "<init>") ∧ x_dec me ∧ x_okI me.2.2.2.2.2
abbrev x_L : Type := List (Nat × Value)
def x_lv (E : x_E) (lv : x_L) : x_L := lv.map (fun q => (q.1, x_sh E q.2))
/-- A WALK: from this pc, with these variables, this stack and this abstract heap, the machine comes to where QQ holds -/
def X (E : x_E) (R : Room) (me : x_M) (QQ : List Frame → Array Value → State → State → Prop) (pc : Nat) (lv : x_L) (st : List Value) (z : Nat) (f : x_H) (cl sl : Nat) : Prop :=
  ∀ (p : Program) (e : Env) (s : State) (m : MethodId) (args : Array Value) (below : List Frame) (meth : Method) (c : Code) (H : Heap) (locs : List Loc) (ls : Array Slot),
    x_cx E me p s m args meth c → s.heap.size + cl = E.2.2.2.1 + z → va_P E.2.1 x_cl (x_w E z f) H → va_S (x_A E) s.heap H locs → lv_has ls me.2.2.1 (x_lv E lv) →
    W p E.1 e R s m args below meth c H locs cl sl (QQ below args s) (F0 m pc ls (st.map (x_sh E)))
theorem x_size {E : x_E} {p : Program} {l : Launch} {e : Env} {R : Room} {s : State} {m : MethodId} {args : Array Value} {below : List Frame} {meth : Method} {c : Code} {T : State} {H : Heap} {locs : List Loc} {cl sl z : Nat} {f : x_H} (hT : T.heap = H) (hX : Stand p l e R s m args below meth c T locs cl sl) (hb : E.2.2.2.1 ≤ s.heap.size) (hz : s.heap.size + cl = E.2.2.2.1 + z) (hP : va_P E.2.1 x_cl (x_w E z f) H) (hS : va_S (x_A E) s.heap H locs) : H.size = E.2.2.2.1 + z := by
  have h1 : T.heap.size ≤ s.heap.size + cl := hX.same.2.2.1
  rw [hT] at h1
  have h2 : s.heap.size ≤ H.size := hS.1
  cases z with
  | zero => omega
  | succ n =>
    have h3 : E.2.2.2.1 + n < H.size := (hP n _ (x_w_at (Nat.lt_succ_self n))).lt
    omega
/-- where a method ends -/
def x_QM (E : x_E) (z mc ms : Nat) (post : Option Value → x_H → Prop) : List Frame → Array Value → State → State → Prop := fun below args s => MQ below (x_Q E z post) args s mc ms (x_A E)
/-- what is decided of a method -/
def x_good (me : x_M) : Prop := plainName me.1.cls = true ∧ x_dec me ∧ x_okI me.2.2.2.2.2 ∧ me.2.2.2.2.2.1 = me.1.cls ∧ Cond.code me.1 me.2.1 me.2.2.1 me.2.2.2.1 ∈ x_tb ∧ Cond.initialized me.1.cls ∈ x_tb ∧ (me.1.cls ≠ "java/lang/invoke/MethodHandle" ∧ me.1.cls ≠ "java/lang/invoke/VarHandle")
theorem Y.intro {E : x_E} {d mc ms : Nat} {me : x_M} {av : List Value} {z : Nat} {f : x_H} {post : Option Value → x_H → Prop} (hg : x_good me) {lv : x_L} (hlv : lv_args 0 av = lv) (hn : (lg_sl av).length ≤ me.2.2.1)
    (k : X E (x_rm d mc ms) me (x_QM E (z + mc) mc ms post) 0 lv [] z f 0 0) : Y E d me av z f mc ms post := by
  have hsl : ∀ (vs : List Value), (lg_sl (vs.map (x_sh E))).length = (lg_sl vs).length := by
    intro vs
    induction vs with
    | nil => rfl
    | cons v t ih =>
      simp only [lg_sl, List.map_cons, List.flatMap_cons, List.length_append, x_sh_cat] at ih ⊢
      rw [ih]
      split <;> rfl
  have harg : ∀ (vs : List Value) (i : Nat), lv_args i (vs.map (x_sh E)) = x_lv E (lv_args i vs) := by
    intro vs
    induction vs with
    | nil => intro i; rfl
    | cons v t ih =>
      intro i
      simp only [lv_args, List.map_cons, x_sh_cat, x_lv] at ih ⊢
      rw [ih]
  refine Met.ofW (cc := me.2.1) (maxL := me.2.2.1) (ret := me.2.2.2.1) hg.1 rfl ?_
  intro p e s m args below meth c s₁ B hml hv
  obtain ⟨rfl, hsz, hP, hK⟩ := hv
  have hts := atoms_spec (ws := x_ws me) B.pre
  rw [lg_entry_eq]
  have hl := lv_entry (av.map (x_sh E)) (n := me.2.2.1) (by rw [hsl]; exact hn)
  rw [harg, hlv] at hl
  exact k p e s m _ below meth c s.heap [] _ ⟨B.exec, B.bytes, B.returns, hml, by rw [hg.2.2.2.1]; exact findClass_of_methodNamed B.named, fun w hw => hts w (List.mem_cons_of_mem _ hw), B.notSynchronized, hK, by rw [hsz]; exact Nat.le_add_right _ _, (fun hq => (name_of_methodNamed B.named B.method).1.trans hq), hg.2.1, hg.2.2.1⟩ hsz hP va_S.rf hl
/-- a site: an instance's method, a static one, a constructor (by a nest mate or not) -/
def x_sV (own : String) (i : Nat) (ce : x_M) (n ci : Nat) : Prop := Cond.methodLink own i ce.1 ∈ x_tb ∧ Cond.instanceMethod ce.1 ∈ x_tb ∧ Cond.selects ce.1.cls ce.1 ce.1 ∈ x_tb ∧ (parseMethodDescriptor ce.1.desc).map (fun d => d.parameters.length) = some n ∧ ∃ q : vw_C, x_cl[ci]? = some q ∧ q.1 = ce.1.cls
def x_sS (own : String) (i : Nat) (ce : x_M) (n : Nat) : Prop := Cond.methodLink own i ce.1 ∈ x_tb ∧ Cond.static ce.1 ∈ x_tb ∧ (parseMethodDescriptor ce.1.desc).map (fun d => d.parameters.length) = some n
def x_sI (own : String) (i : Nat) (ce : x_M) (n : Nat) (nest : Bool) : Prop := (nest = false → Cond.methodLink own i ce.1 ∈ x_tb) ∧ (nest = true → Cond.methodLinkNest own i ce.1 RX5 ∈ x_nw) ∧ Cond.instanceMethod ce.1 ∈ x_tb ∧ ce.1.name = "<init>" ∧ ce.2.2.2.1 = none ∧ (parseMethodDescriptor ce.1.desc).map (fun d => d.parameters.length) = some n
