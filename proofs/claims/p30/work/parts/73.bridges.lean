section
-- == 73.bits
/-! Beans in one number. (The first rows are the kit's laws/BITS, pasted as it bids.) -/
theorem u_tn {n : Nat} (h : n < 2 ^ 64) : (UInt64.ofNat n).toNat = n := Nat.mod_eq_of_lt h
theorem g_and {a b c : Nat} (ha : a < 2 ^ 64) (hb : b < 2 ^ 64) (hc : a &&& b = c) : lN a &&& lN b = lN c := by
  subst hc
  have h : UInt64.ofNat a &&& UInt64.ofNat b = UInt64.ofNat (a &&& b) := UInt64.toNat_inj.mp (by rw [UInt64.toNat_and, u_tn ha, u_tn hb, u_tn (Nat.and_lt_two_pow a hb)])
  have h2 := congrArg UInt64.toInt64 h
  exact h2
theorem g_and1 {a : Nat} (ha : a < 2 ^ 64) : lN a &&& 1 = lN (a % 2) := g_and (b := 1) ha (by decide) (Nat.and_two_pow_sub_one_eq_mod a 1)
theorem g_mask {a s p : Nat} (hp : 2 ^ s = p) (hs : s < 64) (ha : a < 2 ^ 64) : lN a &&& lN (p - 1) = lN (a % p) := by
  subst hp
  have := Nat.pow_lt_pow_right (show 1 < 2 by decide) hs
  exact g_and ha (by omega) (Nat.and_two_pow_sub_one_eq_mod a s)
theorem g_or {k p a b : Nat} (hp : 2 ^ k = p) (ha : a < p) (h : b * p + a < 2 ^ 64) : lN (b * p) ||| lN a = lN (b * p + a) := by
  subst hp
  have h1 : b * 2 ^ k ||| a = b * 2 ^ k + a := by rw [← Nat.shiftLeft_eq, Nat.shiftLeft_add_eq_or_of_lt ha]
  have h3 : UInt64.ofNat (b * 2 ^ k) ||| UInt64.ofNat a = UInt64.ofNat (b * 2 ^ k + a) := UInt64.toNat_inj.mp (by rw [UInt64.toNat_or, u_tn (by omega), u_tn (by omega), u_tn h, h1])
  have h2 := congrArg UInt64.toInt64 h3
  exact h2
theorem g_or' {k p a b : Nat} (hp : 2 ^ k = p) (ha : a < p) (h : a + b * p < 2 ^ 64) : lN a ||| lN (b * p) = lN (a + b * p) := by
  rw [Int64.or_comm, g_or hp ha (by omega), Nat.add_comm]
theorem g_ushr {a k p : Nat} {y : UInt64} (hy : y = UInt64.ofNat k) (hk : k < 64) (hp : 2 ^ k = p) (ha : a < 2 ^ 64) : ((lN a).toUInt64 >>> y).toInt64 = lN (a / p) := by
  subst hy hp
  have h : UInt64.ofNat a >>> UInt64.ofNat k = UInt64.ofNat (a / 2 ^ k) := UInt64.toNat_inj.mp (by rw [UInt64.toNat_shiftRight, u_tn ha, u_tn (by omega), u_tn (Nat.lt_of_le_of_lt (Nat.div_le_self _ _) ha), Nat.mod_eq_of_lt hk, Nat.shiftRight_eq_div_pow])
  have h2 := congrArg UInt64.toInt64 h
  exact h2
theorem g_shl {a k p : Nat} {y : Int64} (hy : y.toBitVec.smod 64 = BitVec.ofNat 64 k) (hk : k < 64) (hp : 2 ^ k = p) (ha : a < 2 ^ 64) : lN a <<< y = lN (a * p) := by
  subst hp
  apply Int64.toBitVec_inj.mp
  rw [Int64.toBitVec_shiftLeft, hy]
  apply BitVec.eq_of_toNat_eq
  have hb : (lN a).toBitVec.toNat = a := Nat.mod_eq_of_lt ha
  have hk' : (BitVec.ofNat 64 k).toNat = k := Nat.mod_eq_of_lt (by omega)
  have h : ((lN a).toBitVec <<< BitVec.ofNat 64 k).toNat = (a * 2 ^ k) % 2 ^ 64 := by simp only [BitVec.shiftLeft_eq', BitVec.toNat_shiftLeft, hb, hk', Nat.shiftLeft_eq]
  exact h
theorem q_is1 (x : Int32) : x - 1 = x + Int32.ofInt (-1) := by
  rw [Int32.sub_eq_add_neg]
  rfl
/-- digits from b on, m of them -/
def q_eb (β : Nat → Nat) : Nat → Nat → Nat
  | _, 0 => 0
  | b, m + 1 => β b + 128 * q_eb β (b + 1) m
theorem q_eb_lt {β : Nat → Nat} (h : ∀ i, β i ≤ 127) : ∀ (m b : Nat), q_eb β b m < 128 ^ m
  | 0, _ => Nat.one_pos
  | m + 1, b => by
    have h1 := q_eb_lt h m (b + 1)
    have h2 := h b
    unfold q_eb
    rw [Nat.pow_succ]
    omega
theorem q_eb_63 {β : Nat → Nat} (h : ∀ i, β i ≤ 127) {m b : Nat} (hm : m ≤ 9) : q_eb β b m < 2 ^ 63 := by
  have h1 := q_eb_lt h m b
  have h2 : 128 ^ m ≤ 128 ^ 9 := Nat.pow_le_pow_right (by decide) hm
  have h3 : 128 ^ 9 = 2 ^ 63 := by decide
  omega
theorem q_eb_mod {β : Nat → Nat} (h : ∀ i, β i ≤ 127) (b m : Nat) : q_eb β b (m + 1) % 128 = β b := by
  have := h b
  unfold q_eb
  omega
theorem q_eb_div {β : Nat → Nat} (h : ∀ i, β i ≤ 127) (b m : Nat) : q_eb β b (m + 1) / 128 = q_eb β (b + 1) m := by
  have h1 := h b
  rw [show q_eb β b (m + 1) = β b + 128 * q_eb β (b + 1) m from rfl]
  omega
theorem q_eb_eq {β γ : Nat → Nat} (hβ : ∀ i, β i ≤ 127) (hγ : ∀ i, γ i ≤ 127) : ∀ (m b : Nat), q_eb β b m = q_eb γ b m ↔ ∀ i, b ≤ i → i < b + m → β i = γ i
  | 0, b => ⟨fun _ i h1 h2 => absurd h2 (by omega), fun _ => rfl⟩
  | m + 1, b => by
    have ih := q_eb_eq hβ hγ m (b + 1)
    constructor
    · intro e i h1 h2
      have e1 : β b = γ b := by rw [← q_eb_mod hβ b m, ← q_eb_mod hγ b m, e]
      have e2 : q_eb β (b + 1) m = q_eb γ (b + 1) m := by rw [← q_eb_div hβ b m, ← q_eb_div hγ b m, e]
      by_cases d : i = b
      · rw [d]
        exact e1
      · exact ih.mp e2 i (by omega) (by omega)
    · intro e
      unfold q_eb
      rw [e b (Nat.le_refl b) (by omega), ih.mpr (fun i h1 h2 => e i (by omega) (by omega))]
section EN
variable {E : x_E} {z : Nat} {f : x_H} {t : Nat} {T : x_T} {post : Option Value → x_H → Prop} {n : Nat} {β : Nat → Nat}
theorem w_bioL (hT : x_t z f t T) (hn : T.2.2.2 0 = nI n) (hn9 : n ≤ 9) (hβ : T.2.1 = fun i => nI (β i)) (hβ5 : ∀ i, β i ≤ 127) (h : post (some (.long (lN (q_eb β 0 n)))) f) : ∀ (m : Nat), m ≤ n → X E (x_rm 3 0 0) mX3_beansInOne (x_QM E z 0 0 post) 9 [(3, .int (nI m + Int32.ofInt (-1))), (1, .long (lN (q_eb β m (n - m)))), (0, .ref t)] [] z f 0 0 := by
  intro m
  induction m with
  | zero =>
    intro hm
    refine x_iload_n (pc' := 10) rfl rfl rfl ?_
    refine x_if_lt (tgt := 31) (pc' := 13) rfl rfl rfl (fun _ => ?_) (fun c10 => absurd ((by decide)) c10)
    refine x_lload_n (pc' := 32) rfl rfl rfl ?_
    exact x_lreturn rfl rfl (Nat.le_of_ble_eq_true rfl) (Nat.le_of_ble_eq_true rfl) (h)
  | succ m ih =>
    intro hm
    have e1 : nI (m + 1) + Int32.ofInt (-1) = nI m := nI_m1 (Nat.succ_pos m)
    have hcl : (nI m).toNatClampNeg = m := nI_clamp (by omega)
    have h63 := q_eb_63 hβ5 (m := n - (m + 1)) (b := m + 1) (by omega)
    have h63' := q_eb_63 hβ5 (m := n - m) (b := m) (by omega)
    have hb := hβ5 m
    have ee : q_eb β m (n - m) = q_eb β (m + 1) (n - (m + 1)) * 128 + β m := by
      rw [show n - m = (n - (m + 1)) + 1 by omega, show q_eb β m ((n - (m + 1)) + 1) = β m + 128 * q_eb β (m + 1) (n - (m + 1)) from rfl]
      omega
    rw [e1]
    have ih' := ih (by omega)
    rw [ee] at ih' h63'
    refine x_iload_n (pc' := 10) rfl rfl rfl ?_
    refine x_if_lt (tgt := 31) (pc' := 13) rfl rfl rfl (fun c10 => absurd c10 ((nI_pos (by omega)))) (fun _ => ?_)
    refine x_lload_n (pc' := 14) rfl rfl rfl ?_
    refine x_bipush (pc' := 16) rfl rfl bipush_7 ?_
    refine x_lshl (pc' := 17) rfl rfl ?_
    refine x_eql (g_shl (k := 7) (p := 128) (by decide) (by decide) (by decide) (by omega)) ?_
    refine x_aload_n (pc' := 18) rfl rfl rfl ?_
    refine x_iload_n (pc' := 19) rfl rfl rfl ?_
    refine x_cV1i (d := 2) (pc' := 22) rfl rfl sX3_59 gX3_beansOf (hT.1) ⟨Nat.le_of_ble_eq_true rfl, Nat.le_of_ble_eq_true rfl⟩ (Nat.le_of_ble_eq_true rfl) ⟨Nat.le_of_ble_eq_true rfl, Nat.le_of_ble_eq_true rfl⟩ ?_
    refine w_beansOf hT (fun q => ⟨_, rfl, ?_⟩) (fun q => absurd (t_has_nI hn hn9 (by omega)) q)
    refine x_eqi (show T.2.1 (nI m).toNatClampNeg = nI (β m) from by rw [hcl, hβ]) ?_
    refine x_i2l (pc' := 23) rfl rfl ?_
    refine x_eql (nI_l (by omega)) ?_
    refine x_lor (pc' := 24) rfl rfl ?_
    refine x_eql (g_or (k := 7) (p := 128) (by decide) (by omega) (by omega)) ?_
    refine x_lstore_n (pc' := 25) (lv' := [(1, _), (3, _), (0, _)]) rfl rfl (Nat.le_of_ble_eq_true rfl) rfl ?_
    refine x_iinc (pc' := 28) (lv' := [(3, _), (1, _), (0, _)]) rfl rfl (Nat.le_of_ble_eq_true rfl) rfl (rfl) rfl ?_
    refine x_goto (tgt := 9) rfl rfl ?_
    exact ih'
theorem w_bio (hT : x_t z f t T) (hn : T.2.2.2 0 = nI n) (hn9 : n ≤ 9) (hβ : T.2.1 = fun i => nI (β i)) (hβ5 : ∀ i, β i ≤ 127) (h : post (some (.long (lN (q_eb β 0 n)))) f) : Y E 3 mX3_beansInOne [.ref t] z f 0 0 post := by
  refine Y.intro gX3_beansInOne (lv := [(0, .ref t)]) rfl (Nat.le_of_ble_eq_true rfl) ?_
  have hL := w_bioL (E := E) hT hn hn9 hβ hβ5 h n (Nat.le_refl n)
  rw [Nat.sub_self] at hL
  refine x_lconst (pc' := 1) rfl rfl lconst_0 ?_
  refine x_lstore_n (pc' := 2) (lv' := [(1, _), (0, _)]) rfl rfl (Nat.le_of_ble_eq_true rfl) rfl ?_
  refine x_aload_n (pc' := 3) rfl rfl rfl ?_
  refine x_get (pc' := 6) rfl rfl rfl (hT.1) rfl ?_
  refine x_eqi hn ?_
  refine x_iconst (pc' := 7) rfl rfl iconst_1 ?_
  refine x_isub (pc' := 8) rfl rfl ?_
  refine x_eqi (q_is1 _) ?_
  refine x_istore_n (pc' := 9) (lv' := [(3, _), (1, _), (0, _)]) rfl rfl (Nat.le_of_ble_eq_true rfl) rfl ?_
  exact hL
theorem w_lfL {x : Int64} (hn9 : n ≤ 9) (hβ5 : ∀ i, β i ≤ 127) (T0 : x_T) (hn : T0.2.2.2 0 = nI n) (f0 : x_H) (h : ∀ f' : x_H, x_t z f' t (T0.1, fun i => if i < n then nI (β i) else T0.2.1 i, T0.2.2.1, T0.2.2.2) → x_fr (x_ot t) f0 f' → post none f') : ∀ (m b : Nat) (f : x_H), b + m = n → x_t z f t (T0.1, fun i => if i < b then nI (β i) else T0.2.1 i, T0.2.2.1, T0.2.2.2) → x_fr (x_ot t) f0 f → X E (x_rm 3 0 0) mX3_layFrom (x_QM E z 0 0 post) 5 [(5, .int (nI b)), (3, .long (lN (q_eb β b m))), (0, .ref t), (1, .long x)] [] z f 0 0 := by
  intro m
  induction m with
  | zero =>
    intro b f hb hT hF
    have hb2 : b = n := by omega
    subst hb2
    refine x_iload (pc' := 7) rfl rfl rfl ?_
    refine x_aload_n (pc' := 8) rfl rfl rfl ?_
    refine x_get (pc' := 11) rfl rfl rfl (hT.1) rfl ?_
    refine x_eqi hn ?_
    refine x_icmp_ge (tgt := 37) (pc' := 14) rfl rfl rfl (fun _ => ?_) (fun c11 => absurd ((Int32.le_refl _)) c11)
    exact x_return rfl rfl (Nat.le_of_ble_eq_true rfl) (Nat.le_of_ble_eq_true rfl) (h f hT hF)
  | succ m ih =>
    intro b f hb hT hF
    have h63 := q_eb_63 hβ5 (m := m + 1) (b := b) (by omega)
    have e1 := q_eb_mod hβ5 b m
    have e2 := q_eb_div hβ5 b m
    have hcl : (nI b).toNatClampNeg = b := nI_clamp (by omega)
    refine x_iload (pc' := 7) rfl rfl rfl ?_
    refine x_aload_n (pc' := 8) rfl rfl rfl ?_
    refine x_get (pc' := 11) rfl rfl rfl (hT.1) rfl ?_
    refine x_eqi hn ?_
    refine x_icmp_ge (tgt := 37) (pc' := 14) rfl rfl rfl (fun c11 => absurd c11 ((nI_ge (by omega) (by omega)))) (fun _ => ?_)
    refine x_aload_n (pc' := 15) rfl rfl rfl ?_
    refine x_iload (pc' := 17) rfl rfl rfl ?_
    refine x_lload_n (pc' := 18) rfl rfl rfl ?_
    refine x_ldc2 (pc' := 21) rfl rfl rfl ?_
    refine x_land (pc' := 22) rfl rfl ?_
    refine x_eql (show lN (q_eb β b (m + 1)) &&& 127 = lN (β b) from (g_mask (s := 7) (p := 128) (by decide) (by decide) (by omega)).trans (congrArg lN e1)) ?_
    refine x_l2i (pc' := 23) rfl rfl ?_
    refine x_eqi (lN_i _) ?_
    refine x_cV2v (d := 2) (pc' := 26) rfl rfl sX3_63 gX3_lay (hT.1) ⟨Nat.le_of_ble_eq_true rfl, Nat.le_of_ble_eq_true rfl⟩ (Nat.le_of_ble_eq_true rfl) ⟨Nat.le_of_ble_eq_true rfl, Nat.le_of_ble_eq_true rfl⟩ ?_
    refine w_lay hT (fun q f1 hT1 hF1 => ⟨rfl, ?_⟩) (fun q => absurd (t_has_nI (T := (T0.1, fun i => if i < b then nI (β i) else T0.2.1 i, T0.2.2.1, T0.2.2.2)) hn hn9 (by omega)) q)
    refine x_lload_n (pc' := 27) rfl rfl rfl ?_
    refine x_bipush (pc' := 29) rfl rfl bipush_7 ?_
    refine x_lushr (pc' := 30) rfl rfl ?_
    refine x_eql ((g_ushr (k := 7) (p := 128) (by decide) (by decide) (by decide) (by omega)).trans (congrArg lN e2)) ?_
    refine x_lstore_n (pc' := 31) (lv' := [(3, _), (5, _), (0, _), (1, _)]) rfl rfl (Nat.le_of_ble_eq_true rfl) rfl ?_
    refine x_iinc (pc' := 34) (lv' := [(5, _), (3, _), (0, _), (1, _)]) rfl rfl (Nat.le_of_ble_eq_true rfl) rfl (nI_1 b) rfl ?_
    refine x_goto (tgt := 5) rfl rfl ?_
    refine ih (b + 1) f1 (by omega) ?_ (hF.trans hF1)
    have e9 : upd (fun i => if i < b then nI (β i) else T0.2.1 i) (nI b).toNatClampNeg (nI (β b)) = fun i => if i < b + 1 then nI (β i) else T0.2.1 i := by
      rw [hcl]
      funext i
      unfold upd
      by_cases d : i = b
      · rw [if_pos d, if_pos (by omega), d]
      · rw [if_neg d]
        show (if i < b then nI (β i) else T0.2.1 i) = if i < b + 1 then nI (β i) else T0.2.1 i
        by_cases d2 : i < b
        · rw [if_pos d2, if_pos (by omega)]
        · rw [if_neg d2, if_neg (by omega)]
    rw [← e9]
    exact hT1
theorem w_lf (hT : x_t z f t T) (hn : T.2.2.2 0 = nI n) (hn9 : n ≤ 9) (hβ5 : ∀ i, β i ≤ 127) (h : ∀ f' : x_H, x_t z f' t (T.1, fun i => if i < n then nI (β i) else T.2.1 i, T.2.2.1, T.2.2.2) → x_fr (x_ot t) f f' → post none f') : Y E 3 mX3_layFrom [.ref t, .long (lN (q_eb β 0 n))] z f 0 0 post := by
  refine Y.intro gX3_layFrom (lv := [(0, .ref t), (1, .long (lN (q_eb β 0 n)))]) rfl (Nat.le_of_ble_eq_true rfl) ?_
  have e0 : (fun i => if i < 0 then nI (β i) else T.2.1 i) = T.2.1 := by
    funext i
    rw [if_neg (Nat.not_lt_zero i)]
  refine x_lload_n (pc' := 1) rfl rfl rfl ?_
  refine x_lstore_n (pc' := 2) (lv' := [(3, _), (0, _), (1, _)]) rfl rfl (Nat.le_of_ble_eq_true rfl) rfl ?_
  refine x_iconst (pc' := 3) rfl rfl iconst_0 ?_
  refine x_istore (pc' := 5) (lv' := [(5, _), (3, _), (0, _), (1, _)]) rfl rfl (Nat.le_of_ble_eq_true rfl) rfl ?_
  exact w_lfL hn9 hβ5 T hn f h n 0 f (by omega) (by rw [e0]; exact hT) x_fr.rf
end EN
end
section
-- == 74.empty
/-! The class seeks the fewest moves that empty a bowl: what it keeps. -/
/-- rings, first moves, slots, how many, moves, first -/
abbrev q_K : Type := (Nat → Nat → Nat) × (Nat → Int32) × (Nat → Nat) × Nat × Int32 × Int32
theorem i64_cmp0 {x y : Int64} : lg_cmp x y = 0 ↔ x = y := by
  unfold lg_cmp
  by_cases h1 : x > y
  · rw [if_pos h1]
    exact ⟨fun h => absurd h (by decide), fun h => absurd (h ▸ h1) Int64.lt_irrefl⟩
  · rw [if_neg h1]
    by_cases h2 : x = y
    · rw [if_pos h2]
      exact ⟨fun _ => h2, fun _ => rfl⟩
    · rw [if_neg h2]
      exact ⟨fun h => absurd h (by decide), fun h => absurd h h2⟩
def q_sj (s : Int32) : Nat := (s &&& 16383).toNatClampNeg
def q_hs (x : Int64) : Int32 := ((x * (-7046029254386353131)).toUInt64 >>> ((50 : Int32).toInt64.toUInt64 &&& Int64.toUInt64 63)).toInt64.toInt32
def q_kp (n : Nat) (β : Nat → Nat) (fm : Int32) : Nat → Int32 → q_K → q_K
  | 0, _, K => K
  | k + 1, s, K => if K.2.2.2.1 < 7381 then (if K.2.2.1 (q_sj s) = 0 then (fun p => if p = K.2.2.2.1 then β else K.1 p, upd K.2.1 K.2.2.2.1 fm, q_up K.2.2.1 (q_sj s) (K.2.2.2.1 + 1), K.2.2.2.1 + 1, K.2.2.2.2) else if (∀ b, b < n → K.1 (K.2.2.1 (q_sj s) - 1) b = β b) then K else q_kp n β fm k (s + 1) K) else K
def e_ok (K : q_K) : Prop := K.2.2.2.1 ≤ 7381 ∧ (∀ p, p < K.2.2.2.1 → ∀ b, K.1 p b ≤ 99) ∧ (∀ j, K.2.2.1 j ≤ K.2.2.2.1)
theorem e_ok_kp {n : Nat} {β : Nat → Nat} {fm : Int32} (hβ : ∀ b, β b ≤ 99) : ∀ (k : Nat) (s : Int32) (K : q_K), e_ok K → e_ok (q_kp n β fm k s K) ∧ K.2.2.2.1 ≤ (q_kp n β fm k s K).2.2.2.1 ∧ (∀ p, p < K.2.2.2.1 → (q_kp n β fm k s K).1 p = K.1 p ∧ (q_kp n β fm k s K).2.1 p = K.2.1 p) ∧ (q_kp n β fm k s K).2.2.2.2 = K.2.2.2.2
  | 0, s, K, h => ⟨h, Nat.le_refl _, fun _ _ => ⟨rfl, rfl⟩, rfl⟩
  | k + 1, s, K, h => by
    unfold q_kp
    split
    · rename_i h1
      split
      · refine ⟨⟨h1, fun p hp b => ?_, fun j => ?_⟩, Nat.le_succ _, fun p hp => ⟨if_neg (by omega), pk_un (by omega)⟩, rfl⟩
        · show (if p = K.2.2.2.1 then β else K.1 p) b ≤ 99
          split
          · exact hβ b
          · have hp2 : p < K.2.2.2.1 + 1 := hp
            exact h.2.1 p (by omega) b
        · show q_up K.2.2.1 (q_sj s) (K.2.2.2.1 + 1) j ≤ K.2.2.2.1 + 1
          unfold q_up
          split
          · exact Nat.le_refl _
          · exact Nat.le_succ_of_le (h.2.2 j)
      · split
        · exact ⟨h, Nat.le_refl _, fun _ _ => ⟨rfl, rfl⟩, rfl⟩
        · exact e_ok_kp hβ k (s + 1) K h
    · exact ⟨h, Nat.le_refl _, fun _ _ => ⟨rfl, rfl⟩, rfl⟩
def e_is (S : x_S) (K : q_K) (n : Nat) : Prop := S.1 3 = nI K.2.2.2.1 ∧ S.1 4 = K.2.2.2.2.1 ∧ S.1 5 = K.2.2.2.2.2 ∧ (∀ p, p < K.2.2.2.1 → S.2.2.1 2 p = K.2.1 p) ∧ S.2.2.1 3 = (fun j => nI (K.2.2.1 j)) ∧ (∀ p, p < K.2.2.2.1 → S.2.2.2 0 p = lN (q_eb (K.1 p) 0 n))
/-- what stays while bowls are emptied in mind -/
def c_ek (S S' : x_S) : Prop := (∀ i, i ≤ 2 → S'.1 i = S.1 i) ∧ (∀ j, j ≠ 4 → j ≠ 5 → S'.2.1 j = S.2.1 j) ∧ (∀ j, j ≠ 2 → j ≠ 3 → S'.2.2.1 j = S.2.2.1 j) ∧ (∀ j, j ≠ 0 → S'.2.2.2 j = S.2.2.2 j)
theorem c_ek.rf {S : x_S} : c_ek S S := ⟨fun _ _ => rfl, fun _ _ _ => rfl, fun _ _ _ => rfl, fun _ _ => rfl⟩
theorem c_ek.trans {S S1 S2 : x_S} (h : c_ek S S1) (h2 : c_ek S1 S2) : c_ek S S2 := ⟨fun i hi => (h2.1 i hi).trans (h.1 i hi), fun j a b => (h2.2.1 j a b).trans (h.2.1 j a b), fun j a b => (h2.2.2.1 j a b).trans (h.2.2.1 j a b), fun j a => (h2.2.2.2 j a).trans (h.2.2.2 j a)⟩
theorem c_ek.sc {S S' : x_S} (h : c_ek S S') : c_sc S S' := ⟨h.2.1 0 (by decide) (by decide), h.2.1 1 (by decide) (by decide), h.1 0 (by decide), h.1 1 (by decide), h.1 2 (by decide), h.2.2.1 0 (by decide) (by decide), h.2.2.1 5 (by decide) (by decide), h.2.2.1 6 (by decide) (by decide)⟩
section EM
variable {E : x_E} {z : Nat} {f f' : x_H} {S S0 : x_S} {A : q_A} {post : Option Value → x_H → Prop} {g : q_G} {C n : Nat} {a b : Int32} {K : q_K}
theorem x_Sys.numE (h : x_Sys z f S) {k' k : Nat} {v : Int32} (e : f' = x_up f 42 (.inr (1, (x_eF S.1).set k' (.int v)))) (hk : (x_eF S.1).set k' (.int v) = x_eF (upd S.1 k v)) (h3 : 3 ≤ k) : x_Sys z f' (upd S.1 k v, S.2.1, S.2.2.1, S.2.2.2) := by
  rw [hk] at e
  obtain ⟨h1, g2, h3', h4, h5, h6, h7, h8, h9⟩ := h
  obtain ⟨p1, p2, p3⟩ := x_pos4 42 (Or.inr (Or.inr rfl))
  have e0 : upd S.1 k v 0 = S.1 0 := pk_un (by omega)
  have e1 : upd S.1 k v 1 = S.1 1 := pk_un (by omega)
  have e2 : upd S.1 k v 2 = S.1 2 := pk_un (by omega)
  refine ⟨?_, fun i hi => (g2 i hi).n e (p1 i hi), fun i hi => (h3' i hi).n e (p2 i hi), fun i hi => (h4 i hi).n e (p3 i hi), ?_, h6.n e (by decide), h7.n e (by decide), x_o.s e h8.1, h9.n e (by decide)⟩
  · have h9 : x_oF (upd S.1 k v) = x_oF S.1 := by
      unfold x_oF
      rw [e0, e1]
    show x_o z f' 0 5 (x_oF (upd S.1 k v))
    rw [h9]
    exact h1.n e (by decide)
  · show x_o z f' 17 2 [.ref 18, .int (upd S.1 k v 2)]
    rw [e2]
    exact h5.n e (by decide)
theorem q_sj_in (s : Int32) : vp_in (s &&& 16383) 16384 := pk_andIn s 14 (by decide) (by decide)
theorem q_sj_lt (s : Int32) : q_sj s < 16384 := by
  have h := q_sj_in s
  rw [vp_in_iff] at h
  unfold q_sj
  show (s &&& 16383).toInt.toNat < 16384
  omega
theorem c_kpL {β : Nat → Nat} {fm : Int32} (hn : n ≤ 9) (hβ : ∀ b, β b ≤ 99) (hS : x_Sys z f S) (hK : e_is S K n) (ho : e_ok K) (R : q_K) (h : ∀ (f' : x_H) (S' : x_S), x_Sys z f' S' → e_is S' R n → c_ek S S' → S'.2.1 = S.2.1 → x_fr (fun q => 59 ≤ q) f f' → post none f') : ∀ (k i : Nat) (s : Int32), i + k = 16384 → q_kp n β fm k s K = R → X E (x_rm 1 0 0) mX1_keep (x_QM E z 0 0 post) 14 [(5, .int (nI i)), (4, .int s), (0, .ref 42), (1, .long (lN (q_eb β 0 n))), (3, .int fm)] [] z f 0 0 := by
  obtain ⟨k1, k2, k3, k4, k5, k6⟩ := id hK
  obtain ⟨o1, o2, o3⟩ := id ho
  intro k
  induction k with
  | zero =>
    intro i s hi hR
    have hi2 : i = 16384 := by omega
    subst hi2
    have hR2 : K = R := hR
    subst hR2
    refine x_iload (pc' := 16) rfl rfl rfl ?_
    refine x_sipush (pc' := 19) rfl rfl sipush_16384 ?_
    refine x_icmp_ge (tgt := 128) (pc' := 22) rfl rfl rfl (fun _ => ?_) (fun c19 => absurd ((by decide : (16384 : Int32) ≤ nI 16384)) c19)
    exact x_return rfl rfl (Nat.le_of_ble_eq_true rfl) (Nat.le_of_ble_eq_true rfl) (h _ _ hS hK c_ek.rf rfl x_fr.rf)
  | succ k ih =>
    intro i s hi hR
    unfold q_kp at hR
    have hsl := o3 (q_sj s)
    have hsj := q_sj_in s
    have es : S.2.2.1 3 (s &&& 16383).toNatClampNeg = nI (K.2.2.1 (q_sj s)) := by rw [k5]; rfl
    refine x_iload (pc' := 16) rfl rfl rfl ?_
    refine x_sipush (pc' := 19) rfl rfl sipush_16384 ?_
    refine x_icmp_ge (tgt := 128) (pc' := 22) rfl rfl rfl (fun c19 => absurd c19 ((nI_ge (a := i) (b := 16384) (by omega) (by decide)))) (fun _ => ?_)
    refine x_aload_n (pc' := 23) rfl rfl rfl ?_
    refine x_get (pc' := 26) rfl rfl rfl (hS.em) rfl ?_
    refine x_eqi k1 ?_
    refine x_sipush (pc' := 29) rfl rfl sipush_7381 ?_
    by_cases d0 : K.2.2.2.1 < 7381
    · rw [if_pos d0] at hR
      refine x_icmp_ge (tgt := 128) (pc' := 32) rfl rfl rfl (fun q => absurd q (nI_ge (b := 7381) d0 (by decide))) (fun _ => ?_)
      refine x_aload_n (pc' := 33) rfl rfl rfl ?_
      refine x_get (pc' := 36) rfl rfl rfl (hS.em) rfl ?_
      refine x_iload (pc' := 38) rfl rfl rfl ?_
      refine x_sipush (pc' := 41) rfl rfl sipush_16383 ?_
      refine x_iand (pc' := 42) rfl rfl ?_
      refine x_iaload (pc' := 43) rfl rfl (hS.2.2.1 3 (by decide)) (hsj) ?_
      refine x_eqi es ?_
      refine x_iconst (pc' := 44) rfl rfl iconst_1 ?_
      by_cases d1 : K.2.2.1 (q_sj s) = 0
      · rw [if_pos d1] at hR
        subst hR
        refine x_isub (pc' := 45) rfl rfl ?_
        refine x_eqi (show nI (K.2.2.1 (q_sj s)) - 1 = -1 from by rw [d1]; decide) ?_
        refine x_istore (pc' := 47) (lv' := [(6, _), (5, _), (4, _), (0, _), (1, _), (3, _)]) rfl rfl (Nat.le_of_ble_eq_true rfl) rfl ?_
        refine x_iload (pc' := 49) rfl rfl rfl ?_
        refine x_if_lt (tgt := 60) (pc' := 52) rfl rfl rfl (fun _ => ?_) (fun c49 => absurd ((by decide)) c49)
        refine x_aload_n (pc' := 61) rfl rfl rfl ?_
        refine x_get (pc' := 64) rfl rfl rfl (hS.em) rfl ?_
        refine x_aload_n (pc' := 65) rfl rfl rfl ?_
        refine x_get (pc' := 68) rfl rfl rfl (hS.em) rfl ?_
        refine x_eqi k1 ?_
        refine x_lload_n (pc' := 69) rfl rfl rfl ?_
        refine x_lastore (pc' := 70) rfl rfl (hS.2.2.2.1 0 (by decide)) (vp_in_nI (n := K.2.2.2.1) (N := 7381) d0 (by decide)) (fun f1 e1 => ?_)
        have hS1 := hS.lng 0 (by decide) e1
        have hF1 : x_fr (fun q => 59 ≤ q) f f1 := (x_fr.rf (P := fun q => 59 ≤ q)).up e1 (by decide)
        refine x_aload_n (pc' := 71) rfl rfl rfl ?_
        refine x_get (pc' := 74) rfl rfl rfl (hS1.em) rfl ?_
        refine x_aload_n (pc' := 75) rfl rfl rfl ?_
        refine x_get (pc' := 78) rfl rfl rfl (hS1.em) rfl ?_
        refine x_eqi k1 ?_
        refine x_iload_n (pc' := 79) rfl rfl rfl ?_
        refine x_iastore (pc' := 80) rfl rfl (hS1.2.2.1 2 (by decide)) (vp_in_nI (n := K.2.2.2.1) (N := 7381) d0 (by decide)) (fun f2 e2 => ?_)
        have hS2 := hS1.arr 2 (by decide) e2
        have hF2 := hF1.up e2 (by decide)
        refine x_aload_n (pc' := 81) rfl rfl rfl ?_
        refine x_dup (pc' := 82) rfl rfl rfl ?_
        refine x_get (pc' := 85) rfl rfl rfl (hS2.em) rfl ?_
        refine x_eqi k1 ?_
        refine x_iconst (pc' := 86) rfl rfl iconst_1 ?_
        refine x_iadd (pc' := 87) rfl rfl ?_
        refine x_eqi (nI_1 _) ?_
        refine x_put (pc' := 90) rfl rfl rfl (hS2.em) (Nat.le_of_ble_eq_true rfl) rfl rfl rfl rfl (fun f3 e3 => ?_)
        have hS3 := hS2.numE e3 (x_eFs3 _ _) (Nat.le_refl 3)
        have hF3 := hF2.up e3 (by decide)
        refine x_aload_n (pc' := 91) rfl rfl rfl ?_
        refine x_get (pc' := 94) rfl rfl rfl (hS3.em) rfl ?_
        refine x_iload (pc' := 96) rfl rfl rfl ?_
        refine x_sipush (pc' := 99) rfl rfl sipush_16383 ?_
        refine x_iand (pc' := 100) rfl rfl ?_
        refine x_aload_n (pc' := 101) rfl rfl rfl ?_
        refine x_get (pc' := 104) rfl rfl rfl (hS3.em) rfl ?_
        refine x_eqi (show upd S.1 3 (nI (K.2.2.2.1 + 1)) 3 = nI (K.2.2.2.1 + 1) from rfl) ?_
        refine x_iastore (pc' := 105) rfl rfl (hS3.2.2.1 3 (by decide)) (hsj) (fun f4 e4 => ?_)
        have hS4 := hS3.arr 3 (by decide) e4
        have hF4 := hF3.up e4 (by decide)
        have hcl : (nI K.2.2.2.1).toNatClampNeg = K.2.2.2.1 := nI_clamp (by omega)
        refine x_return rfl rfl (Nat.le_of_ble_eq_true rfl) (Nat.le_of_ble_eq_true rfl) (h _ _ hS4 ⟨rfl, k2, k3, fun p hp => ?_, ?_, fun p hp => ?_⟩ ⟨fun i hi => pk_un (by omega), fun _ _ _ => rfl, fun j a b => (if_neg b).trans (if_neg a), fun j a => if_neg a⟩ rfl hF4)
        · show upd (S.2.2.1 2) (nI K.2.2.2.1).toNatClampNeg fm p = upd K.2.1 K.2.2.2.1 fm p
          have hp2 : p < K.2.2.2.1 + 1 := hp
          rw [hcl]
          unfold upd
          by_cases dp : p = K.2.2.2.1
          · rw [if_pos dp, if_pos dp]
          · rw [if_neg dp, if_neg dp]
            exact k4 p (by omega)
        · show upd (S.2.2.1 3) (q_sj s) (nI (K.2.2.2.1 + 1)) = _
          rw [k5]
          exact q_up_I _ _ _
        · show vp_updL (S.2.2.2 0) (nI K.2.2.2.1).toNatClampNeg (lN (q_eb β 0 n)) p = lN (q_eb (if p = K.2.2.2.1 then β else K.1 p) 0 n)
          have hp2 : p < K.2.2.2.1 + 1 := hp
          rw [hcl]
          unfold vp_updL
          by_cases dp : p = K.2.2.2.1
          · rw [if_pos dp, if_pos dp]
          · rw [if_neg dp, if_neg dp]
            exact k6 p (by omega)
      · rw [if_neg d1] at hR
        refine x_isub (pc' := 45) rfl rfl ?_
        refine x_eqi (show nI (K.2.2.1 (q_sj s)) - 1 = nI (K.2.2.1 (q_sj s) - 1) from pk_sub (b := 1) (by omega)) ?_
        refine x_istore (pc' := 47) (lv' := [(6, _), (5, _), (4, _), (0, _), (1, _), (3, _)]) rfl rfl (Nat.le_of_ble_eq_true rfl) rfl ?_
        refine x_iload (pc' := 49) rfl rfl rfl ?_
        refine x_if_lt (tgt := 60) (pc' := 52) rfl rfl rfl (fun c49 => absurd c49 ((nI_pos (by omega)))) (fun _ => ?_)
        refine x_iload (pc' := 54) rfl rfl rfl ?_
        refine x_sipush (pc' := 57) rfl rfl sipush_7381 ?_
        refine x_icmp_lt (tgt := 106) (pc' := 60) rfl rfl rfl (fun _ => ?_) (fun c57 => absurd ((nI_lt (b := 7381) (by omega) (by decide))) c57)
        refine x_aload_n (pc' := 107) rfl rfl rfl ?_
        refine x_get (pc' := 110) rfl rfl rfl (hS.em) rfl ?_
        refine x_iload (pc' := 112) rfl rfl rfl ?_
        refine x_laload (pc' := 113) rfl rfl (hS.2.2.2.1 0 (by decide)) (vp_in_nI (n := K.2.2.1 (q_sj s) - 1) (N := 7381) (by omega) (by decide)) ?_
        refine x_eql (show S.2.2.2 0 (nI (K.2.2.1 (q_sj s) - 1)).toNatClampNeg = lN (q_eb (K.1 (K.2.2.1 (q_sj s) - 1)) 0 n) from by rw [nI_clamp (by omega)]; exact k6 _ (by omega)) ?_
        refine x_lload_n (pc' := 114) rfl rfl rfl ?_
        refine x_lcmp (pc' := 115) rfl rfl ?_
        have hx := q_eb_63 (fun b => Nat.le_trans (o2 (K.2.2.1 (q_sj s) - 1) (by omega) b) (by decide)) (b := 0) hn
        have hy := q_eb_63 (fun b => Nat.le_trans (hβ b) (by decide)) (b := 0) hn
        have hxy := q_eb_eq (fun b => Nat.le_trans (o2 (K.2.2.1 (q_sj s) - 1) (by omega) b) (by decide)) (fun b => Nat.le_trans (hβ b) (by decide : 99 ≤ 127)) n 0
        by_cases d2 : ∀ b, b < n → K.1 (K.2.2.1 (q_sj s) - 1) b = β b
        · rw [if_pos d2] at hR
          subst hR
          have e2 : q_eb (K.1 (K.2.2.1 (q_sj s) - 1)) 0 n = q_eb β 0 n := hxy.mpr (fun b _ hb => d2 b (by omega))
          refine x_if_ne (tgt := 119) (pc' := 118) rfl rfl rfl (fun q => absurd ?_ q) (fun _ => ?_)
          · rw [e2]
            exact i64_cmp0.mpr rfl
          · exact x_return rfl rfl (Nat.le_of_ble_eq_true rfl) (Nat.le_of_ble_eq_true rfl) (h _ _ hS hK c_ek.rf rfl x_fr.rf)
        · rw [if_neg d2] at hR
          have e2 : ¬ q_eb (K.1 (K.2.2.1 (q_sj s) - 1)) 0 n = q_eb β 0 n := fun q => d2 (fun b hb => hxy.mp q b (Nat.zero_le b) (by omega))
          refine x_if_ne (tgt := 119) (pc' := 118) rfl rfl rfl (fun _ => ?_) (fun q => absurd ?_ e2)
          · refine x_iinc (pc' := 122) (lv' := [(4, _), (6, _), (5, _), (0, _), (1, _), (3, _)]) rfl rfl (Nat.le_of_ble_eq_true rfl) rfl (rfl) rfl ?_
            refine x_iinc (pc' := 125) (lv' := [(5, _), (4, _), (6, _), (0, _), (1, _), (3, _)]) rfl rfl (Nat.le_of_ble_eq_true rfl) rfl (nI_1 i) rfl ?_
            refine x_goto (tgt := 14) rfl rfl ?_
            refine x_lvp [0, 1, 3, 4, 5] rfl ?_
            exact ih (i + 1) (s + 1) (by omega) hR
          · exact (pk_lEQ hx hy).mp (i64_cmp0.mp q)
    · rw [if_neg d0] at hR
      subst hR
      refine x_icmp_ge (tgt := 128) (pc' := 32) rfl rfl rfl (fun _ => ?_) (fun q => absurd (nI_le (a := 7381) (by omega) (by omega)) q)
      exact x_return rfl rfl (Nat.le_of_ble_eq_true rfl) (Nat.le_of_ble_eq_true rfl) (h _ _ hS hK c_ek.rf rfl x_fr.rf)
theorem c_keep {β : Nat → Nat} {fm : Int32} (hn : n ≤ 9) (hβ : ∀ b, β b ≤ 99) (hS : x_Sys z f S) (hK : e_is S K n) (ho : e_ok K) (h : ∀ (f' : x_H) (S' : x_S), x_Sys z f' S' → e_is S' (q_kp n β fm 16384 (q_hs (lN (q_eb β 0 n))) K) n → c_ek S S' → S'.2.1 = S.2.1 → x_fr (fun q => 59 ≤ q) f f' → post none f') : Y E 1 mX1_keep [.ref 42, .long (lN (q_eb β 0 n)), .int fm] z f 0 0 post := by
  refine Y.intro gX1_keep (lv := [(0, .ref 42), (1, .long (lN (q_eb β 0 n))), (3, .int fm)]) rfl (Nat.le_of_ble_eq_true rfl) ?_
  refine x_lload_n (pc' := 1) rfl rfl rfl ?_
  refine x_ldc2 (pc' := 4) rfl rfl rfl ?_
  refine x_lmul (pc' := 5) rfl rfl ?_
  refine x_bipush (pc' := 7) rfl rfl bipush_50 ?_
  refine x_lushr (pc' := 8) rfl rfl ?_
  refine x_l2i (pc' := 9) rfl rfl ?_
  refine x_eqi (show _ = q_hs (lN (q_eb β 0 n)) from rfl) ?_
  refine x_istore (pc' := 11) (lv' := [(4, _), (0, _), (1, _), (3, _)]) rfl rfl (Nat.le_of_ble_eq_true rfl) rfl ?_
  refine x_iconst (pc' := 12) rfl rfl iconst_0 ?_
  refine x_istore (pc' := 14) (lv' := [(5, _), (4, _), (0, _), (1, _), (3, _)]) rfl rfl (Nat.le_of_ble_eq_true rfl) rfl ?_
  exact c_kpL hn hβ hS hK ho _ h 16384 0 _ (by decide) rfl
end EM
end
section
-- == 75.seekC
/-! The class seeks the fewest moves that empty a bowl. -/
def g_rg (g : q_G) (β : Nat → Nat) : q_G := (g_κ g, fun b => if b < g_n g then β b else g_β g b, g.2.2)
theorem g_rg_ok {g : q_G} {β : Nat → Nat} (h : g_ok 99 g) (hβ : ∀ b, β b ≤ 99) : g_ok 99 (g_rg g β) := by
  obtain ⟨a1, a2, a3, a4, a5, a6, a7, a8, a9⟩ := h
  refine ⟨a1, a2, a3, a4, a5, fun b => ?_, a7, fun i hi => ⟨(a8 i hi).1, ?_⟩, a9⟩
  · show (if b < g_n g then β b else g_β g b) ≤ 99
    split
    · exact hβ b
    · exact a6 b
  · show (if i < g_n g then β i else g_β g i) = 0
    rw [if_neg (by omega)]
    exact (a8 i hi).2
theorem g_rg_id (g : q_G) : g_rg g (g_β g) = g := by
  have e : (fun b => if b < g_n g then g_β g b else g_β g b) = g_β g := by
    funext b
    split <;> rfl
  unfold g_rg
  rw [e]
def q_g1 (w d i : Nat) (gi : q_G) (b : Nat) (K : q_K) : q_K := if g_can gi b then (if g_β (g_mv gi b) w = 0 then (K.1, K.2.1, K.2.2.1, K.2.2.2.1, nI d, if d = 1 then nI b else K.2.1 i) else if d < 5 then q_kp (g_n gi) (g_β (g_mv gi b)) (if d = 1 then nI b else K.2.1 i) 16384 (q_hs (lN (q_eb (g_β (g_mv gi b)) 0 (g_n gi)))) K else K) else K
def q_go (w d i : Nat) (gi : q_G) : Nat → Nat → q_K → q_K
  | 0, _, K => K
  | m + 1, b, K => if K.2.2.2.2.1 = -9 then q_go w d i gi m (b + 1) (q_g1 w d i gi b K) else K
def q_li (w d : Nat) (g : q_G) : Nat → Nat → q_K → q_K
  | 0, _, K => K
  | m + 1, i, K => if K.2.2.2.2.1 = -9 then q_li w d g m (i + 1) (q_go w d i (g_rg g (K.1 i)) (g_n g) 0 K) else K
def q_dp (w : Nat) (g : q_G) : Nat → Nat → Nat → q_K → q_K
  | 0, _, _, K => K
  | m + 1, d, l, K => if K.2.2.2.2.1 = -9 then q_dp w g m (d + 1) K.2.2.2.1 (q_li w d g (K.2.2.2.1 - l) l K) else K
def q_K1 (g : q_G) : q_K := q_kp (g_n g) (g_β g) (-9) 16384 (q_hs (lN (q_eb (g_β g) 0 (g_n g)))) (fun _ _ => 0, fun _ => 0, fun _ => 0, 0, -9, -9)
def q_sek (w : Nat) (g : q_G) : Int32 × Int32 := if g_β g w = 0 then (0, -9) else (q_dp w g 5 1 0 (q_K1 g)).2.2.2.2
theorem q_g1_ok {w d i b : Nat} {gi : q_G} {K : q_K} (hg : g_ok 99 gi) (h : e_ok K) : e_ok (q_g1 w d i gi b K) ∧ K.2.2.2.1 ≤ (q_g1 w d i gi b K).2.2.2.1 ∧ (∀ p, p < K.2.2.2.1 → (q_g1 w d i gi b K).1 p = K.1 p ∧ (q_g1 w d i gi b K).2.1 p = K.2.1 p) := by
  unfold q_g1
  split
  · rename_i hc
    split
    · exact ⟨h, Nat.le_refl _, fun _ _ => ⟨rfl, rfl⟩⟩
    · split
      · have h2 := e_ok_kp (n := g_n gi) (fm := if d = 1 then nI b else K.2.1 i) (fun j => (g_mv_ok hg (by decide) (by decide) hc.2.1).2.2.2.2.2.1 j) 16384 (q_hs (lN (q_eb (g_β (g_mv gi b)) 0 (g_n gi)))) K h
        exact ⟨h2.1, h2.2.1, h2.2.2.1⟩
      · exact ⟨h, Nat.le_refl _, fun _ _ => ⟨rfl, rfl⟩⟩
  · exact ⟨h, Nat.le_refl _, fun _ _ => ⟨rfl, rfl⟩⟩
theorem q_go_ok {w d i : Nat} {gi : q_G} (hg : g_ok 99 gi) : ∀ (m b : Nat) (K : q_K), e_ok K → e_ok (q_go w d i gi m b K) ∧ K.2.2.2.1 ≤ (q_go w d i gi m b K).2.2.2.1 ∧ (∀ p, p < K.2.2.2.1 → (q_go w d i gi m b K).1 p = K.1 p ∧ (q_go w d i gi m b K).2.1 p = K.2.1 p)
  | 0, _, K, h => ⟨h, Nat.le_refl _, fun _ _ => ⟨rfl, rfl⟩⟩
  | m + 1, b, K, h => by
    unfold q_go
    split
    · obtain ⟨h1, h2, h3⟩ := q_g1_ok (w := w) (d := d) (i := i) (b := b) hg h
      obtain ⟨k1, k2, k3⟩ := q_go_ok (w := w) (d := d) (i := i) hg m (b + 1) _ h1
      exact ⟨k1, Nat.le_trans h2 k2, fun p hp => ⟨(k3 p (by omega)).1.trans (h3 p hp).1, (k3 p (by omega)).2.trans (h3 p hp).2⟩⟩
    · exact ⟨h, Nat.le_refl _, fun _ _ => ⟨rfl, rfl⟩⟩
section SE
variable {E : x_E} {z : Nat} {f f' : x_H} {S S0 : x_S} {A : q_A} {post : Option Value → x_H → Prop} {g gi : q_G} {C n w d i : Nat} {a b : Int32} {K : q_K}
theorem x_Sys.arrf {j : Nat} {l : Nat → Int32} (h : x_Sys z f S) (hj : j < 7) (ha : x_a z f' (x_ap j) (x_an j, .inl l)) (hf : x_fr (fun q => q ≠ x_ap j) f f') : x_Sys z f' (S.1, S.2.1, x_ua S.2.2.1 j l, S.2.2.2) := by
  obtain ⟨h1, h2, h3, h4, h5, h6, h7, h8, h9⟩ := h
  obtain ⟨p1, p2, p3, p4, p5, p6, p7, p8, p9⟩ := x_pos1 j hj
  refine ⟨h1.fr hf p4, fun i hi => (h2 i hi).fr hf (fun a ha => ?_), fun i hi => ?_, fun i hi => (h4 i hi).fr hf (p3 i hi), h5.fr hf p5, h6.fr hf p6, h7.fr hf p7, h8.fr hf p8, h9.fr hf p9⟩
  · have := p1 i hi
    show _ ≠ _
    omega
  · by_cases hij : i = j
    · subst hij
      simp only [x_ua, if_pos]
      exact ha
    · simp only [x_ua, if_neg hij]
      exact (h3 i hi).fr hf (p2 i hi hij)
theorem w_fillIL {r n : Nat} {v : Int32} (hn : n < 2 ^ 31) (h : ∀ f' : x_H, x_a z f' r (n, .inl (fun _ => v)) → x_fr (fun q => q ≠ r) f f' → post none f') : ∀ (k i : Nat) (g : x_H) (a : Nat → Int32), i + k = n → x_a z g r (n, .inl a) → (∀ j, j < i → a j = v) → x_fr (fun q => q ≠ r) f g → X E (x_rm 1 0 0) mJ7_fill_53178 (x_QM E z 0 0 post) 5 [(2, .int (nI i)), (3, .int (nI n)), (0, .ref r), (1, .int v)] [] z g 0 0 := by
  intro k
  induction k with
  | zero =>
    intro i g a hi ha hv hF
    have hi2 : i = n := by omega
    subst hi2
    refine x_iload_n (pc' := 6) rfl rfl rfl ?_
    refine x_iload_n (pc' := 7) rfl rfl rfl ?_
    refine x_icmp_ge (tgt := 20) (pc' := 10) rfl rfl rfl (fun _ => ?_) (fun c7 => absurd ((Int32.le_refl _)) c7)
    refine x_eqA ha (g' := fun _ => v) hv (fun f1 e1 => ?_)
    exact x_return rfl rfl (Nat.le_refl _) (Nat.le_refl _) (h _ (x_a.s e1 ha.1) (hF.up e1 (fun q => q rfl)))
  | succ k ih =>
    intro i g a hi ha hv hF
    refine x_iload_n (pc' := 6) rfl rfl rfl ?_
    refine x_iload_n (pc' := 7) rfl rfl rfl ?_
    refine x_icmp_ge (tgt := 20) (pc' := 10) rfl rfl rfl (fun c7 => absurd c7 ((Int32.not_le.mpr (nI_lt (by omega) hn)))) (fun _ => ?_)
    refine x_aload_n (pc' := 11) rfl rfl rfl ?_
    refine x_iload_n (pc' := 12) rfl rfl rfl ?_
    refine x_iload_n (pc' := 13) rfl rfl rfl ?_
    refine x_iastore (pc' := 14) rfl rfl (ha) (vp_in_nI (by omega) hn) (fun f1 e1 => ?_)
    refine x_iinc (pc' := 17) (lv' := [(2, _), (3, _), (0, _), (1, _)]) rfl rfl (Nat.le_of_ble_eq_true rfl) rfl (nI_1 i) rfl ?_
    refine x_goto (tgt := 5) rfl rfl ?_
    refine ih (i + 1) _ _ (by omega) (x_a.s e1 ha.1) ?_ (hF.up e1 (fun q => q rfl))
    intro j hj
    rw [nI_clamp (by omega)]
    unfold upd
    by_cases hji : j = i
    · rw [if_pos hji]
    · rw [if_neg hji]
      exact hv j (by omega)
theorem w_fillI {r n : Nat} {v : Int32} {a : Nat → Int32} (hn : n < 2 ^ 31) (ha : x_a z f r (n, .inl a)) (h : ∀ f' : x_H, x_a z f' r (n, .inl (fun _ => v)) → x_fr (fun q => q ≠ r) f f' → post none f') : Y E 1 mJ7_fill_53178 [.ref r, .int v] z f 0 0 post := by
  refine Y.intro gJ7_fill_53178 (lv := [(0, .ref r), (1, .int v)]) rfl (Nat.le_of_ble_eq_true rfl) ?_
  refine x_iconst (pc' := 1) rfl rfl iconst_0 ?_
  refine x_istore_n (pc' := 2) (lv' := [(2, _), (0, _), (1, _)]) rfl rfl (Nat.le_of_ble_eq_true rfl) rfl ?_
  refine x_aload_n (pc' := 3) rfl rfl rfl ?_
  refine x_alen (pc' := 4) rfl rfl (ha) ?_
  refine x_istore_n (pc' := 5) (lv' := [(3, _), (2, _), (0, _), (1, _)]) rfl rfl (Nat.le_of_ble_eq_true rfl) rfl ?_
  refine x_lvp [1, 0, 2, 3] rfl ?_
  exact w_fillIL hn h n 0 _ a (by omega) ha (fun j hj => absurd hj (Nat.not_lt_zero j)) x_fr.rf
theorem c_goL (hw : w < g_n gi) (hd : d ≤ 5) (hg : g_ok 99 gi) (hi5 : i < 7381) (f0 : x_H) (S0 : x_S) (R : q_K) (h : ∀ (f' : x_H) (S' : x_S), x_Sys z f' S' → e_is S' R (g_n gi) → c_ek S0 S' → t_is (S'.2.1 4) gi → x_fr (fun q => 59 ≤ q) f0 f' → post none f') : ∀ (m b : Nat) (K : q_K) (f : x_H) (S : x_S), b + m = g_n gi → q_go w d i gi m b K = R → x_Sys z f S → e_is S K (g_n gi) → e_ok K → i < K.2.2.2.1 → c_ek S0 S → t_is (S.2.1 4) gi → x_fr (fun q => 59 ≤ q) f0 f → X E (x_rm 5 0 0) mX1_goOnFrom (x_QM E z 0 0 post) 28 [(4, .int (nI b)), (0, .ref 42), (1, .int (nI i)), (2, .int (nI w)), (3, .int (nI d))] [] z f 0 0 := by
  have hn9 := hg.1
  intro m
  induction m with
  | zero =>
    intro b K f S hb hR hS hK ho hi hc ht hF
    have hb2 : b = g_n gi := by omega
    subst hb2
    have hR2 : K = R := hR
    subst hR2
    refine x_iload (pc' := 30) rfl rfl rfl ?_
    refine x_aload_n (pc' := 31) rfl rfl rfl ?_
    refine x_get (pc' := 34) rfl rfl rfl (hS.em) rfl ?_
    refine x_get (pc' := 37) rfl rfl rfl ((hS.2.1 4 (by decide)).1) rfl ?_
    refine x_eqi ht.2.2.2.1 ?_
    refine x_icmp_ge (tgt := 148) (pc' := 40) rfl rfl rfl (fun _ => ?_) (fun c37 => absurd ((Int32.le_refl _)) c37)
    exact x_return rfl rfl (Nat.le_of_ble_eq_true rfl) (Nat.le_of_ble_eq_true rfl) (h _ _ hS hK hc ht hF)
  | succ m ih =>
    intro b K f S hb hR hS hK ho hi hc ht hF
    obtain ⟨k1, k2, k3, k4, k5, k6⟩ := id hK
    unfold q_go at hR
    have hT4 : x_t z f 46 (S.2.1 4) := hS.2.1 4 (by decide)
    have hT5 : x_t z f 50 (S.2.1 5) := hS.2.1 5 (by decide)
    refine x_iload (pc' := 30) rfl rfl rfl ?_
    refine x_aload_n (pc' := 31) rfl rfl rfl ?_
    refine x_get (pc' := 34) rfl rfl rfl (hS.em) rfl ?_
    refine x_get (pc' := 37) rfl rfl rfl (hT4.1) rfl ?_
    refine x_eqi ht.2.2.2.1 ?_
    refine x_icmp_ge (tgt := 148) (pc' := 40) rfl rfl rfl (fun c37 => absurd c37 ((nI_ge (by omega) (by omega)))) (fun _ => ?_)
    refine x_aload_n (pc' := 41) rfl rfl rfl ?_
    refine x_get (pc' := 44) rfl rfl rfl (hS.em) rfl ?_
    refine x_eqi k2 ?_
    refine x_bipush (pc' := 46) rfl rfl bipush_m9 ?_
    by_cases d0 : K.2.2.2.2.1 = -9
    · rw [if_pos d0] at hR
      refine x_icmp_ne (tgt := 148) (pc' := 49) rfl rfl rfl (fun q => absurd d0 q) (fun _ => ?_)
      obtain ⟨og1, og2, og3⟩ := q_g1_ok (w := w) (d := d) (i := i) (b := b) hg ho
      have h9 := fun f S a1 a2 a3 a4 a5 => ih (b + 1) _ f S (by omega) hR a1 a2 og1 (by omega) a3 a4 a5
      refine x_aload_n (pc' := 50) rfl rfl rfl ?_
      refine x_get (pc' := 53) rfl rfl rfl (hS.em) rfl ?_
      refine x_iload (pc' := 55) rfl rfl rfl ?_
      refine x_cV1i (d := 2) (pc' := 58) rfl rfl sX1_73 gX3_canMove (hT4.1) ⟨Nat.le_of_ble_eq_true rfl, Nat.le_of_ble_eq_true rfl⟩ (Nat.le_of_ble_eq_true rfl) ⟨Nat.le_of_ble_eq_true rfl, Nat.le_of_ble_eq_true rfl⟩ ?_
      refine w_can hT4 ht hg (by decide) (by omega) (fun d2 => ⟨_, rfl, ?_⟩) (fun d2 => ⟨_, rfl, ?_⟩)
      · refine x_if_eq (tgt := 142) (pc' := 61) rfl rfl rfl (fun c58 => absurd c58 ((by decide))) (fun _ => ?_)
        refine x_aload_n (pc' := 62) rfl rfl rfl ?_
        refine x_get (pc' := 65) rfl rfl rfl (hS.em) rfl ?_
        refine x_aload_n (pc' := 66) rfl rfl rfl ?_
        refine x_get (pc' := 69) rfl rfl rfl (hS.em) rfl ?_
        refine x_cV1v (d := 1) (pc' := 72) rfl rfl sX1_52 gX3_copyFrom (hT5.1) ⟨Nat.le_of_ble_eq_true rfl, Nat.le_of_ble_eq_true rfl⟩ (Nat.le_of_ble_eq_true rfl) ⟨Nat.le_of_ble_eq_true rfl, Nat.le_of_ble_eq_true rfl⟩ ?_
        refine w_copyFrom hT5 hT4 (by decide) (fun f1 hT1 hF1 => ⟨rfl, ?_⟩)
        have hS1 := hS.tab 5 (by decide) hT1 hF1
        have hF1' := hF.trans (c_fr0 (j := 5) (by decide) hF1)
        refine x_aload_n (pc' := 73) rfl rfl rfl ?_
        refine x_get (pc' := 76) rfl rfl rfl (hS1.em) rfl ?_
        refine x_iload (pc' := 78) rfl rfl rfl ?_
        refine x_cV1v (d := 4) (pc' := 81) rfl rfl sX1_77 gX3_makeMove (hT1.1) ⟨Nat.le_of_ble_eq_true rfl, Nat.le_of_ble_eq_true rfl⟩ (Nat.le_of_ble_eq_true rfl) ⟨Nat.le_of_ble_eq_true rfl, Nat.le_of_ble_eq_true rfl⟩ ?_
        refine w_move hT1 (x_cp_is ht) hg (by decide) d2.2.1 (fun f2 T2 hT2 g2 u4 u5 u6 u7 u8 hF2 => ⟨rfl, ?_⟩)
        have hS2 := hS1.tt (j := 5) (by decide) hT2 hF2
        have hF2' := hF1'.trans (c_fr0 (j := 5) (by decide) hF2)
        have ok2 := g_mv_ok hg (by decide) (by decide) d2.2.1
        have hc2 : c_ek S0 (S.1, x_ut S.2.1 5 T2, S.2.2.1, S.2.2.2) := hc.trans ⟨fun _ _ => rfl, fun j a b => if_neg b, fun _ _ _ => rfl, fun _ _ => rfl⟩
        have ht2 : t_is (x_ut S.2.1 5 T2 4) gi := ht
        refine x_iload_n (pc' := 82) rfl rfl rfl ?_
        refine x_iconst (pc' := 83) rfl rfl iconst_1 ?_
        have K142 : ∀ (f' : x_H) (S' : x_S) (fm : Int32), x_Sys z f' S' → e_is S' (q_g1 w d i gi b K) (g_n gi) → c_ek S0 S' → t_is (S'.2.1 4) gi → x_fr (fun q => 59 ≤ q) f0 f' → X E (x_rm 5 0 0) mX1_goOnFrom (x_QM E z 0 0 post) 142 [(5, .int fm), (4, .int (nI b)), (0, .ref 42), (1, .int (nI i)), (2, .int (nI w)), (3, .int (nI d))] [] z f' 0 0 := by
          intro f9 S9 fm a1 a2 a3 a4 a5
          refine x_iinc (pc' := 145) (lv' := [(4, _), (5, _), (0, _), (1, _), (2, _), (3, _)]) rfl rfl (Nat.le_of_ble_eq_true rfl) rfl (nI_1 b) rfl ?_
          refine x_goto (tgt := 28) rfl rfl ?_
          refine x_lvp [0, 2, 3, 4, 5] rfl ?_
          exact h9 f9 S9 a1 a2 a3 a4 a5
        have K99 : X E (x_rm 5 0 0) mX1_goOnFrom (x_QM E z 0 0 post) 99 [(5, .int (if d = 1 then nI b else K.2.1 i)), (4, .int (nI b)), (0, .ref 42), (1, .int (nI i)), (2, .int (nI w)), (3, .int (nI d))] [] z f2 0 0 := by
          refine x_aload_n (pc' := 100) rfl rfl rfl ?_
          refine x_get (pc' := 103) rfl rfl rfl (hS2.em) rfl ?_
          refine x_iload_n (pc' := 104) rfl rfl rfl ?_
          refine x_cV1i (d := 2) (pc' := 107) rfl rfl sX1_42 gX3_beansOf (hT2.1) ⟨Nat.le_of_ble_eq_true rfl, Nat.le_of_ble_eq_true rfl⟩ (Nat.le_of_ble_eq_true rfl) ⟨Nat.le_of_ble_eq_true rfl, Nat.le_of_ble_eq_true rfl⟩ ?_
          refine w_beansOf hT2 (fun q => ⟨_, rfl, ?_⟩) (fun q => absurd (t_has_nI (show T2.2.2.2 0 = nI (g_n gi) from g2.2.2.2.1) hn9 hw) q)
          refine x_eqi (show T2.2.1 (nI w).toNatClampNeg = nI (g_β (g_mv gi b) w) from by rw [nI_clamp (by omega), g2.2.1]) ?_
          have hβw := ok2.2.2.2.2.2.1 w
          by_cases d3 : g_β (g_mv gi b) w = 0
          · have e1 : q_g1 w d i gi b K = (K.1, K.2.1, K.2.2.1, K.2.2.2.1, nI d, if d = 1 then nI b else K.2.1 i) := (if_pos d2).trans (if_pos d3)
            rw [e1] at K142
            refine x_if_ne (tgt := 124) (pc' := 110) rfl rfl rfl (fun q => absurd (by rw [d3]; rfl) q) (fun _ => ?_)
            refine x_aload_n (pc' := 111) rfl rfl rfl ?_
            refine x_iload_n (pc' := 112) rfl rfl rfl ?_
            refine x_put (pc' := 115) rfl rfl rfl (hS2.em) (Nat.le_of_ble_eq_true rfl) rfl rfl rfl rfl (fun f1 e1 => ?_)
            have hS3 := hS2.numE e1 (x_eFs4 _ _) (by decide)
            have hF3 := hF2'.up e1 (by decide)
            refine x_aload_n (pc' := 116) rfl rfl rfl ?_
            refine x_iload (pc' := 118) rfl rfl rfl ?_
            refine x_put (pc' := 121) rfl rfl rfl (hS3.em) (Nat.le_of_ble_eq_true rfl) rfl rfl rfl rfl (fun f2 e2 => ?_)
            have hS4 := hS3.numE e2 (x_eFs5 _ _) (by decide)
            have hF4 := hF3.up e2 (by decide)
            refine x_goto (tgt := 142) rfl rfl ?_
            exact K142 _ _ _ hS4 ⟨k1, rfl, rfl, k4, k5, k6⟩ (hc2.trans ⟨fun i hi => (pk_un (by omega)).trans (pk_un (by omega)), fun _ _ _ => rfl, fun _ _ _ => rfl, fun _ _ => rfl⟩) ht2 hF4
          · refine x_if_ne (tgt := 124) (pc' := 110) rfl rfl rfl (fun _ => ?_) (fun q => absurd q (nI_ne0 (by omega) (by omega)))
            refine x_iload_n (pc' := 125) rfl rfl rfl ?_
            refine x_iconst (pc' := 126) rfl rfl iconst_5 ?_
            by_cases d4 : d < 5
            · have e1 : q_g1 w d i gi b K = q_kp (g_n gi) (g_β (g_mv gi b)) (if d = 1 then nI b else K.2.1 i) 16384 (q_hs (lN (q_eb (g_β (g_mv gi b)) 0 (g_n gi)))) K := (if_pos d2).trans ((if_neg d3).trans (if_pos d4))
              rw [e1] at K142
              refine x_icmp_ge (tgt := 142) (pc' := 129) rfl rfl rfl (fun q => absurd q (nI_ge (b := 5) d4 (by decide))) (fun _ => ?_)
              refine x_aload_n (pc' := 130) rfl rfl rfl ?_
              refine x_aload_n (pc' := 131) rfl rfl rfl ?_
              refine x_get (pc' := 134) rfl rfl rfl (hS2.em) rfl ?_
              refine x_cV0l (d := 3) (pc' := 137) rfl rfl sX1_56 gX3_beansInOne (hT2.1) ⟨Nat.le_of_ble_eq_true rfl, Nat.le_of_ble_eq_true rfl⟩ (Nat.le_of_ble_eq_true rfl) ⟨Nat.le_of_ble_eq_true rfl, Nat.le_of_ble_eq_true rfl⟩ ?_
              refine w_bio hT2 g2.2.2.2.1 hn9 g2.2.1 (fun j => Nat.le_trans (ok2.2.2.2.2.2.1 j) (by decide)) ⟨_, rfl, ?_⟩
              refine x_iload (pc' := 139) rfl rfl rfl ?_
              refine x_cV2v (d := 1) (pc' := 142) rfl rfl sX1_60 gX1_keep (hS2.em) ⟨Nat.le_of_ble_eq_true rfl, Nat.le_of_ble_eq_true rfl⟩ (Nat.le_of_ble_eq_true rfl) ⟨Nat.le_of_ble_eq_true rfl, Nat.le_of_ble_eq_true rfl⟩ ?_
              refine c_keep hn9 (fun j => ok2.2.2.2.2.2.1 j) hS2 (show e_is (S.1, x_ut S.2.1 5 T2, S.2.2.1, S.2.2.2) K (g_n gi) from hK) ho (fun f3 S3 hS3 hK3 hc3 hT3 hF3 => ⟨rfl, ?_⟩)
              exact K142 _ _ _ hS3 hK3 (hc2.trans hc3) (by rw [hT3]; exact ht2) (hF2'.trans hF3)
            · have e1 : q_g1 w d i gi b K = K := (if_pos d2).trans ((if_neg d3).trans (if_neg d4))
              rw [e1] at K142
              refine x_icmp_ge (tgt := 142) (pc' := 129) rfl rfl rfl (fun _ => ?_) (fun q => absurd (nI_le (a := 5) (by omega) (by omega)) q)
              exact K142 _ _ _ hS2 hK hc2 ht2 hF2'
        by_cases d1 : d = 1
        · rw [if_pos d1] at K99
          refine x_icmp_ne (tgt := 91) (pc' := 86) rfl rfl rfl (fun q => absurd (by rw [d1]; rfl) q) (fun _ => ?_)
          refine x_iload (pc' := 88) rfl rfl rfl ?_
          refine x_goto (tgt := 97) rfl rfl ?_
          refine x_istore (pc' := 99) (lv' := [(5, _), (4, _), (0, _), (1, _), (2, _), (3, _)]) rfl rfl (Nat.le_of_ble_eq_true rfl) rfl ?_
          exact K99
        · rw [if_neg d1] at K99
          refine x_icmp_ne (tgt := 91) (pc' := 86) rfl rfl rfl (fun _ => ?_) (fun q => absurd ((nI_eq (b := 1) (by omega) (by decide)).mp q) d1)
          refine x_aload_n (pc' := 92) rfl rfl rfl ?_
          refine x_get (pc' := 95) rfl rfl rfl (hS2.em) rfl ?_
          refine x_iload_n (pc' := 96) rfl rfl rfl ?_
          refine x_iaload (pc' := 97) rfl rfl (hS2.2.2.1 2 (by decide)) (vp_in_nI (n := i) (N := 7381) hi5 (by decide)) ?_
          refine x_eqi (show S.2.2.1 2 (nI i).toNatClampNeg = K.2.1 i from by rw [nI_clamp (by omega)]; exact k4 i hi) ?_
          refine x_istore (pc' := 99) (lv' := [(5, _), (4, _), (0, _), (1, _), (2, _), (3, _)]) rfl rfl (Nat.le_of_ble_eq_true rfl) rfl ?_
          exact K99
      · rw [show q_g1 w d i gi b K = K from if_neg d2] at h9
        refine x_if_eq (tgt := 142) (pc' := 61) rfl rfl rfl (fun _ => ?_) (fun c58 => absurd (rfl) c58)
        refine x_iinc (pc' := 145) (lv' := [(4, _), (0, _), (1, _), (2, _), (3, _)]) rfl rfl (Nat.le_of_ble_eq_true rfl) rfl (nI_1 b) rfl ?_
        refine x_goto (tgt := 28) rfl rfl ?_
        exact h9 f S hS hK hc ht hF
    · rw [if_neg d0] at hR
      subst hR
      refine x_icmp_ne (tgt := 148) (pc' := 49) rfl rfl rfl (fun _ => ?_) (fun q => absurd q d0)
      exact x_return rfl rfl (Nat.le_of_ble_eq_true rfl) (Nat.le_of_ble_eq_true rfl) (h _ _ hS hK hc ht hF)
theorem c_go (hw : w < g_n g) (hd : d ≤ 5) (hg : g_ok 99 g) (hS : x_Sys z f S) (hK : e_is S K (g_n g)) (ho : e_ok K) (hi : i < K.2.2.2.1) (γ : Nat → Nat) (ht : t_is (S.2.1 4) (g_rg g γ)) (h : ∀ (f' : x_H) (S' : x_S), x_Sys z f' S' → e_is S' (q_go w d i (g_rg g (K.1 i)) (g_n g) 0 K) (g_n g) → c_ek S S' → t_is (S'.2.1 4) (g_rg g (K.1 i)) → x_fr (fun q => 59 ≤ q) f f' → post none f') : Y E 5 mX1_goOnFrom [.ref 42, .int (nI i), .int (nI w), .int (nI d)] z f 0 0 post := by
  refine Y.intro gX1_goOnFrom (lv := [(0, .ref 42), (1, .int (nI i)), (2, .int (nI w)), (3, .int (nI d))]) rfl (Nat.le_of_ble_eq_true rfl) ?_
  obtain ⟨k1, k2, k3, k4, k5, k6⟩ := id hK
  obtain ⟨o1, o2, o3⟩ := id ho
  have hn9 := hg.1
  have hT4 : x_t z f 46 (S.2.1 4) := hS.2.1 4 (by decide)
  have hgi := g_rg_ok hg (o2 i hi)
  refine x_iload_n (pc' := 1) rfl rfl rfl ?_
  refine x_if_lt (tgt := 11) (pc' := 4) rfl rfl rfl (fun c1 => absurd c1 ((nI_pos (by omega)))) (fun _ => ?_)
  refine x_iload_n (pc' := 5) rfl rfl rfl ?_
  refine x_sipush (pc' := 8) rfl rfl sipush_7381 ?_
  refine x_icmp_lt (tgt := 12) (pc' := 11) rfl rfl rfl (fun _ => ?_) (fun c8 => absurd ((nI_lt (b := 7381) (by omega) (by decide))) c8)
  refine x_aload_n (pc' := 13) rfl rfl rfl ?_
  refine x_get (pc' := 16) rfl rfl rfl (hS.em) rfl ?_
  refine x_aload_n (pc' := 17) rfl rfl rfl ?_
  refine x_get (pc' := 20) rfl rfl rfl (hS.em) rfl ?_
  refine x_iload_n (pc' := 21) rfl rfl rfl ?_
  refine x_laload (pc' := 22) rfl rfl (hS.2.2.2.1 0 (by decide)) (vp_in_nI (n := i) (N := 7381) (by omega) (by decide)) ?_
  refine x_eql (show S.2.2.2 0 (nI i).toNatClampNeg = lN (q_eb (K.1 i) 0 (g_n g)) from by rw [nI_clamp (by omega)]; exact k6 i hi) ?_
  refine x_cV1v (d := 3) (pc' := 25) rfl rfl sX1_68 gX3_layFrom (hT4.1) ⟨Nat.le_of_ble_eq_true rfl, Nat.le_of_ble_eq_true rfl⟩ (Nat.le_of_ble_eq_true rfl) ⟨Nat.le_of_ble_eq_true rfl, Nat.le_of_ble_eq_true rfl⟩ ?_
  refine w_lf hT4 ht.2.2.2.1 hn9 (fun j => Nat.le_trans (o2 i hi j) (by decide)) (fun f1 hT1 hF1 => ⟨rfl, ?_⟩)
  have hS1 := hS.tab 4 (by decide) hT1 hF1
  have hF1' : x_fr (fun q => 59 ≤ q) f f1 := c_fr0 (j := 4) (by decide) hF1
  refine x_iconst (pc' := 26) rfl rfl iconst_0 ?_
  refine x_istore (pc' := 28) (lv' := [(4, _), (0, _), (1, _), (2, _), (3, _)]) rfl rfl (Nat.le_of_ble_eq_true rfl) rfl ?_
  refine c_goL (gi := g_rg g (K.1 i)) (i := i) hw hd hgi (by omega) f S _ h (g_n g) 0 K f1 _ (by show 0 + g_n g = g_n g; omega) rfl hS1 hK ho hi ⟨fun _ _ => rfl, fun j a b => if_neg a, fun _ _ _ => rfl, fun _ _ => rfl⟩ ⟨ht.1, ?_, ht.2.2⟩ hF1'
  show (fun b => if b < g_n g then nI (K.1 i b) else (S.2.1 4).2.1 b) = fun b => nI (if b < g_n g then K.1 i b else g_β g b)
  funext b
  by_cases db : b < g_n g
  · rw [if_pos db, if_pos db]
  · rw [if_neg db, if_neg db, ht.2.1]
    show nI (if b < g_n g then γ b else g_β g b) = nI (g_β g b)
    rw [if_neg db]
theorem c_skI {l : Nat} {v : Int32} (hw : w < g_n g) (hd : d ≤ 5) (hg : g_ok 99 g) (f0 : x_H) (S0 : x_S) (e : Nat) (R : q_K) (h : ∀ (f' : x_H) (S' : x_S) (v : Int32), x_Sys z f' S' → e_is S' R (g_n g) → e_ok R → e ≤ R.2.2.2.1 → c_ek S0 S' → (∃ γ, t_is (S'.2.1 4) (g_rg g γ)) → x_fr (fun q => 59 ≤ q) f0 f' → X E (x_rm 6 0 0) mX1_seek (x_QM E z 0 0 post) 126 [(6, .int v), (5, .int (nI e)), (4, .int (nI d)), (3, .int (nI l)), (0, .ref 42), (1, .ref 1), (2, .int (nI w))] [] z f' 0 0) : ∀ (m i : Nat) (K : q_K) (f : x_H) (S : x_S), i + m = e → q_li w d g m i K = R → x_Sys z f S → e_is S K (g_n g) → e_ok K → e ≤ K.2.2.2.1 → c_ek S0 S → (∃ γ, t_is (S.2.1 4) (g_rg g γ)) → x_fr (fun q => 59 ≤ q) f0 f → X E (x_rm 6 0 0) mX1_seek (x_QM E z 0 0 post) 95 [(6, .int (nI i)), (5, .int (nI e)), (4, .int (nI d)), (3, .int (nI l)), (0, .ref 42), (1, .ref 1), (2, .int (nI w))] [] z f 0 0 := by
  intro m
  induction m with
  | zero =>
    intro i K f S hi hR hS hK ho he hc ht hF
    have hi2 : i = e := by omega
    subst hi2
    have hR2 : K = R := hR
    subst hR2
    refine x_iload (pc' := 97) rfl rfl rfl ?_
    refine x_iload (pc' := 99) rfl rfl rfl ?_
    refine x_icmp_ge (tgt := 126) (pc' := 102) rfl rfl rfl (fun _ => ?_) (fun c99 => absurd ((Int32.le_refl _)) c99)
    exact h _ _ _ hS hK ho he hc ht hF
  | succ m ih =>
    intro i K f S hi hR hS hK ho he hc ht hF
    obtain ⟨k1, k2, k3, k4, k5, k6⟩ := id hK
    have o1 := ho.1
    unfold q_li at hR
    obtain ⟨γ, hγ⟩ := ht
    refine x_iload (pc' := 97) rfl rfl rfl ?_
    refine x_iload (pc' := 99) rfl rfl rfl ?_
    refine x_icmp_ge (tgt := 126) (pc' := 102) rfl rfl rfl (fun c99 => absurd c99 ((nI_ge (by omega) (by omega)))) (fun _ => ?_)
    refine x_aload_n (pc' := 103) rfl rfl rfl ?_
    refine x_get (pc' := 106) rfl rfl rfl (hS.em) rfl ?_
    refine x_eqi k2 ?_
    refine x_bipush (pc' := 108) rfl rfl bipush_m9 ?_
    by_cases d0 : K.2.2.2.2.1 = -9
    · rw [if_pos d0] at hR
      refine x_icmp_ne (tgt := 126) (pc' := 111) rfl rfl rfl (fun q => absurd d0 q) (fun _ => ?_)
      refine x_aload_n (pc' := 112) rfl rfl rfl ?_
      refine x_iload (pc' := 114) rfl rfl rfl ?_
      refine x_iload_n (pc' := 115) rfl rfl rfl ?_
      refine x_iload (pc' := 117) rfl rfl rfl ?_
      refine x_cV3v (d := 5) (pc' := 120) rfl rfl sX1_64 gX1_goOnFrom (hS.em) ⟨Nat.le_of_ble_eq_true rfl, Nat.le_of_ble_eq_true rfl⟩ (Nat.le_of_ble_eq_true rfl) ⟨Nat.le_of_ble_eq_true rfl, Nat.le_of_ble_eq_true rfl⟩ ?_
      refine c_go hw hd hg hS hK ho (by omega) γ hγ (fun f1 S1 hS1 hK1 hc1 ht1 hF1 => ⟨rfl, ?_⟩)
      obtain ⟨og1, og2, og3⟩ := q_go_ok (w := w) (d := d) (i := i) (g_rg_ok hg (ho.2.1 i (by omega))) (g_n g) 0 K ho
      refine x_iinc (pc' := 123) (lv' := [(6, _), (5, _), (4, _), (3, _), (0, _), (1, _), (2, _)]) rfl rfl (Nat.le_of_ble_eq_true rfl) rfl (nI_1 i) rfl ?_
      refine x_goto (tgt := 95) rfl rfl ?_
      exact ih (i + 1) _ f1 S1 (by omega) hR hS1 hK1 og1 (by omega) (hc.trans hc1) ⟨_, ht1⟩ (hF.trans hF1)
    · rw [if_neg d0] at hR
      subst hR
      refine x_icmp_ne (tgt := 126) (pc' := 111) rfl rfl rfl (fun _ => ?_) (fun q => absurd q d0)
      exact h _ _ _ hS hK ho he hc ⟨γ, hγ⟩ hF
theorem c_skD (hw : w < g_n g) (hg : g_ok 99 g) (f0 : x_H) (S0 : x_S) (R : q_K) (h : ∀ (f' : x_H) (S' : x_S), x_Sys z f' S' → e_is S' R (g_n g) → c_ek S0 S' → x_fr (fun q => 59 ≤ q) f0 f' → post none f') : ∀ (m d l : Nat) (K : q_K) (f : x_H) (S : x_S), d + m = 6 → q_dp w g m d l K = R → x_Sys z f S → e_is S K (g_n g) → e_ok K → l ≤ K.2.2.2.1 → c_ek S0 S → (∃ γ, t_is (S.2.1 4) (g_rg g γ)) → x_fr (fun q => 59 ≤ q) f0 f → X E (x_rm 6 0 0) mX1_seek (x_QM E z 0 0 post) 71 [(4, .int (nI d)), (3, .int (nI l)), (0, .ref 42), (1, .ref 1), (2, .int (nI w))] [] z f 0 0 := by
  intro m
  induction m with
  | zero =>
    intro d l K f S hd hR hS hK ho hl hc ht hF
    have hd2 : d = 6 := by omega
    subst hd2
    have hR2 : K = R := hR
    subst hR2
    refine x_iload (pc' := 73) rfl rfl rfl ?_
    refine x_iconst (pc' := 74) rfl rfl iconst_5 ?_
    refine x_icmp_gt (tgt := 135) (pc' := 77) rfl rfl rfl (fun _ => ?_) (fun c74 => absurd ((by decide : (5 : Int32) < nI 6)) c74)
    exact x_return rfl rfl (Nat.le_of_ble_eq_true rfl) (Nat.le_of_ble_eq_true rfl) (h _ _ hS hK hc hF)
  | succ m ih =>
    intro d l K f S hd hR hS hK ho hl hc ht hF
    obtain ⟨k1, k2, k3, k4, k5, k6⟩ := id hK
    have o1 := ho.1
    unfold q_dp at hR
    refine x_iload (pc' := 73) rfl rfl rfl ?_
    refine x_iconst (pc' := 74) rfl rfl iconst_5 ?_
    refine x_icmp_gt (tgt := 135) (pc' := 77) rfl rfl rfl (fun c74 => absurd c74 ((nI_nlt (a := 5) (b := d) (by omega) (by decide)))) (fun _ => ?_)
    refine x_aload_n (pc' := 78) rfl rfl rfl ?_
    refine x_get (pc' := 81) rfl rfl rfl (hS.em) rfl ?_
    refine x_eqi k2 ?_
    refine x_bipush (pc' := 83) rfl rfl bipush_m9 ?_
    by_cases d0 : K.2.2.2.2.1 = -9
    · rw [if_pos d0] at hR
      refine x_icmp_ne (tgt := 135) (pc' := 86) rfl rfl rfl (fun q => absurd d0 q) (fun _ => ?_)
      refine x_aload_n (pc' := 87) rfl rfl rfl ?_
      refine x_get (pc' := 90) rfl rfl rfl (hS.em) rfl ?_
      refine x_eqi k1 ?_
      refine x_istore (pc' := 92) (lv' := [(5, _), (4, _), (3, _), (0, _), (1, _), (2, _)]) rfl rfl (Nat.le_of_ble_eq_true rfl) rfl ?_
      refine x_iload_n (pc' := 93) rfl rfl rfl ?_
      refine x_istore (pc' := 95) (lv' := [(6, _), (5, _), (4, _), (3, _), (0, _), (1, _), (2, _)]) rfl rfl (Nat.le_of_ble_eq_true rfl) rfl ?_
      refine c_skI (l := l) (v := 0) (d := d) hw (by omega) hg f S K.2.2.2.1 _ (fun f1 S1 v1 hS1 hK1 ho1 he1 hc1 ht1 hF1 => ?_) (K.2.2.2.1 - l) l K f S (by omega) rfl hS hK ho (Nat.le_refl _) c_ek.rf ht x_fr.rf
      refine x_iload (pc' := 128) rfl rfl rfl ?_
      refine x_istore_n (pc' := 129) (lv' := [(3, _), (6, _), (5, _), (4, _), (0, _), (1, _), (2, _)]) rfl rfl (Nat.le_of_ble_eq_true rfl) rfl ?_
      refine x_iinc (pc' := 132) (lv' := [(4, _), (3, _), (6, _), (5, _), (0, _), (1, _), (2, _)]) rfl rfl (Nat.le_of_ble_eq_true rfl) rfl (nI_1 d) rfl ?_
      refine x_goto (tgt := 71) rfl rfl ?_
      refine x_lvp [0, 1, 4, 5, 6] rfl ?_
      exact ih (d + 1) K.2.2.2.1 _ f1 S1 (by omega) hR hS1 hK1 ho1 he1 (hc.trans hc1) ht1 (hF.trans hF1)
    · rw [if_neg d0] at hR
      subst hR
      refine x_icmp_ne (tgt := 135) (pc' := 86) rfl rfl rfl (fun _ => ?_) (fun q => absurd q d0)
      exact x_return rfl rfl (Nat.le_of_ble_eq_true rfl) (Nat.le_of_ble_eq_true rfl) (h _ _ hS hK hc hF)
theorem c_seek (hw : w < g_n g) (hg : g_ok 99 g) (hS : x_Sys z f S) (ht : t_is (S.2.1 0) g) (h : ∀ (f' : x_H) (S' : x_S), x_Sys z f' S' → S'.1 4 = (q_sek w g).1 → S'.1 5 = (q_sek w g).2 → c_ek S S' → x_fr (fun q => 59 ≤ q) f f' → post none f') : Y E 6 mX1_seek [.ref 42, .ref 1, .int (nI w)] z f 0 0 post := by
  refine Y.intro gX1_seek (lv := [(0, .ref 42), (1, .ref 1), (2, .int (nI w))]) rfl (Nat.le_of_ble_eq_true rfl) ?_
  have hn9 := hg.1
  have hβ := hg.2.2.2.2.2.1
  have hβw := hβ w
  have hcl : (nI w).toNatClampNeg = w := nI_clamp (by omega)
  have ew : (S.2.1 0).2.1 (nI w).toNatClampNeg = nI (g_β g w) := by rw [hcl, ht.2.1]
  unfold q_sek at h
  refine x_aload_n (pc' := 1) rfl rfl rfl ?_
  refine x_bipush (pc' := 3) rfl rfl bipush_m9 ?_
  refine x_put (pc' := 6) rfl rfl rfl (hS.em) (Nat.le_of_ble_eq_true rfl) rfl rfl rfl rfl (fun f1 e1 => ?_)
  have hS1 := hS.numE e1 (x_eFs5 _ _) (by decide)
  have hF1 : x_fr (fun q => 59 ≤ q) f f1 := (x_fr.rf (P := fun q => 59 ≤ q)).up e1 (by decide)
  have hT1 : x_t z f1 1 (S.2.1 0) := hS1.2.1 0 (by decide)
  refine x_aload_n (pc' := 7) rfl rfl rfl ?_
  refine x_aload_n (pc' := 8) rfl rfl rfl ?_
  refine x_iload_n (pc' := 9) rfl rfl rfl ?_
  refine x_cV1i (d := 2) (pc' := 12) rfl rfl sX1_42 gX3_beansOf (hT1.1) ⟨Nat.le_of_ble_eq_true rfl, Nat.le_of_ble_eq_true rfl⟩ (Nat.le_of_ble_eq_true rfl) ⟨Nat.le_of_ble_eq_true rfl, Nat.le_of_ble_eq_true rfl⟩ ?_
  refine w_beansOf hT1 (fun q => ⟨_, rfl, ?_⟩) (fun q => absurd (t_has_nI ht.2.2.2.1 hn9 hw) q)
  refine x_eqi ew ?_
  by_cases d0 : g_β g w = 0
  · rw [if_pos d0] at h
    refine x_if_ne (tgt := 19) (pc' := 15) rfl rfl rfl (fun q => absurd (by rw [d0]; rfl) q) (fun _ => ?_)
    refine x_iconst (pc' := 16) rfl rfl iconst_0 ?_
    refine x_goto (tgt := 21) rfl rfl ?_
    refine x_put (pc' := 24) rfl rfl rfl (hS1.em) (Nat.le_of_ble_eq_true rfl) rfl rfl rfl rfl (fun f2 e2 => ?_)
    have hS2 := hS1.numE e2 (x_eFs4 _ _) (by decide)
    have hF2 := hF1.up e2 (by decide)
    refine x_aload_n (pc' := 25) rfl rfl rfl ?_
    refine x_get (pc' := 28) rfl rfl rfl (hS2.em) rfl ?_
    refine x_eqi (show upd (upd S.1 5 (-9)) 4 0 4 = 0 from rfl) ?_
    refine x_if_ne (tgt := 32) (pc' := 31) rfl rfl rfl (fun c28 => absurd (rfl) c28) (fun _ => ?_)
    exact x_return rfl rfl (Nat.le_of_ble_eq_true rfl) (Nat.le_of_ble_eq_true rfl) (h _ _ hS2 rfl rfl ⟨fun i hi => (pk_un (by omega)).trans (pk_un (by omega)), fun _ _ _ => rfl, fun _ _ _ => rfl, fun _ _ => rfl⟩ hF2)
  · rw [if_neg d0] at h
    refine x_if_ne (tgt := 19) (pc' := 15) rfl rfl rfl (fun _ => ?_) (fun q => absurd q (nI_ne0 (by omega) (by omega)))
    refine x_bipush (pc' := 21) rfl rfl bipush_m9 ?_
    refine x_put (pc' := 24) rfl rfl rfl (hS1.em) (Nat.le_of_ble_eq_true rfl) rfl rfl rfl rfl (fun f3 e3 => ?_)
    have hS2 := hS1.numE e3 (x_eFs4 _ _) (by decide)
    have hF2 := hF1.up e3 (by decide)
    refine x_aload_n (pc' := 25) rfl rfl rfl ?_
    refine x_get (pc' := 28) rfl rfl rfl (hS2.em) rfl ?_
    refine x_eqi (show upd (upd S.1 5 (-9)) 4 (-9) 4 = -9 from rfl) ?_
    refine x_if_ne (tgt := 32) (pc' := 31) rfl rfl rfl (fun _ => ?_) (fun c28 => absurd c28 ((by decide)))
    refine x_aload_n (pc' := 33) rfl rfl rfl ?_
    refine x_iconst (pc' := 34) rfl rfl iconst_0 ?_
    refine x_put (pc' := 37) rfl rfl rfl (hS2.em) (Nat.le_of_ble_eq_true rfl) rfl rfl rfl rfl (fun f4 e4 => ?_)
    have hS3 := hS2.numE e4 (x_eFs3 _ _) (by decide)
    have hF3 := hF2.up e4 (by decide)
    refine x_aload_n (pc' := 38) rfl rfl rfl ?_
    refine x_get (pc' := 41) rfl rfl rfl (hS3.em) rfl ?_
    refine x_iconst (pc' := 42) rfl rfl iconst_0 ?_
    refine x_cS2v (d := 1) (pc' := 45) rfl rfl sX1_46 gJ7_fill_53178 ⟨Nat.le_of_ble_eq_true rfl, Nat.le_of_ble_eq_true rfl⟩ (Nat.le_of_ble_eq_true rfl) ⟨Nat.le_of_ble_eq_true rfl, Nat.le_of_ble_eq_true rfl⟩ ?_
    refine w_fillI (by decide) (hS3.2.2.1 3 (by decide)) (fun f4 ha4 hF4 => ⟨rfl, ?_⟩)
    have hS4 := hS3.arrf (j := 3) (by decide) ha4 hF4
    have hF4' := hF3.trans (hF4.mono (fun q hq => by have : 59 ≤ q := hq; show q ≠ 45; omega))
    have hT04 : x_t z f4 1 (S.2.1 0) := hS4.2.1 0 (by decide)
    have hT44 : x_t z f4 46 (S.2.1 4) := hS4.2.1 4 (by decide)
    refine x_aload_n (pc' := 46) rfl rfl rfl ?_
    refine x_get (pc' := 49) rfl rfl rfl (hS4.em) rfl ?_
    refine x_aload_n (pc' := 50) rfl rfl rfl ?_
    refine x_cV1v (d := 1) (pc' := 53) rfl rfl sX1_52 gX3_copyFrom (hT44.1) ⟨Nat.le_of_ble_eq_true rfl, Nat.le_of_ble_eq_true rfl⟩ (Nat.le_of_ble_eq_true rfl) ⟨Nat.le_of_ble_eq_true rfl, Nat.le_of_ble_eq_true rfl⟩ ?_
    refine w_copyFrom hT44 hT04 (by decide) (fun f5 hT5 hF5 => ⟨rfl, ?_⟩)
    have hS5 := hS4.tab 4 (by decide) hT5 hF5
    have hF5' := hF4'.trans (c_fr0 (j := 4) (by decide) hF5)
    have t5 := x_cp_is (T := S.2.1 4) ht
    refine x_aload_n (pc' := 54) rfl rfl rfl ?_
    refine x_aload_n (pc' := 55) rfl rfl rfl ?_
    refine x_get (pc' := 58) rfl rfl rfl (hS5.em) rfl ?_
    refine x_cV0l (d := 3) (pc' := 61) rfl rfl sX1_56 gX3_beansInOne (hT5.1) ⟨Nat.le_of_ble_eq_true rfl, Nat.le_of_ble_eq_true rfl⟩ (Nat.le_of_ble_eq_true rfl) ⟨Nat.le_of_ble_eq_true rfl, Nat.le_of_ble_eq_true rfl⟩ ?_
    refine w_bio hT5 t5.2.2.2.1 hn9 t5.2.1 (fun j => Nat.le_trans (hβ j) (by decide)) ⟨_, rfl, ?_⟩
    refine x_bipush (pc' := 63) rfl rfl bipush_m9 ?_
    refine x_cV2v (d := 1) (pc' := 66) rfl rfl sX1_60 gX1_keep (hS5.em) ⟨Nat.le_of_ble_eq_true rfl, Nat.le_of_ble_eq_true rfl⟩ (Nat.le_of_ble_eq_true rfl) ⟨Nat.le_of_ble_eq_true rfl, Nat.le_of_ble_eq_true rfl⟩ ?_
    refine c_keep (K := (fun _ _ => 0, fun _ => 0, fun _ => 0, 0, -9, -9)) hn9 hβ hS5 ⟨rfl, rfl, rfl, fun p hp => absurd hp (Nat.not_lt_zero p), rfl, fun p hp => absurd hp (Nat.not_lt_zero p)⟩ ⟨Nat.zero_le _, fun p hp => absurd hp (Nat.not_lt_zero p), fun _ => Nat.le_refl _⟩ (fun f6 S6 hS6 hK6 hc6 hT6 hF6 => ⟨rfl, ?_⟩)
    refine x_iconst (pc' := 67) rfl rfl iconst_0 ?_
    refine x_istore_n (pc' := 68) (lv' := [(3, _), (0, _), (1, _), (2, _)]) rfl rfl (Nat.le_of_ble_eq_true rfl) rfl ?_
    refine x_iconst (pc' := 69) rfl rfl iconst_1 ?_
    refine x_istore (pc' := 71) (lv' := [(4, _), (3, _), (0, _), (1, _), (2, _)]) rfl rfl (Nat.le_of_ble_eq_true rfl) rfl ?_
    have hok6 := e_ok_kp (n := g_n g) (fm := -9) hβ 16384 (q_hs (lN (q_eb (g_β g) 0 (g_n g)))) (fun _ _ => 0, fun _ => 0, fun _ => 0, 0, -9, -9) ⟨Nat.zero_le _, fun p hp => absurd hp (Nat.not_lt_zero p), fun _ => Nat.le_refl _⟩
    have hc06 : c_ek S S6 := (show c_ek S (upd (upd (upd S.1 5 (-9)) 4 (-9)) 3 0, x_ut S.2.1 4 (x_cp (S.2.1 4) (S.2.1 0)), x_ua S.2.2.1 3 (fun _ => 0), S.2.2.2) from ⟨fun i hi => (pk_un (by omega)).trans ((pk_un (by omega)).trans (pk_un (by omega))), fun j a b => if_neg a, fun j a b => if_neg b, fun _ _ => rfl⟩).trans hc6
    exact c_skD hw hg f S (q_dp w g 5 1 0 (q_K1 g)) (fun f' S' b1 b2 b3 b4 => h f' S' b1 b2.2.1 b2.2.2.1 b3 b4) 5 1 0 (q_K1 g) f6 S6 (by decide) rfl hS6 hK6 hok6.1 (Nat.zero_le _) hc06 ⟨g_β g, by rw [g_rg_id, hT6]; exact t5⟩ (hF5'.trans hF6)
def s_teC (A : q_A) (a b : Int32) : q_A × Int32 := if q_in (g_n (a_g A)) a then (if b < 0 ∨ 1 < b then (s_no A 2, -2) else (A, if b = 0 then (q_sek a.toNatClampNeg (a_g A)).1 else (q_sek a.toNatClampNeg (a_g A)).2)) else (s_no A 1, -1)
theorem c_toEmpty (hS : x_Sys z f S) (hA : c_is S A) (ho : a_ok A) (h : c_ends z f post (s_teC A a b)) : Y E 9 mX5_toEmpty [.ref 0, .int a, .int b] z f 0 0 post := by
  refine Y.intro gX5_toEmpty (lv := [(0, .ref 0), (1, .int a), (2, .int b)]) rfl (Nat.le_of_ble_eq_true rfl) ?_
  refine x_aload_n (pc' := 1) rfl rfl rfl ?_
  refine x_get (pc' := 4) rfl rfl rfl (hS.1) rfl ?_
  refine x_iload_n (pc' := 5) rfl rfl rfl ?_
  refine x_cV1i (d := 1) (pc' := 8) rfl rfl sX5_90 gX3_has ((hS.2.1 0 (by decide)).1) ⟨Nat.le_of_ble_eq_true rfl, Nat.le_of_ble_eq_true rfl⟩ (Nat.le_of_ble_eq_true rfl) ⟨Nat.le_of_ble_eq_true rfl, Nat.le_of_ble_eq_true rfl⟩ ?_
  refine c_has hS hA ho (fun d1 => ⟨_, rfl, ?_⟩) (fun d1 => ⟨_, rfl, ?_⟩)
  · rw [show s_teC A a b = _ from if_pos d1] at h
    refine x_if_ne (tgt := 17) (pc' := 11) rfl rfl rfl (fun _ => ?_) (fun c8 => absurd c8 ((by decide)))
    refine x_iload_n (pc' := 18) rfl rfl rfl ?_
    by_cases d2 : b < 0 ∨ 1 < b
    · rw [if_pos d2] at h
      rcases d2 with d2 | d2
      · refine x_if_lt (tgt := 26) (pc' := 21) rfl rfl rfl (fun _ => ?_) (fun q => absurd d2 q)
        refine x_aload_n (pc' := 27) rfl rfl rfl ?_
        refine x_bipush (pc' := 29) rfl rfl bipush_m2 ?_
        refine x_cV1i (d := 1) (pc' := 32) rfl rfl sX5_68 gX5_refuse (hS.1) ⟨Nat.le_of_ble_eq_true rfl, Nat.le_of_ble_eq_true rfl⟩ (Nat.le_of_ble_eq_true rfl) ⟨Nat.le_of_ble_eq_true rfl, Nat.le_of_ble_eq_true rfl⟩ ?_
        refine c_refuse (k := 2) (by decide) (by decide) hS hA (fun f1 S1 hS1 hA1 hF1 => ⟨_, rfl, ?_⟩)
        exact x_ireturn rfl rfl rfl (Nat.le_of_ble_eq_true rfl) (Nat.le_of_ble_eq_true rfl) (h _ _ hS1 hA1 hF1)
      · refine x_if_lt (tgt := 26) (pc' := 21) rfl rfl rfl (fun _ => ?_) (fun _ => ?_)
        · refine x_aload_n (pc' := 27) rfl rfl rfl ?_
          refine x_bipush (pc' := 29) rfl rfl bipush_m2 ?_
          refine x_cV1i (d := 1) (pc' := 32) rfl rfl sX5_68 gX5_refuse (hS.1) ⟨Nat.le_of_ble_eq_true rfl, Nat.le_of_ble_eq_true rfl⟩ (Nat.le_of_ble_eq_true rfl) ⟨Nat.le_of_ble_eq_true rfl, Nat.le_of_ble_eq_true rfl⟩ ?_
          refine c_refuse (k := 2) (by decide) (by decide) hS hA (fun f1 S1 hS1 hA1 hF1 => ⟨_, rfl, ?_⟩)
          exact x_ireturn rfl rfl rfl (Nat.le_of_ble_eq_true rfl) (Nat.le_of_ble_eq_true rfl) (h _ _ hS1 hA1 hF1)
        · refine x_iload_n (pc' := 22) rfl rfl rfl ?_
          refine x_iconst (pc' := 23) rfl rfl iconst_1 ?_
          refine x_icmp_le (tgt := 33) (pc' := 26) rfl rfl rfl (fun c23 => absurd c23 ((Int32.not_le.mpr d2))) (fun _ => ?_)
          refine x_aload_n (pc' := 27) rfl rfl rfl ?_
          refine x_bipush (pc' := 29) rfl rfl bipush_m2 ?_
          refine x_cV1i (d := 1) (pc' := 32) rfl rfl sX5_68 gX5_refuse (hS.1) ⟨Nat.le_of_ble_eq_true rfl, Nat.le_of_ble_eq_true rfl⟩ (Nat.le_of_ble_eq_true rfl) ⟨Nat.le_of_ble_eq_true rfl, Nat.le_of_ble_eq_true rfl⟩ ?_
          refine c_refuse (k := 2) (by decide) (by decide) hS hA (fun f1 S1 hS1 hA1 hF1 => ⟨_, rfl, ?_⟩)
          exact x_ireturn rfl rfl rfl (Nat.le_of_ble_eq_true rfl) (Nat.le_of_ble_eq_true rfl) (h _ _ hS1 hA1 hF1)
    · rw [if_neg d2] at h
      refine x_if_lt (tgt := 26) (pc' := 21) rfl rfl rfl (fun q => absurd (Or.inl q) d2) (fun _ => ?_)
      obtain ⟨k, hk, hk2, rfl, hcl⟩ := q_in_k d1
      rw [hcl] at h
      refine x_iload_n (pc' := 22) rfl rfl rfl ?_
      refine x_iconst (pc' := 23) rfl rfl iconst_1 ?_
      refine x_icmp_le (tgt := 33) (pc' := 26) rfl rfl rfl (fun _ => ?_) (fun c23 => absurd ((Int32.not_lt.mp (fun q => d2 (Or.inr q)))) c23)
      refine x_aload_n (pc' := 34) rfl rfl rfl ?_
      refine x_get (pc' := 37) rfl rfl rfl (hS.1) rfl ?_
      refine x_aload_n (pc' := 38) rfl rfl rfl ?_
      refine x_get (pc' := 41) rfl rfl rfl (hS.1) rfl ?_
      refine x_iload_n (pc' := 42) rfl rfl rfl ?_
      refine x_cV2v (d := 6) (pc' := 45) rfl rfl sX5_169 gX1_seek (hS.em) ⟨Nat.le_of_ble_eq_true rfl, Nat.le_of_ble_eq_true rfl⟩ (Nat.le_of_ble_eq_true rfl) ⟨Nat.le_of_ble_eq_true rfl, Nat.le_of_ble_eq_true rfl⟩ ?_
      refine c_seek hk ho.1 hS hA.1 (fun f1 S1 hS1 e4 e5 hc1 hF1 => ⟨rfl, ?_⟩)
      refine x_iload_n (pc' := 46) rfl rfl rfl ?_
      refine x_if_ne (tgt := 59) (pc' := 49) rfl rfl rfl (fun c46 => ?_) (fun c46 => ?_)
      · rw [if_neg c46] at h
        refine x_aload_n (pc' := 60) rfl rfl rfl ?_
        refine x_get (pc' := 63) rfl rfl rfl (hS1.1) rfl ?_
        refine x_get (pc' := 66) rfl rfl rfl (hS1.em) rfl ?_
        refine x_eqi e5 ?_
        exact x_ireturn rfl rfl rfl (Nat.le_of_ble_eq_true rfl) (Nat.le_of_ble_eq_true rfl) (h _ _ hS1 (hA.sc hc1.sc) hF1)
      · rw [if_pos c46] at h
        refine x_aload_n (pc' := 50) rfl rfl rfl ?_
        refine x_get (pc' := 53) rfl rfl rfl (hS1.1) rfl ?_
        refine x_get (pc' := 56) rfl rfl rfl (hS1.em) rfl ?_
        refine x_eqi e4 ?_
        refine x_goto (tgt := 66) rfl rfl ?_
        exact x_ireturn rfl rfl rfl (Nat.le_of_ble_eq_true rfl) (Nat.le_of_ble_eq_true rfl) (h _ _ hS1 (hA.sc hc1.sc) hF1)
  · rw [show s_teC A a b = _ from if_neg d1] at h
    refine x_if_ne (tgt := 17) (pc' := 11) rfl rfl rfl (fun c8 => absurd (rfl) c8) (fun _ => ?_)
    refine x_aload_n (pc' := 12) rfl rfl rfl ?_
    refine x_iconst (pc' := 13) rfl rfl iconst_m1 ?_
    refine x_cV1i (d := 1) (pc' := 16) rfl rfl sX5_68 gX5_refuse (hS.1) ⟨Nat.le_of_ble_eq_true rfl, Nat.le_of_ble_eq_true rfl⟩ (Nat.le_of_ble_eq_true rfl) ⟨Nat.le_of_ble_eq_true rfl, Nat.le_of_ble_eq_true rfl⟩ ?_
    refine c_refuse (k := 1) (by decide) (by decide) hS hA (fun f1 S1 hS1 hA1 hF1 => ⟨_, rfl, ?_⟩)
    exact x_ireturn rfl rfl rfl (Nat.le_of_ble_eq_true rfl) (Nat.le_of_ble_eq_true rfl) (h _ _ hS1 hA1 hF1)
end SE
end
section
-- == 80.oks
/-! What calls leave is a state again; both sides leave the same. -/
theorem q_rn_ok {L : Nat} {ℓ : Nat → Nat} : ∀ (k s : Nat) (G G' : q_G × Nat), q_fa (q_t L ℓ) L k s = none → g_ok 99 G.1 → G.2 ≤ 999 → q_rn (q_t L ℓ) L k s G = .inr G' → g_ok 99 G'.1 ∧ G'.2 ≤ 999
  | 0, s, G, G', _, h, hm, e => by
    have e2 := Sum.inr.inj e
    subst e2
    exact ⟨h, hm⟩
  | k + 1, s, G, G', hf, h, hm, e => by
    by_cases hs : s < L
    · obtain ⟨hsk, hf2⟩ := q_fa_go hs hf
      unfold q_rn at e
      rw [if_pos hs] at e
      split at e
      · cases e
      · rename_i G1 h1
        obtain ⟨o1, o2⟩ := q_do_ok hsk h hm h1
        exact q_rn_ok k _ G1 G' hf2 o1 o2 e
    · rw [q_rn_end hs] at e
      have e2 := Sum.inr.inj e
      subst e2
      exact ⟨h, hm⟩
section OKS
variable {A : q_A} {a b : Int32}
theorem ok_letter (h : a_ok A) : a_ok (s_letter A a).1 := by
  unfold s_letter
  split
  · exact h
  · rename_i h0
    split
    · exact h
    · rename_i h1
      obtain ⟨n, hn, rfl⟩ := nI_of2 (n := 255) (M := 255) rfl h0 (Int32.not_lt.mp (fun q => h1 (Or.inl q)))
      have h2 : ¬ a_lc A = 96 := fun q => h1 (Or.inr q)
      have h3 := h.2.2.2.1
      refine ⟨h.1, h.2.1, h.2.2.1, ?_, q_up_le h.2.2.2.2.1 ?_, h.2.2.2.2.2⟩
      · show a_lc A + 1 ≤ 96
        omega
      · rw [nI_clamp (by omega)]
        exact hn
theorem ok_row (h : a_ok A) : a_ok (s_row A a).1 := by
  unfold s_row
  split
  · exact h
  · rename_i h0
    split
    · exact h
    · rename_i h1
      obtain ⟨n, hn, rfl⟩ := nI_of2 (n := 9) (M := 9) rfl h0 (Int32.not_lt.mp (fun q => h1 (Or.inl q)))
      have h2 : ¬ a_rc A = 12 := fun q => h1 (Or.inr q)
      have h3 := h.2.2.2.2.2.1
      refine ⟨h.1, h.2.1, h.2.2.1, h.2.2.2.1, h.2.2.2.2.1, ?_, q_up_le h.2.2.2.2.2.2 ?_⟩
      · show a_rc A + 1 ≤ 12
        omega
      · rw [nI_clamp (by omega)]
        exact hn
theorem ok_put (h : a_ok A) : a_ok (s_put A a b).1 := by
  unfold s_put
  split
  · rename_i h0
    split
    · exact h
    · rename_i h1
      split
      · exact h
      · rename_i h2
        obtain ⟨n, hn, rfl⟩ := nI_of2 (n := 20) (M := 20) rfl h1 (Int32.not_lt.mp h2)
        refine s_g_ok h (g_bm_ok h.1 h0.2 (Nat.le_refl 99) ?_)
        rw [nI_clamp (by omega)]
        omega
  · exact h
theorem ok_set (h : a_ok A) : a_ok (s_set A a b).1 := by
  unfold s_set
  by_cases e0 : a < 0 ∨ 2 < a
  · rw [if_pos e0]
    exact h
  · rw [if_neg e0]
    by_cases h1 : b < (if a = 0 then 1 else 0)
    · rw [if_pos h1]
      exact h
    · rw [if_neg h1]
      by_cases h2 : (if a = 0 then 9 else 1) < b
      · rw [if_pos h2]
        exact h
      · rw [if_neg h2]
        obtain ⟨a1, a2, a3, a4, a5⟩ := h.1
        refine s_g_ok h ?_
        unfold g_set
        by_cases d0 : a = 0
        · rw [if_pos d0]
          rw [if_pos d0] at h1 h2
          obtain ⟨n, hn, rfl⟩ := nI_of2 (n := 9) (M := 9) rfl (fun q => h1 (Int32.lt_trans q (by decide))) (Int32.not_lt.mp h2)
          have hn1 : 1 ≤ n := Nat.pos_of_ne_zero (fun q => h1 (by rw [q]; decide))
          rw [nI_clamp (by omega)]
          exact ⟨a1, ⟨hn1, hn⟩, a3, a4, a5⟩
        · rw [if_neg d0]
          rw [if_neg d0] at h1 h2
          obtain ⟨n, hn, rfl⟩ := nI_of2 (n := 1) (M := 1) rfl h1 (Int32.not_lt.mp h2)
          rw [nI_clamp (by omega)]
          split
          · exact ⟨a1, a2, hn, a4, a5⟩
          · exact ⟨a1, a2, a3, hn, a5⟩
theorem ok_move (h : a_ok A) : a_ok (s_move A a).1 := by
  unfold s_move
  split
  · rename_i h0
    split
    · split
      · exact h
      · rename_i h2
        refine ⟨g_mv_ok h.1 (by decide) (by decide) h0.2, ?_, h.2.2⟩
        have h3 := h.2.1
        show a_mv A + 1 ≤ 999
        omega
    · exact h
  · exact h
theorem ok_game (h : a_ok A) : a_ok (s_game A).1 := by
  unfold s_game
  split
  · exact ⟨h.1, h.2.1, h.2.2.1, Nat.zero_le _, h.2.2.2.2⟩
  · rename_i hff
    have hL0 : ¬ a_lc A = 0 := fun q => by unfold q_ff at hff; rw [if_pos q] at hff; cases hff
    have hfa : q_fa (q_t (a_lc A) (a_lf A)) (a_lc A) (a_lc A) 0 = none := by
      unfold q_ff at hff
      rw [if_neg hL0] at hff
      exact hff
    split
    · exact ⟨h.1, h.2.1, h.2.2.1, Nat.zero_le _, h.2.2.2.2⟩
    · rename_i G hrn
      obtain ⟨o1, o2⟩ := q_rn_ok _ _ _ _ hfa h.1 h.2.1 hrn
      exact ⟨o1, o2, h.2.2.1, Nat.zero_le _, h.2.2.2.2⟩
theorem ok_image (h : a_ok A) : a_ok (s_image A).1 := ⟨h.1, h.2.1, fun g m e => by
  have e2 := Option.some.inj e
  have e3 : a_g A = g := congrArg Prod.fst e2
  have e4 : a_mv A = m := congrArg Prod.snd e2
  rw [← e3, ← e4]
  exact ⟨h.1, h.2.1⟩, h.2.2.2⟩
theorem ok_on (h : a_ok A) : a_ok (s_on A).1 := by
  unfold s_on
  split
  · exact h
  · rename_i p hp
    obtain ⟨o1, o2⟩ := h.2.2.1 p.1 p.2 hp
    exact ⟨o1, o2, h.2.2⟩
theorem ok_judge (h : a_ok A) : a_ok (s_judge A).1 := ⟨h.1, h.2.1, h.2.2.1, h.2.2.2.1, h.2.2.2.2.1, Nat.zero_le _, h.2.2.2.2.2.2⟩
theorem ok_bowl (h : a_ok A) : a_ok (s_bowl A a b).1 := by
  unfold s_bowl
  repeat' split
  all_goals exact h
theorem ok_by (h : a_ok A) : a_ok (s_by A a b).1 := by
  unfold s_by
  repeat' split
  all_goals exact h
theorem ok_behind (h : a_ok A) : a_ok (s_behind A a b).1 := by
  unfold s_behind
  repeat' split
  all_goals exact h
theorem ok_empties (h : a_ok A) : a_ok (s_empties A a).1 := by
  unfold s_empties
  repeat' split
  all_goals exact h
theorem ok_best (h : a_ok A) : a_ok (s_bestC A a).1 := by
  unfold s_bestC
  repeat' split
  all_goals exact h
theorem ok_worth (h : a_ok A) : a_ok (s_worthC A a).1 := by
  unfold s_worthC
  repeat' split
  all_goals exact h
theorem ok_lost (h : a_ok A) : a_ok (s_lost A).1 := h
theorem ok_back (h : a_ok A) : a_ok (s_backC A a).1 := by
  unfold s_backC
  repeat' split
  all_goals exact h
theorem ok_loop (h : a_ok A) : a_ok (n_loop A a b) := by
  unfold n_loop
  repeat' split
  all_goals exact h
theorem ok_toEmpty (h : a_ok A) : a_ok (s_teC A a b).1 := by
  unfold s_teC
  repeat' split
  all_goals exact h
theorem ok_price (h : a_ok A) : a_ok (s_priceC A a).1 := by
  unfold s_priceC
  repeat' split
  all_goals exact h
theorem ok_sold (h : a_ok A) : a_ok (s_soldC A a).1 := by
  unfold s_soldC
  repeat' split
  all_goals exact h
theorem ok_sounds (h : a_ok A) : a_ok (s_soR A a).1 := by
  unfold s_soR
  repeat' split
  all_goals exact h
theorem ok_next (h : a_ok A) : a_ok (s_neC A a).1 := by
  unfold s_neC
  repeat' split
  all_goals exact h
theorem ok_played (h : a_ok A) : a_ok (s_played A a).1 := by
  unfold s_played
  repeat' split
  all_goals exact h
theorem ok_lots (h : a_ok A) : a_ok (s_lots A a b).1 := by
  unfold s_lots
  repeat' split
  all_goals exact h
theorem st_best : (s_bestR A a).1 = (s_bestC A a).1 := by
  unfold s_bestR s_bestC
  repeat' split
  all_goals rfl
theorem st_worth : (s_worthR A a).1 = (s_worthC A a).1 := by
  unfold s_worthR s_worthC
  repeat' split
  all_goals rfl
theorem st_back : (s_backR A a).1 = (s_backC A a).1 := by
  unfold s_backR s_backC
  repeat' split
  all_goals rfl
theorem st_toEmpty : (s_teR A a b).1 = (s_teC A a b).1 := by
  unfold s_teR s_teC
  repeat' split
  all_goals rfl
theorem st_price : (s_priceR A a).1 = (s_priceC A a).1 := by
  unfold s_priceR s_priceC
  repeat' split
  all_goals rfl
theorem st_sold : (s_soldR A a).1 = (s_soldC A a).1 := by
  unfold s_soldR s_soldC
  repeat' split
  all_goals rfl
theorem st_next : (s_neR A a).1 = (s_neC A a).1 := by
  unfold s_neR s_neC
  repeat' split
  all_goals rfl
end OKS
end
section
-- == 81.value
/-! Thinking ahead: the class's look with a window and the reference's plain look find the same. -/
abbrev d_ok (g : q_G) : Prop := g_n g ≤ 9 ∧ g_t g ≤ 1 ∧ ∀ i, g_π g i ≤ 999
theorem d_ok_of {C : Nat} {g : q_G} (h : g_ok C g) : d_ok g := ⟨h.1, h.2.2.2.1, h.2.2.2.2.2.2.1⟩
def v_tk (g : q_G) (b : Nat) : Int := if q_tk1 (g_v g b).1 (g_π g (g_t g)) (g_v g b).2.2.2 = true then 1 else 0
theorem v_tk_I (g : q_G) (b : Nat) : (g_tk g b).toInt = v_tk g b := by
  unfold g_tk v_tk
  by_cases hc : q_tk1 (g_v g b).1 (g_π g (g_t g)) (g_v g b).2.2.2 = true
  · rw [if_pos hc, if_pos hc]
    decide
  · rw [if_neg hc, if_neg hc]
    decide
theorem v_tk_le (g : q_G) (b : Nat) : 0 ≤ v_tk g b ∧ v_tk g b ≤ 1 := by
  unfold v_tk
  by_cases hc : q_tk1 (g_v g b).1 (g_π g (g_t g)) (g_v g b).2.2.2 = true
  · rw [if_pos hc]
    decide
  · rw [if_neg hc]
    decide
def v_d (g : q_G) : Int := (g_π g (g_t g) : Int) - (g_π g (1 - g_t g) : Int)
theorem v_d_I {g : q_G} (h : d_ok g) : (q_dI g).toInt = v_d g := by
  have h1 := h.2.2 (g_t g)
  have h2 := h.2.2 (1 - g_t g)
  exact pk_sub_toInt (by omega) (by omega)
theorem v_d_le {g : q_G} (h : d_ok g) : -999 ≤ v_d g ∧ v_d g ≤ 999 := by
  have h1 := h.2.2 (g_t g)
  have h2 := h.2.2 (1 - g_t g)
  unfold v_d
  omega
theorem d_ok_mv {g : q_G} {b : Nat} (h : d_ok g) : d_ok (g_mv g b) := by
  refine ⟨h.1, by show 1 - g_t g ≤ 1; omega, ?_⟩
  show ∀ i, q_p1 (g_v g b).1 (g_π g) (g_t g) (g_v g b).2.2.2 i ≤ 999
  unfold q_p1
  split
  · rename_i hq
    refine q_up_le h.2.2 ?_
    cases hl : (g_v g b).2.2.2 with
    | none =>
      rw [hl] at hq
      cases hq
    | some p =>
      rw [hl] at hq
      simp only [q_tk1, Bool.and_eq_true, decide_eq_true_eq] at hq
      omega
  · exact h.2.2
theorem v_d_mv {g : q_G} {b : Nat} (h : d_ok g) : v_d (g_mv g b) = -(v_d g + v_tk g b) := by
  have ht := h.2.1
  have e1 : v_d (g_mv g b) = ((q_p1 (g_v g b).1 (g_π g) (g_t g) (g_v g b).2.2.2 (1 - g_t g) : Nat) : Int) - ((q_p1 (g_v g b).1 (g_π g) (g_t g) (g_v g b).2.2.2 (1 - (1 - g_t g)) : Nat) : Int) := rfl
  rw [e1, show 1 - (1 - g_t g) = g_t g from by omega]
  unfold q_p1 v_d v_tk
  by_cases hc : q_tk1 (g_v g b).1 (g_π g (g_t g)) (g_v g b).2.2.2 = true
  · rw [if_pos hc, if_pos hc, q_up_s, q_up_n _ _ (show 1 - g_t g ≠ g_t g from by omega)]
    omega
  · rw [if_neg hc, if_neg hc]
    omega
/-- the first of the greatest -/
def v_s (c : Nat → Bool) (W : Nat → Int) : Nat → Option (Int × Nat)
  | 0 => none
  | b + 1 => match v_s c W b with
    | none => if c b = true then some (W b, b) else none
    | some r => if c b = true ∧ r.1 < W b then some (W b, b) else some r
theorem v_s_n {c : Nat → Bool} {W : Nat → Int} {b : Nat} (h : v_s c W b = none) : v_s c W (b + 1) = if c b = true then some (W b, b) else none := by
  rw [v_s, h]
theorem v_s_s {c : Nat → Bool} {W : Nat → Int} {b : Nat} {r : Int × Nat} (h : v_s c W b = some r) : v_s c W (b + 1) = if c b = true ∧ r.1 < W b then some (W b, b) else some r := by
  rw [v_s, h]
theorem v_s_is {c : Nat → Bool} {W : Nat → Int} : ∀ (n : Nat) (r : Int × Nat), v_s c W n = some r → r.2 < n ∧ c r.2 = true ∧ W r.2 = r.1
  | 0, r, h => by cases h
  | n + 1, r, h => by
    cases hs : v_s c W n with
    | none =>
      rw [v_s_n hs] at h
      by_cases hc : c n = true
      · rw [if_pos hc] at h
        have e := Option.some.inj h
        subst e
        exact ⟨Nat.lt_succ_self n, hc, rfl⟩
      · rw [if_neg hc] at h
        cases h
    | some q =>
      rw [v_s_s hs] at h
      have i1 := v_s_is n q hs
      by_cases hc : c n = true ∧ q.1 < W n
      · rw [if_pos hc] at h
        have e := Option.some.inj h
        subst e
        exact ⟨Nat.lt_succ_self n, hc.1, rfl⟩
      · rw [if_neg hc] at h
        have e := Option.some.inj h
        subst e
        exact ⟨by omega, i1.2⟩
theorem v_s_up {c : Nat → Bool} {W : Nat → Int} {b : Nat} {r : Int × Nat} (h : v_s c W b = some r) : ∀ n, b ≤ n → ∃ q, v_s c W n = some q ∧ r.1 ≤ q.1 ∧ (q.1 ≤ r.1 → q = r)
  | 0, hn => by
    have hb : b = 0 := by omega
    subst hb
    cases h
  | n + 1, hn => by
    by_cases hb : b = n + 1
    · subst hb
      exact ⟨r, h, Int.le_refl _, fun _ => rfl⟩
    · obtain ⟨q, h1, h2, h3⟩ := v_s_up h n (by omega)
      rw [v_s_s h1]
      by_cases hc : c n = true ∧ q.1 < W n
      · rw [if_pos hc]
        have hc2 := hc.2
        refine ⟨_, rfl, ?_, fun k => ?_⟩
        · show r.1 ≤ W n
          omega
        · exfalso
          have k2 : W n ≤ r.1 := k
          omega
      · rw [if_neg hc]
        exact ⟨q, rfl, h2, h3⟩
def v_e (o : Option (Int × Nat)) : Int := match o with
  | none => 0
  | some r => r.1
/-- by how much the one in turn gains in k moves -/
def v_G : Nat → q_G → Int
  | 0, _ => 0
  | k + 1, g => v_e (v_s (fun b => decide (g_can g b)) (fun b => v_tk g b - v_G k (g_mv g b)) (g_n g))
abbrev v_W (k : Nat) (g : q_G) : Nat → Int := fun b => v_tk g b - v_G k (g_mv g b)
abbrev v_c (g : q_G) : Nat → Bool := fun b => decide (g_can g b)
theorem v_G_S (k : Nat) (g : q_G) : v_G (k + 1) g = v_e (v_s (v_c g) (v_W k g) (g_n g)) := rfl
theorem v_G_le : ∀ (k : Nat) (g : q_G), -((k / 2 : Nat) : Int) ≤ v_G k g ∧ v_G k g ≤ (((k + 1) / 2 : Nat) : Int)
  | 0, g => by
    have e : v_G 0 g = 0 := rfl
    rw [e]
    omega
  | k + 1, g => by
    rw [v_G_S]
    cases hs : v_s (v_c g) (v_W k g) (g_n g) with
    | none =>
      have e : v_e none = 0 := rfl
      rw [e]
      omega
    | some r =>
      have i1 := (v_s_is _ r hs).2.2
      have i2 := v_G_le k (g_mv g r.2)
      have i3 := v_tk_le g r.2
      have e : v_e (some r) = r.1 := rfl
      rw [e]
      have i4 : v_tk g r.2 - v_G k (g_mv g r.2) = r.1 := i1
      omega
theorem i_lt_or (a b : Int) : a < b ∨ b ≤ a := by omega
theorem i_sub {x y : Int32} (hx : -100000 ≤ x.toInt ∧ x.toInt ≤ 100000) (hy : -100000 ≤ y.toInt ∧ y.toInt ≤ 100000) : (x - y).toInt = x.toInt - y.toInt := by
  rw [Int32.toInt_sub]
  exact Int.bmod_eq_of_le (by omega) (by omega)
theorem i_neg {x : Int32} (hx : -100000 ≤ x.toInt ∧ x.toInt ≤ 100000) : (-x).toInt = -x.toInt := by
  rw [Int32.toInt_neg]
  exact Int.bmod_eq_of_le (by omega) (by omega)
-- the reference
def v_rel (D : Int) (d : Int32) (o : Option (Int × Nat)) (q : Int32 × Int32) : Prop := match o with
  | none => q = (d, -9)
  | some r => q.1.toInt = D + r.1 ∧ q.2 = nI r.2
theorem v_sI_r {d : Int32} {c : Nat → Bool} {V : Nat → Int32} {W : Nat → Int} {D : Int} (hV : ∀ b, (V b).toInt = D + W b) : ∀ n, n ≤ 1000 → v_rel D d (v_s c W n) (q_sI d c V n)
  | 0, _ => rfl
  | b + 1, hb => by
    have ih := v_sI_r (d := d) (c := c) hV b (by omega)
    cases hs : v_s c W b with
    | none =>
      rw [hs] at ih
      have ih2 : q_sI d c V b = (d, -9) := ih
      rw [v_s_n hs, q_sI, ih2]
      by_cases hc : c b = true
      · have hd : c b = true ∧ ((d, (-9 : Int32)).2 = -9 ∨ (d, (-9 : Int32)).1 < V b) := ⟨hc, Or.inl rfl⟩
        rw [if_pos hc, if_pos hd]
        exact ⟨hV b, rfl⟩
      · have hd : ¬ (c b = true ∧ ((d, (-9 : Int32)).2 = -9 ∨ (d, (-9 : Int32)).1 < V b)) := fun q => hc q.1
        rw [if_neg hc, if_neg hd]
        exact rfl
    | some r =>
      rw [hs] at ih
      obtain ⟨e1, e2⟩ := ih
      have i1 := (v_s_is _ r hs).1
      have ne : ¬ (q_sI d c V b).2 = -9 := by
        rw [e2]
        exact q_oI_ne (by omega)
      have hv := hV b
      rw [v_s_s hs, q_sI]
      by_cases hc : c b = true ∧ r.1 < W b
      · have hd : c b = true ∧ ((q_sI d c V b).2 = -9 ∨ (q_sI d c V b).1 < V b) := ⟨hc.1, Or.inr (by have hc2 := hc.2; rw [Int32.lt_iff_toInt_lt]; omega)⟩
        rw [if_pos hc, if_pos hd]
        exact ⟨hV b, rfl⟩
      · have hd : ¬ (c b = true ∧ ((q_sI d c V b).2 = -9 ∨ (q_sI d c V b).1 < V b)) := by
          intro q
          refine hc ⟨q.1, ?_⟩
          rcases q.2 with h | h
          · exact absurd h ne
          · rw [Int32.lt_iff_toInt_lt] at h
            omega
        rw [if_neg hc, if_neg hd]
        exact ⟨e1, e2⟩
theorem v_ref_S {k : Nat} (hk : k ≤ 1000) (ih : ∀ g, d_ok g → (q_seI k g).1.toInt = v_d g + v_G k g) {g : q_G} (h : d_ok g) : v_rel (v_d g) (q_dI g) (v_s (v_c g) (v_W k g) (g_n g)) (q_seI (k + 1) g) := by
  have hn := h.1
  refine v_sI_r (fun b => ?_) _ (by omega)
  have h2 := ih (g_mv g b) (d_ok_mv h)
  have h3 := v_d_mv (b := b) h
  have h4 := v_d_le (d_ok_mv (b := b) h)
  have h5 := v_G_le k (g_mv g b)
  rw [i_neg (by omega)]
  show -(q_seI k (g_mv g b)).1.toInt = v_d g + (v_tk g b - v_G k (g_mv g b))
  omega
theorem v_ref : ∀ (k : Nat), k ≤ 1000 → ∀ g, d_ok g → (q_seI k g).1.toInt = v_d g + v_G k g
  | 0, _, g, h => by
    have e : v_G 0 g = 0 := rfl
    have e2 : (q_seI 0 g).1 = q_dI g := rfl
    have e3 := v_d_I h
    rw [e, e2]
    omega
  | k + 1, hk, g, h => by
    have h1 := v_ref_S (k := k) (by omega) (v_ref k (by omega)) h
    rw [v_G_S]
    cases hs : v_s (v_c g) (v_W k g) (g_n g) with
    | none =>
      rw [hs] at h1
      have h2 : q_seI (k + 1) g = (q_dI g, -9) := h1
      have e : v_e none = 0 := rfl
      have e3 := v_d_I h
      rw [h2, e]
      show (q_dI g).toInt = _
      omega
    | some r =>
      rw [hs] at h1
      exact h1.1
-- the class
abbrev v_P (v lo hi x : Int) : Prop := (v ≤ lo → x ≤ lo) ∧ (hi ≤ v → hi ≤ x) ∧ (lo < v → v < hi → x = v)
def v_R (lo hi mn mx : Int) (o : Option (Int × Nat)) (R : Int32 × Int32) : Prop := match o with
  | none => R.1.toInt = lo - 1 ∧ R.2 = -9
  | some r => R.2 ≠ -9 ∧ (mn ≤ R.1.toInt ∧ R.1.toInt ≤ mx) ∧ ((R.1.toInt ≤ lo ∧ r.1 ≤ lo) ∨ (lo < R.1.toInt ∧ R.1.toInt < hi ∧ R.1.toInt = r.1 ∧ R.2 = nI r.2) ∨ (hi ≤ R.1.toInt ∧ hi ≤ r.1))
theorem v_R_pick {lo hi mn mx w x mo : Int} {X : Int32} {b : Nat} (hb : b < 2 ^ 31) (hX : X.toInt = x) (hbd : mn ≤ x ∧ x ≤ mx) (hlm : mo < hi) (hP : v_P w mo hi x) (hm : mo < w ∨ mo ≤ lo) : v_R lo hi mn mx (some (w, b)) (X, nI b) := by
  refine ⟨q_oI_ne hb, (by show mn ≤ X.toInt ∧ X.toInt ≤ mx; rw [hX]; exact hbd), ?_⟩
  show (X.toInt ≤ lo ∧ w ≤ lo) ∨ (lo < X.toInt ∧ X.toInt < hi ∧ X.toInt = w ∧ nI b = nI b) ∨ (hi ≤ X.toInt ∧ hi ≤ w)
  rw [hX]
  obtain ⟨p1, p2, p3⟩ := hP
  by_cases d : hi ≤ w
  · exact Or.inr (Or.inr ⟨p2 d, d⟩)
  · by_cases d2 : mo < w
    · have p4 := p3 d2 (by omega)
      by_cases d3 : w ≤ lo
      · exact Or.inl ⟨by omega, d3⟩
      · exact Or.inr (Or.inl ⟨by omega, by omega, p4, rfl⟩)
    · have p4 := p1 (by omega)
      exact Or.inl ⟨by omega, by omega⟩
theorem v_al {V : Nat → Int32 → Int32} {c : Nat → Bool} {en : Int32} {W : Nat → Int} {lo hi mn mx : Int} {n : Nat} (hn : n ≤ 1000) (hen : mx ≤ en.toInt ∨ hi ≤ en.toInt) (hen2 : en.toInt ≤ hi) (hlh : lo < hi)
    (hV : ∀ (b : Nat) (mo : Int32), c b = true → mo.toInt = lo - 1 ∨ (mn ≤ mo.toInt ∧ mo.toInt ≤ mx) → mo.toInt < hi → v_P (W b) mo.toInt hi (V b mo).toInt ∧ mn ≤ (V b mo).toInt ∧ (V b mo).toInt ≤ mx)
    (hW : ∀ b, c b = true → W b ≤ mx) : ∀ (m b : Nat) (r : Int32 × Int32), b + m = n → v_R lo hi mn mx (v_s c W b) r → v_R lo hi mn mx (v_s c W n) (q_al V c en m b r)
  | 0, b, r, hb, hr => by
    have hb2 : b = n := by omega
    subst hb2
    exact hr
  | m + 1, b, r, hb, hr => by
    rw [q_al]
    by_cases h1 : r.2 = -9 ∨ r.1 < en
    · rw [if_pos h1]
      cases hs : v_s c W b with
      | none =>
        rw [hs] at hr
        obtain ⟨r1, r2⟩ := id hr
        by_cases hc : c b = true
        · have hd : c b = true ∧ (r.1 < V b r.1 ∨ r.2 = -9) := ⟨hc, Or.inr r2⟩
          rw [if_pos hd]
          refine v_al hn hen hen2 hlh hV hW m (b + 1) _ (by omega) ?_
          rw [v_s_n hs, if_pos hc]
          have hv := hV b r.1 hc (Or.inl r1) (by omega)
          exact v_R_pick (mo := r.1.toInt) (by omega) rfl hv.2 (by omega) hv.1 (Or.inr (by omega))
        · have hd : ¬ (c b = true ∧ (r.1 < V b r.1 ∨ r.2 = -9)) := fun q => hc q.1
          rw [if_neg hd]
          refine v_al hn hen hen2 hlh hV hW m (b + 1) _ (by omega) ?_
          rw [v_s_n hs, if_neg hc]
          exact hr
      | some q =>
        rw [hs] at hr
        obtain ⟨r1, r2, r3⟩ := id hr
        have h2 : r.1.toInt < en.toInt := by
          rcases h1 with h | h
          · exact absurd h r1
          · exact Int32.lt_iff_toInt_lt.mp h
        by_cases hc : c b = true
        · have hv := hV b r.1 hc (Or.inr r2) (by omega)
          have hp := hv.1
          by_cases hx : r.1 < V b r.1
          · have hd : c b = true ∧ (r.1 < V b r.1 ∨ r.2 = -9) := ⟨hc, Or.inl hx⟩
            rw [if_pos hd]
            refine v_al hn hen hen2 hlh hV hW m (b + 1) _ (by omega) ?_
            have hx2 := Int32.lt_iff_toInt_lt.mp hx
            have hw : r.1.toInt < W b := by
              rcases i_lt_or r.1.toInt (W b) with k | k
              · exact k
              · have := hp.1 k
                omega
            rw [v_s_s hs]
            by_cases hq : c b = true ∧ q.1 < W b
            · rw [if_pos hq]
              exact v_R_pick (mo := r.1.toInt) (by omega) rfl hv.2 (by omega) hp (Or.inl hw)
            · rw [if_neg hq]
              have hq2 : W b ≤ q.1 := by
                rcases i_lt_or q.1 (W b) with k | k
                · exact absurd ⟨hc, k⟩ hq
                · exact k
              have hP3 := hp.2.2 hw
              rcases r3 with ⟨k1, k2⟩ | ⟨k1, k2, k3, k4⟩ | ⟨k1, k2⟩
              · refine ⟨q_oI_ne (by omega), hv.2, Or.inl ⟨?_, k2⟩⟩
                show (V b r.1).toInt ≤ lo
                have := hP3 (by omega)
                omega
              · exfalso
                omega
              · exfalso
                omega
          · have hd : ¬ (c b = true ∧ (r.1 < V b r.1 ∨ r.2 = -9)) := fun k => k.2.elim hx r1
            rw [if_neg hd]
            refine v_al hn hen hen2 hlh hV hW m (b + 1) _ (by omega) ?_
            have hx2 : (V b r.1).toInt ≤ r.1.toInt := by
              rcases i_lt_or r.1.toInt (V b r.1).toInt with k | k
              · exact absurd (Int32.lt_iff_toInt_lt.mpr k) hx
              · exact k
            have hw : W b ≤ r.1.toInt := by
              rcases i_lt_or r.1.toInt (W b) with k | k
              · exfalso
                by_cases d : hi ≤ W b
                · have := hp.2.1 d
                  omega
                · have := hp.2.2 k (by omega)
                  omega
              · exact k
            rw [v_s_s hs]
            by_cases hq : c b = true ∧ q.1 < W b
            · rw [if_pos hq]
              have hq2 := hq.2
              rcases r3 with ⟨k1, k2⟩ | ⟨k1, k2, k3, k4⟩ | ⟨k1, k2⟩
              · refine ⟨r1, r2, Or.inl ⟨k1, ?_⟩⟩
                show W b ≤ lo
                omega
              · exfalso
                omega
              · exfalso
                omega
            · rw [if_neg hq]
              exact hr
        · have hd : ¬ (c b = true ∧ (r.1 < V b r.1 ∨ r.2 = -9)) := fun q => hc q.1
          rw [if_neg hd]
          refine v_al hn hen hen2 hlh hV hW m (b + 1) _ (by omega) ?_
          have hd2 : ¬ (c b = true ∧ q.1 < W b) := fun q => hc q.1
          rw [v_s_s hs, if_neg hd2]
          exact hr
    · rw [if_neg h1]
      cases hs : v_s c W b with
      | none =>
        rw [hs] at hr
        exact absurd (Or.inl hr.2) h1
      | some q =>
        rw [hs] at hr
        obtain ⟨r1, r2, r3⟩ := id hr
        have h2 : en.toInt ≤ r.1.toInt := by
          rcases i_lt_or r.1.toInt en.toInt with k | k
          · exact absurd (Or.inr (Int32.lt_iff_toInt_lt.mpr k)) h1
          · exact k
        obtain ⟨q2, g1, g2, g3⟩ := v_s_up hs n (by omega)
        have i1 := v_s_is _ q2 g1
        have i2 := hW q2.2 i1.2.1
        rw [i1.2.2] at i2
        rw [g1]
        rcases r3 with ⟨k1, k2⟩ | ⟨k1, k2, k3, k4⟩ | ⟨k1, k2⟩
        · exact ⟨r1, r2, Or.inl ⟨k1, by omega⟩⟩
        · have e := g3 (by omega)
          rw [e]
          exact ⟨r1, r2, Or.inr (Or.inl ⟨k1, k2, k3, k4⟩)⟩
        · exact ⟨r1, r2, Or.inr (Or.inr ⟨k1, by omega⟩)⟩
theorem v_en {k : Nat} {hi : Int32} (hk : k ≤ 1000) : ((((k + 2) / 2 : Nat) : Int) ≤ (q_en k hi).toInt ∨ hi.toInt ≤ (q_en k hi).toInt) ∧ (q_en k hi).toInt ≤ hi.toInt := by
  have e : nI (k + 2) / 2 = nI ((k + 2) / 2) := pk_div (d := 2) (by omega) (by decide) (by decide)
  have e2 : (nI ((k + 2) / 2)).toInt = (((k + 2) / 2 : Nat) : Int) := nI_toInt (by omega)
  unfold q_en
  rw [e]
  by_cases d : nI ((k + 2) / 2) < hi
  · rw [if_pos d, e2]
    rw [Int32.lt_iff_toInt_lt, e2] at d
    exact ⟨Or.inl (Int.le_refl _), by omega⟩
  · rw [if_neg d]
    exact ⟨Or.inr (Int.le_refl _), Int.le_refl _⟩
abbrev v_B (k : Nat) (x : Int32) : Prop := -(1000 - 3 * (k : Int)) ≤ x.toInt ∧ x.toInt ≤ 1000 - 3 * (k : Int)
theorem v_ab_S {k : Nat} (hk : k ≤ 4) (ih : ∀ (g : q_G) (lo hi : Int32), d_ok g → v_B k lo → v_B k hi → lo.toInt < hi.toInt → v_P (v_G k g) lo.toInt hi.toInt (q_ab k g lo hi).1.toInt ∧ -((k / 2 : Nat) : Int) ≤ (q_ab k g lo hi).1.toInt ∧ (q_ab k g lo hi).1.toInt ≤ (((k + 1) / 2 : Nat) : Int)) {g : q_G} {lo hi : Int32} (h : d_ok g) (hlo : v_B (k + 1) lo) (hhi : v_B (k + 1) hi) (hlh : lo.toInt < hi.toInt) :
    v_R lo.toInt hi.toInt (-(((k + 1) / 2 : Nat) : Int)) ((((k + 2) / 2 : Nat) : Int)) (v_s (v_c g) (v_W k g) (g_n g)) (q_al (q_aV k g hi) (v_c g) (q_en k hi) (g_n g) 0 (lo - 1, -9)) := by
  have hn := h.1
  have he := v_en (k := k) (hi := hi) (by omega)
  have e1 : (1 : Int32).toInt = 1 := by decide
  have el : (lo - 1).toInt = lo.toInt - 1 := by rw [i_sub (by omega) (by omega), e1]
  refine v_al (by omega) he.1 he.2 hlh (fun b mo hc hm hmh => ?_) (fun b hc => ?_) (g_n g) 0 _ (by omega) ⟨el, rfl⟩
  · have t1 := v_tk_I g b
    have t2 := v_tk_le g b
    have s1 : (g_tk g b - hi).toInt = v_tk g b - hi.toInt := by rw [i_sub (by omega) (by omega), t1]
    have s2 : (g_tk g b - mo).toInt = v_tk g b - mo.toInt := by rw [i_sub (by omega) (by omega), t1]
    obtain ⟨⟨p1, p2, p3⟩, p4, p5⟩ := ih (g_mv g b) (g_tk g b - hi) (g_tk g b - mo) (d_ok_mv h) ⟨by omega, by omega⟩ ⟨by omega, by omega⟩ (by omega)
    rw [s1] at p1 p3
    rw [s2] at p2 p3
    have s3 : (q_aV k g hi b mo).toInt = v_tk g b - (q_ab k (g_mv g b) (g_tk g b - hi) (g_tk g b - mo)).1.toInt := by
      show (g_tk g b - (q_ab k (g_mv g b) (g_tk g b - hi) (g_tk g b - mo)).1).toInt = _
      rw [i_sub (by omega) (by omega), t1]
    rw [s3]
    refine ⟨⟨fun q => ?_, fun q => ?_, fun q q2 => ?_⟩, ?_, ?_⟩
    · have q3 : v_tk g b - v_G k (g_mv g b) ≤ mo.toInt := q
      have := p2 (by omega)
      omega
    · have q3 : hi.toInt ≤ v_tk g b - v_G k (g_mv g b) := q
      have := p1 (by omega)
      omega
    · have q3 : mo.toInt < v_tk g b - v_G k (g_mv g b) := q
      have q4 : v_tk g b - v_G k (g_mv g b) < hi.toInt := q2
      have := p3 (by omega) (by omega)
      show _ = v_tk g b - v_G k (g_mv g b)
      omega
    · omega
    · omega
  · have i2 := v_G_le k (g_mv g b)
    have i3 := v_tk_le g b
    show v_tk g b - v_G k (g_mv g b) ≤ _
    omega
theorem v_ab : ∀ (k : Nat), k ≤ 5 → ∀ (g : q_G) (lo hi : Int32), d_ok g → v_B k lo → v_B k hi → lo.toInt < hi.toInt → v_P (v_G k g) lo.toInt hi.toInt (q_ab k g lo hi).1.toInt ∧ -((k / 2 : Nat) : Int) ≤ (q_ab k g lo hi).1.toInt ∧ (q_ab k g lo hi).1.toInt ≤ (((k + 1) / 2 : Nat) : Int) := by
  intro k
  induction k with
  | zero =>
    intro _ g lo hi h hlo hhi hlh
    have e : v_G 0 g = 0 := rfl
    have e2 : (q_ab 0 g lo hi).1.toInt = 0 := by
      show (0 : Int32).toInt = 0
      decide
    rw [e, e2]
    exact ⟨⟨fun q => by omega, fun q => by omega, fun q1 q2 => rfl⟩, by omega, by omega⟩
  | succ k ih =>
    intro hk g lo hi h hlo hhi hlh
    have h1 := v_ab_S (k := k) (by omega) (ih (by omega)) h hlo hhi hlh
    have e2 : (q_ab (k + 1) g lo hi).1 = if (q_al (q_aV k g hi) (v_c g) (q_en k hi) (g_n g) 0 (lo - 1, -9)).2 = -9 then 0 else (q_al (q_aV k g hi) (v_c g) (q_en k hi) (g_n g) 0 (lo - 1, -9)).1 := rfl
    rw [v_G_S, e2]
    cases hs : v_s (v_c g) (v_W k g) (g_n g) with
    | none =>
      rw [hs] at h1
      rw [if_pos h1.2]
      have e : v_e none = 0 := rfl
      have e3 : (0 : Int32).toInt = 0 := by decide
      rw [e, e3]
      exact ⟨⟨fun q => by omega, fun q => by omega, fun q1 q2 => rfl⟩, by omega, by omega⟩
    | some r =>
      rw [hs] at h1
      obtain ⟨r1, r2, r3⟩ := h1
      rw [if_neg r1]
      have e : v_e (some r) = r.1 := rfl
      rw [e]
      refine ⟨?_, r2⟩
      rcases r3 with ⟨k1, k2⟩ | ⟨k1, k2, k3, k4⟩ | ⟨k1, k2⟩
      · exact ⟨fun q => by omega, fun q => by omega, fun q1 q2 => by omega⟩
      · exact ⟨fun q => by omega, fun q => by omega, fun q1 q2 => by omega⟩
      · exact ⟨fun q => by omega, fun q => by omega, fun q1 q2 => by omega⟩
theorem v_ab1 (g : q_G) (lo : Int32) : q_ab 1 g lo (nI 1) = q_ab 1 g lo (nI 2) := by
  have e : q_en 0 (nI 1) = q_en 0 (nI 2) := by decide
  have e2 : q_aV 0 g (nI 1) = q_aV 0 g (nI 2) := rfl
  show ((if (q_al (q_aV 0 g (nI 1)) (v_c g) (q_en 0 (nI 1)) (g_n g) 0 (lo - 1, -9)).2 = -9 then 0 else (q_al (q_aV 0 g (nI 1)) (v_c g) (q_en 0 (nI 1)) (g_n g) 0 (lo - 1, -9)).1), (q_al (q_aV 0 g (nI 1)) (v_c g) (q_en 0 (nI 1)) (g_n g) 0 (lo - 1, -9)).2) = ((if (q_al (q_aV 0 g (nI 2)) (v_c g) (q_en 0 (nI 2)) (g_n g) 0 (lo - 1, -9)).2 = -9 then 0 else (q_al (q_aV 0 g (nI 2)) (v_c g) (q_en 0 (nI 2)) (g_n g) 0 (lo - 1, -9)).1), (q_al (q_aV 0 g (nI 2)) (v_c g) (q_en 0 (nI 2)) (g_n g) 0 (lo - 1, -9)).2)
  rw [e, e2]
theorem v_root {k : Nat} (hk : k ≤ 4) {g : q_G} {lo hi : Int32} (h : d_ok g) (hlo : v_B (k + 1) lo) (hhi : v_B (k + 1) hi) (h1 : lo.toInt < -(((k + 1) / 2 : Nat) : Int)) (h2 : (((k + 2) / 2 : Nat) : Int) < hi.toInt) : (q_ab (k + 1) g lo hi).1.toInt = v_G (k + 1) g ∧ (q_ab (k + 1) g lo hi).2 = (match v_s (v_c g) (v_W k g) (g_n g) with | none => -9 | some r => nI r.2) := by
  have i1 := v_G_le (k + 1) g
  have a1 := (v_ab (k + 1) (by omega) g lo hi h hlo hhi (by omega)).1.2.2 (by omega) (by omega)
  refine ⟨a1, ?_⟩
  have a2 := v_ab_S (k := k) hk (v_ab k (by omega)) h hlo hhi (by omega)
  show (q_al (q_aV k g hi) (v_c g) (q_en k hi) (g_n g) 0 (lo - 1, -9)).2 = _
  rw [v_G_S] at i1
  cases hs : v_s (v_c g) (v_W k g) (g_n g) with
  | none =>
    rw [hs] at a2
    exact a2.2
  | some r =>
    rw [hs] at a2 i1
    have e : v_e (some r) = r.1 := rfl
    rw [e] at i1
    obtain ⟨r1, r2, r3⟩ := a2
    rcases r3 with ⟨k1, k2⟩ | ⟨k1, k2, k3, k4⟩ | ⟨k1, k2⟩
    · exfalso
      omega
    · exact k4
    · exfalso
      omega
theorem v_all {n : Nat} {g : q_G} (h : d_ok g) (h1 : 1 ≤ n) (h4 : n ≤ 4) : q_gI n g = q_wI n g ∧ (q_ab n g (-nI n) (nI n)).2 = (q_seI n g).2 := by
  obtain ⟨k, rfl⟩ : ∃ k, n = k + 1 := ⟨n - 1, by omega⟩
  have hh : ∃ hi : Int32, q_ab (k + 1) g (-nI (k + 1)) (nI (k + 1)) = q_ab (k + 1) g (-nI (k + 1)) hi ∧ v_B (k + 1) hi ∧ (((k + 2) / 2 : Nat) : Int) < hi.toInt := by
    rcases (show k = 0 ∨ k = 1 ∨ k = 2 ∨ k = 3 by omega) with rfl | rfl | rfl | rfl
    · exact ⟨nI 2, v_ab1 g _, by decide, by decide⟩
    · exact ⟨nI 2, rfl, by decide, by decide⟩
    · exact ⟨nI 3, rfl, by decide, by decide⟩
    · exact ⟨nI 4, rfl, by decide, by decide⟩
  obtain ⟨hi, e, hb, hlt⟩ := hh
  have hl : v_B (k + 1) (-nI (k + 1)) ∧ (-nI (k + 1)).toInt < -(((k + 1) / 2 : Nat) : Int) := by
    rcases (show k = 0 ∨ k = 1 ∨ k = 2 ∨ k = 3 by omega) with rfl | rfl | rfl | rfl
    · decide
    · decide
    · decide
    · decide
  obtain ⟨r1, r2⟩ := v_root (k := k) (by omega) h hl.1 hb hl.2 hlt
  rw [← e] at r1 r2
  have s1 := v_ref (k + 1) (by omega) g h
  have s2 := v_d_I h
  have s3 := v_d_le h
  have s4 := v_G_le (k + 1) g
  constructor
  · refine Int32.toInt_inj.mp ?_
    show (q_ab (k + 1) g (-nI (k + 1)) (nI (k + 1))).1.toInt = ((q_seI (k + 1) g).1 - q_dI g).toInt
    rw [r1, i_sub (by omega) (by omega)]
    omega
  · rw [r2]
    have s5 := v_ref_S (k := k) (by omega) (v_ref k (by omega)) h
    cases hs : v_s (v_c g) (v_W k g) (g_n g) with
    | none =>
      rw [hs] at s5
      have s6 : q_seI (k + 1) g = (q_dI g, -9) := s5
      exact (congrArg Prod.snd s6).symm
    | some r =>
      rw [hs] at s5
      exact s5.2.symm
section AN
variable {A : q_A} {a : Int32}
theorem an_n4 {a : Int32} (h1 : ¬ a < 1) (h4 : ¬ 4 < a) : 1 ≤ a.toNatClampNeg ∧ a.toNatClampNeg ≤ 4 := by
  obtain ⟨n, hn, rfl⟩ := nI_of2 (n := 4) (M := 4) rfl (fun q => h1 (Int32.lt_trans q (by decide))) (Int32.not_lt.mp h4)
  rw [nI_clamp (by omega)]
  refine ⟨Nat.pos_of_ne_zero (fun q => h1 ?_), hn⟩
  rw [q]
  decide
theorem an_best (ho : a_ok A) : (s_bestC A a).2 = (s_bestR A a).2 := by
  unfold s_bestC s_bestR
  by_cases h1 : a < 1
  · rw [if_pos h1, if_pos h1]
  · rw [if_neg h1, if_neg h1]
    by_cases h4 : 4 < a
    · rw [if_pos h4, if_pos h4]
    · rw [if_neg h4, if_neg h4]
      have h5 := an_n4 h1 h4
      exact (v_all (d_ok_of ho.1) h5.1 h5.2).2
theorem an_worth (ho : a_ok A) : (s_worthC A a).2 = (s_worthR A a).2 := by
  unfold s_worthC s_worthR
  by_cases h1 : a < 1
  · rw [if_pos h1, if_pos h1]
  · rw [if_neg h1, if_neg h1]
    by_cases h4 : 4 < a
    · rw [if_pos h4, if_pos h4]
    · rw [if_neg h4, if_neg h4]
      have h5 := an_n4 h1 h4
      exact (v_all (d_ok_of ho.1) h5.1 h5.2).1
theorem an_price (ho : a_ok A) : (s_priceC A a).2 = (s_priceR A a).2 := by
  have h := d_ok_of ho.1
  have e1 : q_gI 2 (a_g A) = q_wI 2 (a_g A) := (v_all h (by decide) (by decide)).1
  have e2 : q_gI 2 (g_bm (a_g A) a.toNatClampNeg (g_β (a_g A) a.toNatClampNeg + 1)) = q_wI 2 (g_bm (a_g A) a.toNatClampNeg (g_β (a_g A) a.toNatClampNeg + 1)) := (v_all (g := g_bm (a_g A) a.toNatClampNeg (g_β (a_g A) a.toNatClampNeg + 1)) ⟨h.1, h.2.1, h.2.2⟩ (by decide) (by decide)).1
  unfold s_priceC s_priceR
  rw [e1, e2]
theorem an_sold (ho : a_ok A) : (s_soldC A a).2 = (s_soldR A a).2 := by
  have h := d_ok_of ho.1
  have e1 : q_gI 2 (a_g A) = q_wI 2 (a_g A) := (v_all h (by decide) (by decide)).1
  have e2 : q_gI 2 (g_bm (a_g A) a.toNatClampNeg (g_β (a_g A) a.toNatClampNeg - 1)) = q_wI 2 (g_bm (a_g A) a.toNatClampNeg (g_β (a_g A) a.toNatClampNeg - 1)) := (v_all (g := g_bm (a_g A) a.toNatClampNeg (g_β (a_g A) a.toNatClampNeg - 1)) ⟨h.1, h.2.1, h.2.2⟩ (by decide) (by decide)).1
  unfold s_soldC s_soldR
  rw [e1, e2]
theorem an_change (ho : a_ok A) : q_chg (q_gI 2) (a_g A) = q_chg (q_wI 2) (a_g A) := by
  have h := d_ok_of ho.1
  have e1 : q_gI 2 (a_g A) = q_wI 2 (a_g A) := (v_all h (by decide) (by decide)).1
  have e2 : (fun a b => q_gI 2 (g_sw (a_g A) a b)) = fun a b => q_wI 2 (g_sw (a_g A) a b) := by
    funext x y
    exact (v_all (g := g_sw (a_g A) x y) ⟨h.1, h.2.1, h.2.2⟩ (by decide) (by decide)).1
  show (q_c1 (fun a b => q_gI 2 (g_sw (a_g A) a b)) (g_n (a_g A)) (q_gI 2 (a_g A), -9) (g_n (a_g A))).2 = (q_c1 (fun a b => q_wI 2 (g_sw (a_g A) a b)) (g_n (a_g A)) (q_wI 2 (a_g A), -9) (g_n (a_g A))).2
  rw [e1, e2]
theorem an_fair (ho : a_ok A) : q_fr (fun v => q_gI 2 (g_fl (a_g A) v)) 9 1 = q_fr (fun v => q_wI 2 (g_fl (a_g A) v)) 9 1 := by
  have h := d_ok_of ho.1
  have e2 : (fun v => q_gI 2 (g_fl (a_g A) v)) = fun v => q_wI 2 (g_fl (a_g A) v) := by
    funext x
    exact (v_all (g := g_fl (a_g A) x) ⟨h.1, h.2.1, h.2.2⟩ (by decide) (by decide)).1
  rw [e2]
end AN
end
section
-- == 82.next
/-! Ways are few: no cap is met, so both sides ask for the same bowl. -/
def n_su (w : Nat → Nat) (k lo : Nat) : Nat → Nat
  | 0 => 0
  | j + 1 => n_su w k lo j + w (k - (lo + j))
def n_wy (g : q_G) (ρ : Nat → Nat) : Nat → Nat → Nat
  | 0, k => if k = 0 then 1 else 0
  | b + 1, k => n_su (n_wy g ρ b) k (q_lo g ρ b) (min (q_hi g ρ b) k + 1 - q_lo g ρ b)
theorem n_su_l {w : Nat → Int64} {v : Nat → Nat} (h : ∀ i, w i = lN (v i)) (k lo : Nat) : ∀ j, q_su w k lo j = lN (n_su v k lo j)
  | 0 => rfl
  | j + 1 => by rw [q_su, n_su, n_su_l h k lo j, h, lN_add]
theorem n_wy_l (g : q_G) (ρ : Nat → Nat) : ∀ (b k : Nat), q_wy g ρ b k = lN (n_wy g ρ b k)
  | 0, k => by
    by_cases d : k = 0
    · exact Eq.trans (b := (1 : Int64)) (if_pos d) (congrArg lN (show 1 = n_wy g ρ 0 k from (if_pos d).symm))
    · exact Eq.trans (b := (0 : Int64)) (if_neg d) (congrArg lN (show 0 = n_wy g ρ 0 k from (if_neg d).symm))
  | b + 1, k => by
    rw [q_wy, n_wy]
    exact n_su_l (n_wy_l g ρ b) k _ _
theorem n_su_sum (w : Nat → Nat) (k lo : Nat) : ∀ j, lo + j ≤ k + 1 → n_su w k lo j + q_sum w (k + 1 - (lo + j)) = q_sum w (k + 1 - lo)
  | 0, _ => Nat.zero_add _
  | j + 1, h => by
    have ih := n_su_sum w k lo j (by omega)
    have e : k + 1 - (lo + j) = (k - (lo + j)) + 1 := by omega
    have e2 : k + 1 - (lo + (j + 1)) = k - (lo + j) := by omega
    rw [e] at ih
    have e3 : q_sum w (k - (lo + j) + 1) = q_sum w (k - (lo + j)) + w (k - (lo + j)) := rfl
    have e4 : n_su w k lo (j + 1) = n_su w k lo j + w (k - (lo + j)) := rfl
    rw [e2, e4]
    omega
theorem q_sum_up (w : Nat → Nat) (a : Nat) : ∀ d, q_sum w a ≤ q_sum w (a + d)
  | 0 => Nat.le_refl _
  | d + 1 => Nat.le_trans (q_sum_up w a d) (Nat.le_add_right _ _)
theorem q_sum_le {v w : Nat → Nat} (h : ∀ i, v i ≤ w i) : ∀ n, q_sum v n ≤ q_sum w n
  | 0 => Nat.le_refl _
  | n + 1 => Nat.add_le_add (q_sum_le h n) (h n)
theorem q_sum_mul (c : Nat) (v : Nat → Nat) : ∀ n, c * q_sum v n = q_sum (fun i => c * v i) n
  | 0 => rfl
  | n + 1 => by
    have ih := q_sum_mul c v n
    show c * (q_sum v n + v n) = q_sum (fun i => c * v i) n + c * v n
    rw [Nat.mul_add, ih]
theorem n_wy_le (g : q_G) (ρ : Nat → Nat) (b k : Nat) : n_wy g ρ (b + 1) k ≤ q_sum (n_wy g ρ b) (k + 1) := by
  show n_su (n_wy g ρ b) k (q_lo g ρ b) (min (q_hi g ρ b) k + 1 - q_lo g ρ b) ≤ _
  by_cases d : q_lo g ρ b ≤ min (q_hi g ρ b) k + 1
  · have h := n_su_sum (n_wy g ρ b) k (q_lo g ρ b) (min (q_hi g ρ b) k + 1 - q_lo g ρ b) (by omega)
    have h2 := q_sum_up (n_wy g ρ b) (k + 1 - q_lo g ρ b) (q_lo g ρ b)
    rw [show k + 1 - q_lo g ρ b + q_lo g ρ b = k + 1 from by omega] at h2
    omega
  · rw [show min (q_hi g ρ b) k + 1 - q_lo g ρ b = 0 from by omega]
    exact Nat.zero_le _
def n_ri : Nat → Nat → Nat
  | 0, _ => 1
  | b + 1, k => n_ri b k * (k + b + 1)
def n_fa : Nat → Nat
  | 0 => 1
  | b + 1 => (b + 1) * n_fa b
theorem n_ri_s (k : Nat) : ∀ b, n_ri (b + 1) k = (k + 1) * n_ri b (k + 1)
  | 0 => by
    show 1 * (k + 0 + 1) = (k + 1) * 1
    omega
  | b + 1 => by
    have ih := n_ri_s k b
    show n_ri (b + 1) k * (k + (b + 1) + 1) = (k + 1) * (n_ri b (k + 1) * (k + 1 + b + 1))
    rw [ih, Nat.mul_assoc, show k + (b + 1) + 1 = k + 1 + b + 1 from by omega]
theorem n_ri_sum (b : Nat) : ∀ k, (b + 1) * q_sum (n_ri b) (k + 1) = n_ri (b + 1) k
  | 0 => by
    show (b + 1) * (0 + n_ri b 0) = n_ri b 0 * (0 + b + 1)
    rw [Nat.zero_add, Nat.zero_add]
    exact Nat.mul_comm _ _
  | k + 1 => by
    have ih := n_ri_sum b k
    have e := n_ri_s k b
    have e5 : (k + 1) * n_ri b (k + 1) + (b + 1) * n_ri b (k + 1) = (k + 1 + b + 1) * n_ri b (k + 1) := (Nat.add_mul (k + 1) (b + 1) (n_ri b (k + 1))).symm
    show (b + 1) * (q_sum (n_ri b) (k + 1) + n_ri b (k + 1)) = n_ri b (k + 1) * (k + 1 + b + 1)
    rw [Nat.mul_add, ih, e, e5]
    exact Nat.mul_comm _ _
theorem n_w0 (g : q_G) (ρ : Nat → Nat) : ∀ k, q_sum (n_wy g ρ 0) (k + 1) = 1
  | 0 => rfl
  | k + 1 => by
    have ih := n_w0 g ρ k
    have e : n_wy g ρ 0 (k + 1) = 0 := if_neg (by omega)
    have e2 : q_sum (n_wy g ρ 0) (k + 1 + 1) = q_sum (n_wy g ρ 0) (k + 1) + n_wy g ρ 0 (k + 1) := rfl
    omega
theorem n_wy_ri (g : q_G) (ρ : Nat → Nat) : ∀ (b k : Nat), n_fa b * n_wy g ρ (b + 1) k ≤ n_ri b k
  | 0, k => by
    have h := n_wy_le g ρ 0 k
    have h2 := n_w0 g ρ k
    show 1 * n_wy g ρ (0 + 1) k ≤ 1
    omega
  | b + 1, k => by
    have h := n_wy_le g ρ (b + 1) k
    have h2 : q_sum (fun i => n_fa b * n_wy g ρ (b + 1) i) (k + 1) ≤ q_sum (n_ri b) (k + 1) := q_sum_le (fun i => n_wy_ri g ρ b i) _
    rw [← q_sum_mul] at h2
    have h3 := n_ri_sum b k
    show (b + 1) * n_fa b * n_wy g ρ (b + 1 + 1) k ≤ n_ri (b + 1) k
    rw [← h3, Nat.mul_assoc]
    exact Nat.mul_le_mul_left _ (Nat.le_trans (Nat.mul_le_mul_left _ h) h2)
theorem n_num : ∀ b, b < 9 → ∀ k, k < 41 → n_ri b k < n_fa b * 1000000001 := by decide +kernel
theorem n_wy_cap {g : q_G} {ρ : Nat → Nat} {b k : Nat} (hb : b ≤ 9) (hk : k ≤ 40) : n_wy g ρ b k ≤ 1000000000 := by
  cases b with
  | zero =>
    by_cases d : k = 0
    · rw [show n_wy g ρ 0 k = 1 from if_pos d]
      decide
    · rw [show n_wy g ρ 0 k = 0 from if_neg d]
      decide
  | succ b =>
    have h1 := n_wy_ri g ρ b k
    have h2 := n_num b (by omega) k (by omega)
    have h3 : n_wy g ρ (b + 1) k < 1000000001 := Nat.lt_of_mul_lt_mul_left (a := n_fa b) (Nat.lt_of_le_of_lt h1 h2)
    omega
theorem q_cap_l {v : Nat} (h : v ≤ 1000000000) : q_cap (lN v) = nI v := by
  unfold q_cap
  have h2 : ¬ (1000000000 : Int64) < lN v := fun q => by
    have q2 := (lN_lt (a := 1000000000) (b := v) (by decide) (by omega)).mp q
    omega
  rw [if_neg h2]
  exact lN_i v
def n_V (g : q_G) (ρ : Nat → Nat) (n b : Nat) : Nat := if n_wy g (q_up ρ b 1) (g_n g) n < n_wy g (q_up ρ b 0) (g_n g) n then n_wy g (q_up ρ b 1) (g_n g) n else n_wy g (q_up ρ b 0) (g_n g) n
theorem n_V_le {g : q_G} {ρ : Nat → Nat} {n b : Nat} (hg : g_n g ≤ 9) (hn : n ≤ 40) : n_V g ρ n b ≤ 1000000000 := by
  unfold n_V
  split
  · exact n_wy_cap hg hn
  · exact n_wy_cap hg hn
theorem n_V_I {g : q_G} {ρ : Nat → Nat} {n b : Nat} (hg : g_n g ≤ 9) (hn : n ≤ 40) : q_neV g ρ n b = nI (n_V g ρ n b) := by
  have h0 := n_wy_cap (g := g) (ρ := q_up ρ b 0) hg hn
  have h1 := n_wy_cap (g := g) (ρ := q_up ρ b 1) hg hn
  unfold q_neV n_V
  rw [n_wy_l, n_wy_l, q_cap_l h0, q_cap_l h1]
  generalize n_wy g (q_up ρ b 0) (g_n g) n = v0 at h0 ⊢
  generalize n_wy g (q_up ρ b 1) (g_n g) n = v1 at h1 ⊢
  by_cases d : v1 < v0
  · have d2 : ¬ nI v0 < nI v1 := nI_nlt (by omega) (by omega)
    rw [if_pos d, if_neg d2]
  · by_cases e : v0 < v1
    · have d2 : nI v0 < nI v1 := nI_lt e (by omega)
      rw [if_neg d, if_pos d2]
    · have d2 : v0 = v1 := by omega
      subst d2
      have d3 : ¬ nI v0 < nI v0 := nI_nlt (by omega) (by omega)
      rw [if_neg d, if_neg d3]
theorem n_V_l {g : q_G} {ρ : Nat → Nat} {n b : Nat} (hg : g_n g ≤ 9) (hn : n ≤ 40) : q_nlV g ρ n b = lN (n_V g ρ n b) := by
  have h0 := n_wy_cap (g := g) (ρ := q_up ρ b 0) hg hn
  have h1 := n_wy_cap (g := g) (ρ := q_up ρ b 1) hg hn
  unfold q_nlV n_V
  rw [n_wy_l, n_wy_l]
  generalize n_wy g (q_up ρ b 0) (g_n g) n = v0 at h0 ⊢
  generalize n_wy g (q_up ρ b 1) (g_n g) n = v1 at h1 ⊢
  by_cases d : v1 < v0
  · have d2 : lN v1 < lN v0 := (lN_lt (by omega) (by omega)).mpr d
    rw [if_pos d, if_pos d2]
  · have d2 : ¬ lN v1 < lN v0 := fun q => d ((lN_lt (by omega) (by omega)).mp q)
    rw [if_neg d, if_neg d2]
theorem n_ne {V : Nat → Int32} {V' : Nat → Int64} {ρ v : Nat → Nat} (hV : ∀ b, V b = nI (v b)) (hV' : ∀ b, V' b = lN (v b)) (hv : ∀ b, v b ≤ 1000000000) : ∀ m, (((q_ne V ρ m).1 = -1 ∧ (q_nl V' ρ m).1 = -1) ∨ ∃ x : Nat, x ≤ 1000000000 ∧ (q_ne V ρ m).1 = nI x ∧ (q_nl V' ρ m).1 = lN x) ∧ (q_nl V' ρ m).2 = (q_ne V ρ m).2
  | 0 => ⟨Or.inl ⟨rfl, rfl⟩, rfl⟩
  | b + 1 => by
    obtain ⟨h1, h2⟩ := n_ne (ρ := ρ) hV hV' hv b
    have key : (q_ne V ρ b).1 < V b ↔ (q_nl V' ρ b).1 < V' b := by
      have hb := hv b
      rw [hV, hV']
      rcases h1 with ⟨e1, e2⟩ | ⟨x, hx, e1, e2⟩
      · rw [e1, e2, Int32.lt_iff_toInt_lt, Int64.lt_iff_toInt_lt, nI_toInt (by omega), lN_toInt (by omega), show (-1 : Int32).toInt = -1 from by decide, show (-1 : Int64).toInt = -1 from by decide]
      · rw [e1, e2, nI_ltI (by omega) (by omega), lN_lt (by omega) (by omega)]
    rw [q_ne, q_nl]
    by_cases d : ρ b = 2 ∧ (q_ne V ρ b).1 < V b
    · have d2 : ρ b = 2 ∧ (q_nl V' ρ b).1 < V' b := ⟨d.1, key.mp d.2⟩
      rw [if_pos d, if_pos d2]
      exact ⟨Or.inr ⟨v b, hv b, hV b, hV' b⟩, rfl⟩
    · have d2 : ¬ (ρ b = 2 ∧ (q_nl V' ρ b).1 < V' b) := fun q => d ⟨q.1, key.mpr q.2⟩
      rw [if_neg d, if_neg d2]
      exact ⟨h1, h2⟩
theorem an_next {A : q_A} {a : Int32} (ho : a_ok A) : (s_neC A a).2 = (s_neR A a).2 := by
  unfold s_neC s_neR
  by_cases h1 : a < 0
  · rw [if_pos h1, if_pos h1]
  · rw [if_neg h1, if_neg h1]
    by_cases h4 : 40 < a
    · rw [if_pos h4, if_pos h4]
    · rw [if_neg h4, if_neg h4]
      by_cases h5 : q_isR A
      · rw [if_pos h5, if_pos h5]
        obtain ⟨n, hn, rfl⟩ := nI_of2 (n := 40) (M := 40) rfl h1 (Int32.not_lt.mp h4)
        rw [nI_clamp (by omega)]
        exact (n_ne (ρ := a_rf A) (v := n_V (a_g A) (a_rf A) n) (fun b => n_V_I ho.1.1 hn) (fun b => n_V_l ho.1.1 hn) (fun b => n_V_le ho.1.1 hn) _).2
      · rw [if_neg h5, if_neg h5]
end
section
-- == 83.bound
/-! How far purses and moves can have come behind so many calls; the same bowl sown again and again. -/
abbrev b_p (G : q_G × Nat) : Prop := ∀ i, g_π G.1 i ≤ G.2
theorem g_mv_pi (g : q_G) (b i : Nat) : g_π (g_mv g b) i ≤ g_π g i + 1 := by
  show q_p1 (g_v g b).1 (g_π g) (g_t g) (g_v g b).2.2.2 i ≤ _
  unfold q_p1
  split
  · unfold q_up
    split
    · rename_i h
      rw [h]
      exact Nat.le_refl _
    · exact Nat.le_add_right _ _
  · exact Nat.le_add_right _ _
theorem b_ms2 {t : Nat → Nat} : ∀ (k p : Nat) (G G' : q_G × Nat), b_p G → q_ms2 t k p G = some G' → b_p G' ∧ G'.2 ≤ G.2 + k
  | 0, p, G, G', h, e => by
    have e2 : G = G' := Option.some.inj e
    subst e2
    exact ⟨h, Nat.le_refl _⟩
  | k + 1, p, G, G', h, e => by
    unfold q_ms2 at e
    split at e
    · have h2 := b_ms2 k (p + 1) (g_mv G.1 (t p - 48), G.2 + 1) G' (fun i => by
        have h3 := h i
        have h4 := g_mv_pi G.1 (t p - 48) i
        show g_π (g_mv G.1 (t p - 48)) i ≤ G.2 + 1
        omega) e
      refine ⟨h2.1, ?_⟩
      have h5 : G'.2 ≤ G.2 + 1 + k := h2.2
      omega
    · cases e
theorem b_do {t : Nat → Nat} {s : Nat} {G G' : q_G × Nat} (h : b_p G) (e : q_do t s G = some G') : b_p G' ∧ G'.2 ≤ G.2 + q_dn t s := by
  unfold q_do at e
  split at e
  · split at e
    · cases e
    · have e2 := Option.some.inj e
      subst e2
      exact ⟨h, Nat.le_add_right _ _⟩
  · split at e
    · exact b_ms2 _ _ _ _ h e
    · split at e
      · split at e
        · have e2 := Option.some.inj e
          subst e2
          exact ⟨h, Nat.le_add_right _ _⟩
        · cases e
      · split at e
        · split at e
          · cases e
          · have e2 := Option.some.inj e
            subst e2
            exact ⟨h, Nat.le_add_right _ _⟩
        · split at e
          · split at e
            · cases e
            · have e2 := Option.some.inj e
              subst e2
              exact ⟨h, Nat.le_add_right _ _⟩
          · split at e
            · cases e
            · have e2 := Option.some.inj e
              subst e2
              exact ⟨h, Nat.le_add_right _ _⟩
theorem b_dn {L : Nat} {ℓ : Nat → Nat} {s : Nat} (hs : s < L) : s + q_dn (q_t L ℓ) s < L ∨ q_dn (q_t L ℓ) s = 0 := by
  by_cases d : q_dn (q_t L ℓ) s = 0
  · exact Or.inr d
  · refine Or.inl ?_
    have h := q_df_dg (q_t L ℓ) (q_md (q_t L ℓ s)) (q_p0 (q_t L ℓ) s) (q_dn (q_t L ℓ) s - 1) (by show q_dn (q_t L ℓ) s - 1 < q_dn (q_t L ℓ) s; omega)
    have hp : s + 1 ≤ q_p0 (q_t L ℓ) s := by
      unfold q_p0
      split <;> omega
    have h2 := h.2
    rcases Nat.lt_or_ge (q_p0 (q_t L ℓ) s + (q_dn (q_t L ℓ) s - 1)) L with k | k
    · omega
    · exfalso
      have h3 : q_t L ℓ (q_p0 (q_t L ℓ) s + (q_dn (q_t L ℓ) s - 1)) = 256 := if_neg (by omega)
      omega
theorem b_rn {L : Nat} {ℓ : Nat → Nat} : ∀ (k s : Nat) (G G' : q_G × Nat), b_p G → q_rn (q_t L ℓ) L k s G = .inr G' → b_p G' ∧ G'.2 ≤ G.2 + (L - s)
  | 0, s, G, G', h, e => by
    have e2 := Sum.inr.inj e
    subst e2
    exact ⟨h, Nat.le_add_right _ _⟩
  | k + 1, s, G, G', h, e => by
    unfold q_rn at e
    split at e
    · rename_i hs
      split at e
      · cases e
      · rename_i G1 h1
        obtain ⟨o1, o2⟩ := b_do h h1
        obtain ⟨r1, r2⟩ := b_rn k _ G1 G' o1 e
        refine ⟨r1, ?_⟩
        have hd := b_dn (L := L) (ℓ := ℓ) hs
        have he : s + 1 + q_dn (q_t L ℓ) s ≤ q_ed (q_t L ℓ) s := by
          unfold q_ed q_p0
          split <;> omega
        omega
    · have e2 := Sum.inr.inj e
      subst e2
      exact ⟨h, Nat.le_add_right _ _⟩
/-- behind N calls -/
def a_b (N : Nat) (A : q_A) : Prop := (a_mv A + a_lc A ≤ N ∧ ∀ i, g_π (a_g A) i ≤ a_mv A) ∧ ∀ g m, a_pi A = some (g, m) → m + a_lc A ≤ N ∧ ∀ i, g_π g i ≤ m
section BND
variable {A : q_A} {a b : Int32} {N : Nat}
theorem a_b.up (h : a_b N A) : a_b (N + 1) A := ⟨⟨Nat.le_succ_of_le h.1.1, h.1.2⟩, fun g m e => ⟨Nat.le_succ_of_le (h.2 g m e).1, (h.2 g m e).2⟩⟩
theorem ab_letter (h : a_b N A) : a_b (N + 1) (s_letter A a).1 := by
  unfold s_letter
  split
  · exact h.up
  · split
    · exact h.up
    · obtain ⟨⟨h1, h2⟩, h3⟩ := h
      refine ⟨⟨?_, h2⟩, fun g m e => ⟨?_, (h3 g m e).2⟩⟩
      · show a_mv A + (a_lc A + 1) ≤ N + 1
        omega
      · have h4 := (h3 g m e).1
        show m + (a_lc A + 1) ≤ N + 1
        omega
theorem ab_0 (h : a_b N A) : a_b (N + 1) (A.1, A.2.1, (0, a_lf A), A.2.2.2) := by
  obtain ⟨⟨h1, h2⟩, h3⟩ := h
  refine ⟨⟨?_, h2⟩, fun g m e => ⟨?_, (h3 g m e).2⟩⟩
  · show a_mv A + 0 ≤ N + 1
    omega
  · have h4 := (h3 g m e).1
    show m + 0 ≤ N + 1
    omega
theorem ab_game (h : a_b N A) : a_b (N + 1) (s_game A).1 := by
  unfold s_game
  split
  · exact ab_0 h
  · split
    · exact ab_0 h
    · rename_i G hrn
      have h0 := ab_0 h
      obtain ⟨⟨h1, h2⟩, h3⟩ := h
      obtain ⟨o1, o2⟩ := b_rn _ _ _ _ h2 hrn
      refine ⟨⟨?_, o1⟩, h0.2⟩
      have o3 : G.2 ≤ a_mv A + (a_lc A - 0) := o2
      show G.2 + 0 ≤ N + 1
      omega
theorem ab_move (h : a_b N A) : a_b (N + 1) (s_move A a).1 := by
  unfold s_move
  split
  · split
    · split
      · exact h.up
      · obtain ⟨⟨h1, h2⟩, h3⟩ := h
        refine ⟨⟨?_, fun i => ?_⟩, fun g m e => ⟨Nat.le_succ_of_le (h3 g m e).1, (h3 g m e).2⟩⟩
        · show a_mv A + 1 + a_lc A ≤ N + 1
          omega
        · have h4 := h2 i
          have h5 := g_mv_pi (a_g A) a.toNatClampNeg i
          show g_π (g_mv (a_g A) a.toNatClampNeg) i ≤ a_mv A + 1
          omega
    · exact h.up
  · exact h.up
theorem ab_image (h : a_b N A) : a_b (N + 1) (s_image A).1 := by
  refine ⟨h.up.1, fun g m e => ?_⟩
  have e2 := Option.some.inj e
  have e3 : a_g A = g := congrArg Prod.fst e2
  have e4 : a_mv A = m := congrArg Prod.snd e2
  rw [← e3, ← e4]
  exact h.up.1
theorem ab_on (h : a_b N A) : a_b (N + 1) (s_on A).1 := by
  unfold s_on
  split
  · exact h.up
  · rename_i p hp
    refine ⟨?_, h.up.2⟩
    exact h.up.2 p.1 p.2 hp
theorem ab_put (h : a_b N A) : a_b (N + 1) (s_put A a b).1 := by
  unfold s_put
  repeat' split
  all_goals exact h.up
theorem ab_set (h : a_b N A) : a_b (N + 1) (s_set A a b).1 := by
  unfold s_set
  by_cases e0 : a < 0 ∨ 2 < a
  · rw [if_pos e0]
    exact h.up
  · rw [if_neg e0]
    by_cases h1 : b < (if a = 0 then 1 else 0)
    · rw [if_pos h1]
      exact h.up
    · rw [if_neg h1]
      by_cases h2 : (if a = 0 then 9 else 1) < b
      · rw [if_pos h2]
        exact h.up
      · rw [if_neg h2]
        show a_b (N + 1) (s_g A (g_set (a_g A) a b.toNatClampNeg))
        unfold g_set
        by_cases d0 : a = 0
        · rw [if_pos d0]
          exact h.up
        · rw [if_neg d0]
          by_cases d1 : a = 1
          · rw [if_pos d1]
            exact h.up
          · rw [if_neg d1]
            exact h.up
theorem ab_row (h : a_b N A) : a_b (N + 1) (s_row A a).1 := by
  unfold s_row
  repeat' split
  all_goals exact h.up
theorem ab_judge (h : a_b N A) : a_b (N + 1) (s_judge A).1 := h.up
theorem ab_bowl (h : a_b N A) : a_b (N + 1) (s_bowl A a b).1 := by
  unfold s_bowl
  repeat' split
  all_goals exact h.up
theorem ab_by (h : a_b N A) : a_b (N + 1) (s_by A a b).1 := by
  unfold s_by
  repeat' split
  all_goals exact h.up
theorem ab_behind (h : a_b N A) : a_b (N + 1) (s_behind A a b).1 := by
  unfold s_behind
  repeat' split
  all_goals exact h.up
theorem ab_empties (h : a_b N A) : a_b (N + 1) (s_empties A a).1 := by
  unfold s_empties
  repeat' split
  all_goals exact h.up
theorem ab_best (h : a_b N A) : a_b (N + 1) (s_bestC A a).1 := by
  unfold s_bestC
  repeat' split
  all_goals exact h.up
theorem ab_worth (h : a_b N A) : a_b (N + 1) (s_worthC A a).1 := by
  unfold s_worthC
  repeat' split
  all_goals exact h.up
theorem ab_back (h : a_b N A) : a_b (N + 1) (s_backC A a).1 := by
  unfold s_backC
  repeat' split
  all_goals exact h.up
theorem ab_loop (h : a_b N A) : a_b (N + 1) (n_loop A a b) := by
  unfold n_loop
  repeat' split
  all_goals exact h.up
theorem ab_toEmpty (h : a_b N A) : a_b (N + 1) (s_teC A a b).1 := by
  unfold s_teC
  repeat' split
  all_goals exact h.up
theorem ab_price (h : a_b N A) : a_b (N + 1) (s_priceC A a).1 := by
  unfold s_priceC
  repeat' split
  all_goals exact h.up
theorem ab_sold (h : a_b N A) : a_b (N + 1) (s_soldC A a).1 := by
  unfold s_soldC
  repeat' split
  all_goals exact h.up
theorem ab_sounds (h : a_b N A) : a_b (N + 1) (s_soR A a).1 := by
  unfold s_soR
  repeat' split
  all_goals exact h.up
theorem ab_next (h : a_b N A) : a_b (N + 1) (s_neC A a).1 := by
  unfold s_neC
  repeat' split
  all_goals exact h.up
theorem ab_played (h : a_b N A) : a_b (N + 1) (s_played A a).1 := by
  unfold s_played
  repeat' split
  all_goals exact h.up
theorem ab_lots (h : a_b N A) : a_b (N + 1) (s_lots A a b).1 := by
  unfold s_lots
  repeat' split
  all_goals exact h.up
end BND
-- the same bowl again and again
def b_rel (g u : q_G) : Prop := g_κ g = g_κ u ∧ g_β g = g_β u ∧ g_n g = g_n u ∧ g_f g = g_f u ∧ g_l g = g_l u
theorem q_tk1_0 {β : Nat → Nat} {pt : Nat} (h : pt < 999) (l : Option Nat) : q_tk1 β pt l = q_tk1 β 0 l := by
  cases l with
  | none => rfl
  | some p =>
    show (decide (β p = 1) && decide (pt < 999)) = (decide (β p = 1) && decide (0 < 999))
    rw [decide_eq_true h]
    rfl
theorem b_rel_v {g u : q_G} (h : b_rel g u) (b : Nat) : g_v g b = g_v u b := by
  obtain ⟨h1, h2, h3, h4, h5⟩ := h
  show q_mv (g_κ g) (g_n g) (g_f g) (g_l g) (g_β g) b = q_mv (g_κ u) (g_n u) (g_f u) (g_l u) (g_β u) b
  rw [h1, h2, h3, h4, h5]
theorem b_rel_mv {g u : q_G} (h : b_rel g u) (hp : ∀ i, g_π g i < 999) (b : Nat) : b_rel (g_mv g b) (g_as u b) := by
  have hv := b_rel_v h b
  obtain ⟨h1, h2, h3, h4, h5⟩ := h
  refine ⟨h1, ?_, h3, h4, h5⟩
  show q_b1 (g_v g b).1 (g_π g (g_t g)) (g_v g b).2.2.2 = q_b1 (g_v u b).1 0 (g_v u b).2.2.2
  rw [hv]
  unfold q_b1
  rw [q_tk1_0 (hp (g_t g))]
theorem b_bk {g0 : q_G} {b : Nat} : ∀ (m i : Nat) (g : q_G), b_rel g (g_sq b i g0) → (∀ j, g_π g j + m ≤ 998) → q_bkC b g0 m (i + 1) g = q_bk b g0 (g_rc b m i g0 - i) (i + 1)
  | 0, i, g, h, hp => by
    have e : g_rc b 0 i g0 - i = 0 := Nat.sub_self i
    rw [e]
    rfl
  | m + 1, i, g, h, hp => by
    have hc : g_can g b ↔ g_can (g_sq b i g0) b := by
      show (2 ≤ g_n g ∧ b < g_n g ∧ 0 < g_β g b) ↔ (2 ≤ g_n (g_sq b i g0) ∧ b < g_n (g_sq b i g0) ∧ 0 < g_β (g_sq b i g0) b)
      rw [h.2.1, h.2.2.1]
    by_cases d : g_can g b
    · have d2 := hc.mp d
      have e : g_rc b (m + 1) i g0 = g_rc b m (i + 1) g0 := if_pos d2
      have hr := g_rc_le b m (i + 1) g0
      have e2 : g_rc b m (i + 1) g0 - i = (g_rc b m (i + 1) g0 - (i + 1)) + 1 := by omega
      have h2 : b_rel (g_mv g b) (g_sq b (i + 1) g0) := b_rel_mv h (fun j => by have := hp j; omega) b
      have ih := b_bk m (i + 1) (g_mv g b) h2 (fun j => by have := hp j; have := g_mv_pi g b j; omega)
      rw [e, e2, q_bkC, q_bk, if_pos d, ih, h2.2.1]
      by_cases k : ∀ x, x < g_n g0 → g_β (g_sq b (i + 1) g0) x = g_β g0 x
      · have k2 : ∀ x, x < g_n g0 → g_β g0 x = g_β (g_sq b (i + 1) g0) x := fun x hx => (k x hx).symm
        rw [if_pos k, if_pos k2]
      · have k2 : ¬ ∀ x, x < g_n g0 → g_β g0 x = g_β (g_sq b (i + 1) g0) x := fun q => k (fun x hx => (q x hx).symm)
        rw [if_neg k, if_neg k2]
    · have d2 : ¬ g_can (g_sq b i g0) b := fun q => d (hc.mpr q)
      have e : g_rc b (m + 1) i g0 = i := if_neg d2
      rw [e, Nat.sub_self, q_bkC, if_neg d]
      rfl
theorem an_back {A : q_A} {a : Int32} {N : Nat} (hb : a_b N A) (hN : N ≤ 700) : (s_backC A a).2 = (s_backR A a).2 := by
  unfold s_backC s_backR
  by_cases h : q_in (g_n (a_g A)) a
  · rw [if_pos h, if_pos h]
    exact b_bk (g0 := a_g A) (b := a.toNatClampNeg) 200 0 (a_g A) ⟨rfl, rfl, rfl, rfl, rfl⟩ (fun j => by have h1 := hb.1.1; have h2 := hb.1.2 j; omega)
  · rw [if_neg h, if_neg h]
end
section
-- == 84.slots
/-! The table of rings: what is kept is found again. -/
def e_it : Nat → Int32 → Int32
  | 0, s => s
  | i + 1, s => e_it i (s + 1)
theorem e_sj (s : Int32) : q_sj s = s.toBitVec.toNat % 16384 := by
  unfold q_sj
  rw [pk_and s (m := 16383) 14 (by decide)]
  have h := Nat.mod_lt s.toBitVec.toNat (show 0 < 2 ^ 14 from by decide)
  exact nI_clamp (by omega)
theorem e_sj1 (s : Int32) : q_sj (s + 1) = (q_sj s + 1) % 16384 := by
  have h1 : (1 : Int32).toBitVec.toNat = 1 := by decide
  rw [e_sj, e_sj, Int32.toBitVec_add, BitVec.toNat_add, h1]
  omega
theorem e_sjit : ∀ (i : Nat) (s : Int32), q_sj (e_it i s) = (q_sj s + i) % 16384
  | 0, s => by
    have h := q_sj_lt s
    show q_sj s = (q_sj s + 0) % 16384
    omega
  | i + 1, s => by
    have ih := e_sjit i (s + 1)
    have h1 := e_sj1 s
    show q_sj (e_it i (s + 1)) = _
    rw [ih, h1]
    omega
theorem e_old {n : Nat} {β : Nat → Nat} {fm : Int32} {K : q_K} {p : Nat} (hp : ∀ b, b < n → K.1 p b = β b) : ∀ (k : Nat) (s : Int32), (∃ i, i < k ∧ K.2.2.1 (q_sj (e_it i s)) = p + 1 ∧ ∀ j, j < i → ¬ K.2.2.1 (q_sj (e_it j s)) = 0) → q_kp n β fm k s K = K
  | 0, s, h => by
    obtain ⟨i, hi, _⟩ := h
    exact absurd hi (Nat.not_lt_zero _)
  | k + 1, s, h => by
    obtain ⟨i, hi, h1, h2⟩ := h
    have h0 : ¬ K.2.2.1 (q_sj s) = 0 := by
      cases i with
      | zero =>
        have h3 : K.2.2.1 (q_sj s) = p + 1 := h1
        omega
      | succ i => exact h2 0 (Nat.succ_pos _)
    rw [q_kp]
    by_cases hh : K.2.2.2.1 < 7381
    · rw [if_pos hh, if_neg h0]
      by_cases d : ∀ b, b < n → K.1 (K.2.2.1 (q_sj s) - 1) b = β b
      · rw [if_pos d]
      · rw [if_neg d]
        refine e_old hp k (s + 1) ?_
        cases i with
        | zero =>
          exfalso
          apply d
          have h3 : K.2.2.1 (q_sj s) = p + 1 := h1
          rw [h3]
          exact hp
        | succ i => exact ⟨i, Nat.lt_of_succ_lt_succ hi, h1, fun j hj => h2 (j + 1) (Nat.succ_lt_succ hj)⟩
    · rw [if_neg hh]
def e_ins (β : Nat → Nat) (fm : Int32) (c : Nat) (K : q_K) : q_K := (fun p => if p = K.2.2.2.1 then β else K.1 p, upd K.2.1 K.2.2.2.1 fm, q_up K.2.2.1 c (K.2.2.2.1 + 1), K.2.2.2.1 + 1, K.2.2.2.2)
theorem e_new {n : Nat} {β : Nat → Nat} {fm : Int32} {K : q_K} (hh : K.2.2.2.1 < 7381) (hs : ∀ j, K.2.2.1 j ≤ K.2.2.2.1) (hno : ∀ p, p < K.2.2.2.1 → ¬ ∀ b, b < n → K.1 p b = β b) : ∀ (k : Nat) (s : Int32), (∃ i, i < k ∧ K.2.2.1 (q_sj (e_it i s)) = 0) → ∃ i, i < k ∧ K.2.2.1 (q_sj (e_it i s)) = 0 ∧ (∀ j, j < i → ¬ K.2.2.1 (q_sj (e_it j s)) = 0) ∧ q_kp n β fm k s K = e_ins β fm (q_sj (e_it i s)) K
  | 0, s, h => by
    obtain ⟨i, hi, _⟩ := h
    exact absurd hi (Nat.not_lt_zero _)
  | k + 1, s, h => by
    by_cases h0 : K.2.2.1 (q_sj s) = 0
    · refine ⟨0, Nat.succ_pos _, h0, fun j hj => absurd hj (Nat.not_lt_zero _), ?_⟩
      rw [q_kp, if_pos hh, if_pos h0]
      rfl
    · have hx := hs (q_sj s)
      have hd := hno (K.2.2.1 (q_sj s) - 1) (by omega)
      obtain ⟨i, hi, hz⟩ := h
      cases i with
      | zero => exact absurd hz h0
      | succ i =>
        obtain ⟨i2, a0, a1, a2, a3⟩ := e_new hh hs hno k (s + 1) ⟨i, Nat.lt_of_succ_lt_succ hi, hz⟩
        refine ⟨i2 + 1, Nat.succ_lt_succ a0, a1, fun j hj => ?_, ?_⟩
        · cases j with
          | zero => exact h0
          | succ j => exact a2 j (Nat.lt_of_succ_lt_succ hj)
        · rw [q_kp, if_pos hh, if_neg h0, if_neg hd]
          exact a3
def e_cn (s : Nat → Nat) : Nat → Nat
  | 0 => 0
  | n + 1 => e_cn s n + (if s n = 0 then 0 else 1)
theorem e_cn_all {s : Nat → Nat} : ∀ n, (∀ j, j < n → ¬ s j = 0) → e_cn s n = n
  | 0, _ => rfl
  | n + 1, h => by
    have ih := e_cn_all n (fun j hj => h j (by omega))
    rw [e_cn, ih, if_neg (h n (Nat.lt_succ_self n))]
theorem e_cn_up {s : Nat → Nat} {c v : Nat} : ∀ n, e_cn (q_up s c v) n ≤ e_cn s n + (if c < n then 1 else 0)
  | 0 => Nat.zero_le _
  | n + 1 => by
    have ih := e_cn_up (s := s) (c := c) (v := v) n
    rw [e_cn, e_cn]
    by_cases d : n = c
    · rw [if_neg (show ¬ c < n by omega)] at ih
      rw [if_pos (show c < n + 1 by omega)]
      have h1 : (if q_up s c v n = 0 then 0 else 1) ≤ 1 := by split <;> omega
      omega
    · rw [q_up_n _ _ d]
      by_cases d2 : c < n
      · rw [if_pos d2] at ih
        rw [if_pos (show c < n + 1 by omega)]
        omega
      · rw [if_neg d2] at ih
        rw [if_neg (show ¬ c < n + 1 by omega)]
        omega
theorem e_free {s : Nat → Nat} {N : Nat} (hN : N = 16384) (hcn : e_cn s N < N) (x : Int32) : ∃ i, i < N ∧ s (q_sj (e_it i x)) = 0 := by
  by_cases h : ∃ i, i < N ∧ s (q_sj (e_it i x)) = 0
  · exact h
  · exfalso
    have h2 : ∀ j, j < N → ¬ s j = 0 := by
      intro j hj e
      apply h
      have h3 := q_sj_lt x
      refine ⟨(j + 16384 - q_sj x) % 16384, ?_, ?_⟩
      · omega
      · rw [e_sjit, show (q_sj x + (j + 16384 - q_sj x) % 16384) % 16384 = j from by omega]
        exact e
    have h4 := e_cn_all N h2
    omega
abbrev e_h (n : Nat) (β : Nat → Nat) : Int32 := q_hs (lN (q_eb β 0 n))
def e_t (n : Nat) (K : q_K) : Prop := (∀ p, p < K.2.2.2.1 → ∃ i, i < 16384 ∧ K.2.2.1 (q_sj (e_it i (e_h n (K.1 p)))) = p + 1 ∧ ∀ j, j < i → ¬ K.2.2.1 (q_sj (e_it j (e_h n (K.1 p)))) = 0) ∧ (∀ N, N = 16384 → e_cn K.2.2.1 N ≤ K.2.2.2.1) ∧ (∀ j, K.2.2.1 j ≤ K.2.2.2.1)
theorem e_t_ins {n : Nat} {β : Nat → Nat} {fm : Int32} {K : q_K} {i : Nat} (ht : e_t n K) (hi : i < 16384) (h0 : K.2.2.1 (q_sj (e_it i (e_h n β))) = 0) (h1 : ∀ j, j < i → ¬ K.2.2.1 (q_sj (e_it j (e_h n β))) = 0) : e_t n (e_ins β fm (q_sj (e_it i (e_h n β))) K) := by
  obtain ⟨t1, t2, t3⟩ := ht
  have nz : ∀ x, ¬ K.2.2.1 x = 0 → ¬ q_up K.2.2.1 (q_sj (e_it i (e_h n β))) (K.2.2.2.1 + 1) x = 0 := by
    intro x hx
    unfold q_up
    split
    · exact Nat.succ_ne_zero _
    · exact hx
  refine ⟨fun p hp => ?_, fun N hN => ?_, fun j => ?_⟩
  · by_cases d : p = K.2.2.2.1
    · have e : (e_ins β fm (q_sj (e_it i (e_h n β))) K).1 p = β := if_pos d
      rw [e]
      refine ⟨i, hi, ?_, fun j hj => nz _ (h1 j hj)⟩
      show q_up K.2.2.1 (q_sj (e_it i (e_h n β))) (K.2.2.2.1 + 1) (q_sj (e_it i (e_h n β))) = p + 1
      rw [q_up_s, d]
    · have e : (e_ins β fm (q_sj (e_it i (e_h n β))) K).1 p = K.1 p := if_neg d
      have hp2 : p < K.2.2.2.1 + 1 := hp
      rw [e]
      obtain ⟨x, x1, x2, x3⟩ := t1 p (by omega)
      refine ⟨x, x1, ?_, fun j hj => nz _ (x3 j hj)⟩
      show q_up K.2.2.1 (q_sj (e_it i (e_h n β))) (K.2.2.2.1 + 1) (q_sj (e_it x (e_h n (K.1 p)))) = p + 1
      rw [q_up_n _ _ (fun q => by rw [q, h0] at x2; omega)]
      exact x2
  · have h2 := t2 N hN
    have h3 := e_cn_up (s := K.2.2.1) (c := q_sj (e_it i (e_h n β))) (v := K.2.2.2.1 + 1) N
    have h4 : (if q_sj (e_it i (e_h n β)) < N then 1 else 0) ≤ 1 := by split <;> omega
    show e_cn (q_up K.2.2.1 (q_sj (e_it i (e_h n β))) (K.2.2.2.1 + 1)) N ≤ K.2.2.2.1 + 1
    omega
  · show q_up K.2.2.1 (q_sj (e_it i (e_h n β))) (K.2.2.2.1 + 1) j ≤ K.2.2.2.1 + 1
    exact q_up_le (fun x => Nat.le_succ_of_le (t3 x)) (Nat.le_refl _) j
theorem e_keep {n : Nat} {β : Nat → Nat} {fm : Int32} {K : q_K} (ht : e_t n K) (hh : K.2.2.2.1 < 7381) (ha : ∀ p, p < K.2.2.2.1 → (∀ b, b < n → K.1 p b = β b) → K.1 p = β) : ((∃ p, p < K.2.2.2.1 ∧ K.1 p = β) ∧ q_kp n β fm 16384 (e_h n β) K = K) ∨ ((∀ p, p < K.2.2.2.1 → ¬ K.1 p = β) ∧ ∃ c, q_kp n β fm 16384 (e_h n β) K = e_ins β fm c K ∧ e_t n (e_ins β fm c K)) := by
  by_cases h : ∃ p, p < K.2.2.2.1 ∧ K.1 p = β
  · refine Or.inl ⟨h, ?_⟩
    obtain ⟨p, hp, e⟩ := h
    have h2 := ht.1 p hp
    rw [e] at h2
    exact e_old (p := p) (fun b _ => by rw [e]) _ _ h2
  · have hno : ∀ p, p < K.2.2.2.1 → ¬ K.1 p = β := fun p hp e => h ⟨p, hp, e⟩
    refine Or.inr ⟨hno, ?_⟩
    have h3 : ∃ N : Nat, N = 16384 := ⟨_, rfl⟩
    obtain ⟨N, hN⟩ := h3
    have hf := e_free (s := K.2.2.1) hN (by have := ht.2.1 N hN; omega) (e_h n β)
    rw [hN] at hf
    obtain ⟨i, a0, a1, a2, a3⟩ := e_new (n := n) (β := β) (fm := fm) hh ht.2.2 (fun p hp q => hno p hp (ha p hp q)) 16384 (e_h n β) hf
    exact ⟨_, a3, e_t_ins ht a0 a1 a2⟩
end
section
-- == 85.search
/-! The fewest moves that empty a bowl: level by level with rings kept once, or deeper and deeper: the same. -/
abbrev e_T (g : q_G) (β : Nat → Nat) : q_G := (g_κ g, β, g.2.2)
abbrev e_s (g : q_G) (β : Nat → Nat) (b : Nat) : Nat → Nat := g_β (g_mv (e_T g β) b)
abbrev e_c (g : q_G) (β : Nat → Nat) (b : Nat) : Prop := 2 ≤ g_n g ∧ b < g_n g ∧ 0 < β b
abbrev e_a (g : q_G) (β : Nat → Nat) : Prop := ∀ j, g_n g ≤ j → β j = g_β g j
/-- w can be emptied in k moves -/
def e_D (g : q_G) (w : Nat) : Nat → (Nat → Nat) → Prop
  | 0, β => β w = 0
  | k + 1, β => β w = 0 ∨ ∃ b, e_c g β b ∧ e_D g w k (e_s g β b)
theorem e_D_0 {g : q_G} {w : Nat} {β : Nat → Nat} (h : β w = 0) : ∀ k, e_D g w k β
  | 0 => h
  | k + 1 => Or.inl h
theorem e_D_up {g : q_G} {w : Nat} : ∀ (k : Nat) (β : Nat → Nat), e_D g w k β → e_D g w (k + 1) β
  | 0, β, h => Or.inl h
  | k + 1, β, h => by
    rcases h with h | ⟨b, h1, h2⟩
    · exact Or.inl h
    · exact Or.inr ⟨b, h1, e_D_up k _ h2⟩
theorem e_D_le {g : q_G} {w : Nat} {β : Nat → Nat} {a : Nat} (h : e_D g w a β) : ∀ d, e_D g w (a + d) β
  | 0 => h
  | d + 1 => e_D_up _ _ (e_D_le h d)
theorem e_T_ok {g : q_G} {β : Nat → Nat} (h : g_ok 99 g) (ha : e_a g β) (h9 : ∀ j, β j ≤ 99) : g_ok 99 (e_T g β) := by
  obtain ⟨a1, a2, a3, a4, a5, a6, a7, a8, a9⟩ := h
  refine ⟨a1, a2, a3, a4, a5, h9, a7, fun i hi => ⟨(a8 i hi).1, ?_⟩, a9⟩
  show β i = 0
  rw [ha i (by omega)]
  exact (a8 i hi).2
theorem e_s_ok {g : q_G} {β : Nat → Nat} {b : Nat} (h : g_ok 99 g) (ha : e_a g β) (h9 : ∀ j, β j ≤ 99) (hb : b < g_n g) : e_a g (e_s g β b) ∧ ∀ j, e_s g β b j ≤ 99 := by
  have ho := e_T_ok h ha h9
  refine ⟨fun j hj => ?_, (g_mv_ok ho (by decide) (by decide) hb).2.2.2.2.2.1⟩
  obtain ⟨v1, v2, v3⟩ := g_v_ok (b := b) ho (by decide) (by decide) hb
  have e1 : (g_v (e_T g β) b).1 j = g_β g j := (v3 j hj).trans (ha j hj)
  show q_b1 (g_v (e_T g β) b).1 (g_π g (g_t g)) (g_v (e_T g β) b).2.2.2 j = g_β g j
  unfold q_b1
  split
  · rename_i hq
    cases hl : (g_v (e_T g β) b).2.2.2 with
    | none =>
      rw [hl] at hq
      cases hq
    | some p =>
      have h2 : p < g_n g := v2 p hl
      have h3 : j ≠ (some p).getD 0 := by
        show j ≠ p
        omega
      rw [q_up_n _ _ h3]
      exact e1
  · exact e1
theorem e_rg {g : q_G} {β : Nat → Nat} (ha : e_a g β) : g_rg g β = e_T g β := by
  have e : (fun b => if b < g_n g then β b else g_β g b) = β := by
    funext b
    split
    · rfl
    · exact (ha b (by omega)).symm
  show (g_κ g, (fun b => if b < g_n g then β b else g_β g b), g.2.2) = (g_κ g, β, g.2.2)
  rw [e]
-- the reference
theorem e_s_eq {g u : q_G} (h : b_rel u (e_T g (g_β u))) (hu : ∀ j, g_π u j < 999) (hg : ∀ j, g_π g j < 999) (b : Nat) : g_β (g_mv u b) = e_s g (g_β u) b := (b_rel_mv h hu b).2.1.trans (b_rel_mv (g := e_T g (g_β u)) (u := e_T g (g_β u)) ⟨rfl, rfl, rfl, rfl, rfl⟩ hg b).2.1.symm
theorem e_fo {c : Nat → Bool} : ∀ (k b : Nat), (q_fo c k b = none ∧ ∀ x, b ≤ x → x < b + k → ¬ c x = true) ∨ (∃ x, q_fo c k b = some x ∧ b ≤ x ∧ x < b + k ∧ c x = true ∧ ∀ y, b ≤ y → y < x → ¬ c y = true)
  | 0, b => Or.inl ⟨rfl, fun x h1 h2 => absurd h2 (by omega)⟩
  | k + 1, b => by
    by_cases d : c b = true
    · refine Or.inr ⟨b, ?_, Nat.le_refl b, by omega, d, fun y h1 h2 => absurd h2 (by omega)⟩
      rw [q_fo, if_pos d]
    · have ih := e_fo (c := c) k (b + 1)
      have e : q_fo c (k + 1) b = q_fo c k (b + 1) := if_neg d
      rw [e]
      rcases ih with ⟨h1, h2⟩ | ⟨x, h1, h2, h3, h4, h5⟩
      · refine Or.inl ⟨h1, fun x a1 a2 => ?_⟩
        by_cases k2 : x = b
        · rw [k2]
          exact d
        · exact h2 x (by omega) (by omega)
      · refine Or.inr ⟨x, h1, by omega, by omega, h4, fun y a1 a2 => ?_⟩
        by_cases k2 : y = b
        · rw [k2]
          exact d
        · exact h5 y (by omega) a2
theorem e_em {g : q_G} {w : Nat} (hg : ∀ j, g_π g j < 999) : ∀ (k : Nat) (u : q_G), b_rel u (e_T g (g_β u)) → (∀ j, g_π u j + k ≤ 998) → (q_em w k u = true ↔ e_D g w k (g_β u))
  | 0, u, h, hp => by
    show decide (g_β u w = 0) = true ↔ g_β u w = 0
    exact decide_eq_true_iff
  | k + 1, u, h, hp => by
    have hn : g_n u = g_n g := h.2.2.1
    have step : ∀ b, (decide (g_can u b) && q_em w k (g_mv u b)) = true ↔ (e_c g (g_β u) b ∧ e_D g w k (e_s g (g_β u) b)) := by
      intro b
      have e1 := e_s_eq h (fun j => by have := hp j; omega) hg b
      have r1 : b_rel (g_mv u b) (e_T g (g_β (g_mv u b))) := ⟨h.1, rfl, h.2.2.1, h.2.2.2.1, h.2.2.2.2⟩
      have ih := e_em (w := w) hg k (g_mv u b) r1 (fun j => by have h1 := hp j; have h2 := g_mv_pi u b j; omega)
      rw [e1] at ih
      rw [Bool.and_eq_true, decide_eq_true_iff, ih]
      show (2 ≤ g_n u ∧ b < g_n u ∧ 0 < g_β u b) ∧ _ ↔ _
      rw [hn]
    have e2 : q_em w (k + 1) u = (decide (g_β u w = 0) || (q_fo (fun b => decide (g_can u b) && q_em w k (g_mv u b)) (g_n u) 0).isSome) := rfl
    rw [e2, Bool.or_eq_true, decide_eq_true_iff]
    show g_β u w = 0 ∨ _ ↔ g_β u w = 0 ∨ ∃ b, e_c g (g_β u) b ∧ e_D g w k (e_s g (g_β u) b)
    rcases e_fo (c := fun b => decide (g_can u b) && q_em w k (g_mv u b)) (g_n u) 0 with ⟨h1, h2⟩ | ⟨x, h1, h2, h3, h4, h5⟩
    · rw [h1]
      constructor
      · intro q
        rcases q with q | q
        · exact Or.inl q
        · cases q
      · intro q
        rcases q with q | ⟨b, q1, q2⟩
        · exact Or.inl q
        · exact absurd ((step b).mpr ⟨q1, q2⟩) (h2 b (Nat.zero_le _) (by have := q1.2.1; omega))
    · rw [h1]
      constructor
      · intro q
        exact Or.inr ⟨x, (step x).mp h4⟩
      · intro q
        exact Or.inr rfl
theorem e_te_no {w : Nat} {g : q_G} {b : Int32} : ∀ (m n : Nat), (∀ x, n ≤ x → x < n + m → ¬ q_em w x g = true) → q_te w g b m n = -9
  | 0, n, h => rfl
  | m + 1, n, h => by
    rw [q_te, if_neg (h n (Nat.le_refl n) (by omega))]
    exact e_te_no m (n + 1) (fun x h1 h2 => h x (by omega) (by omega))
theorem e_te_yes {w : Nat} {g : q_G} {b : Int32} {N : Nat} (hN : q_em w N g = true) (hlt : ∀ x, x < N → ¬ q_em w x g = true) : ∀ (m n : Nat), n ≤ N → N < n + m → q_te w g b m n = if b = 0 then nI N else q_ef w N g (-9)
  | 0, n, h1, h2 => by omega
  | m + 1, n, h1, h2 => by
    rw [q_te]
    by_cases d : n = N
    · subst d
      rw [if_pos hN]
    · rw [if_neg (hlt n (by omega))]
      exact e_te_yes hN hlt m (n + 1) (by omega) (by omega)
/-- what both find: m moves, first f -/
def e_R (g : q_G) (w d f : Nat) : Prop := e_D g w d (g_β g) ∧ (∀ x, x < d → ¬ e_D g w x (g_β g)) ∧ e_c g (g_β g) f ∧ e_D g w (d - 1) (e_s g (g_β g) f) ∧ ∀ y, y < f → e_c g (g_β g) y → ¬ e_D g w (d - 1) (e_s g (g_β g) y)
theorem e_ref {g : q_G} {w d f : Nat} {b : Int32} (hg : ∀ j, g_π g j ≤ 990) (hd1 : 1 ≤ d) (hd5 : d ≤ 5) (h : e_R g w d f) : q_te w g b 6 0 = if b = 0 then nI d else nI f := by
  obtain ⟨r1, r2, r3, r4, r5⟩ := h
  have hg9 : ∀ j, g_π g j < 999 := fun j => by have := hg j; omega
  have em : ∀ k, k ≤ 5 → (q_em w k g = true ↔ e_D g w k (g_β g)) := fun k hk => e_em hg9 k g ⟨rfl, rfl, rfl, rfl, rfl⟩ (fun j => by have := hg j; omega)
  rw [e_te_yes (N := d) ((em d hd5).mpr r1) (fun x hx q => r2 x hx ((em x (by omega)).mp q)) 6 0 (Nat.zero_le _) (by omega)]
  by_cases hb : b = 0
  · rw [if_pos hb, if_pos hb]
  · rw [if_neg hb, if_neg hb]
    obtain ⟨k, rfl⟩ : ∃ k, d = k + 1 := ⟨d - 1, by omega⟩
    have hw : ¬ g_β g w = 0 := fun q => r2 0 (by omega) q
    have step : ∀ x, q_ec w k g x = true ↔ (e_c g (g_β g) x ∧ e_D g w k (e_s g (g_β g) x)) := by
      intro x
      have e1 := e_s_eq (g := g) (u := g) ⟨rfl, rfl, rfl, rfl, rfl⟩ hg9 hg9 x
      have ih := e_em (w := w) hg9 k (g_mv g x) ⟨rfl, rfl, rfl, rfl, rfl⟩ (fun j => by have h1 := hg j; have h2 := g_mv_pi g x j; omega)
      rw [e1] at ih
      show (decide (g_can g x) && q_em w k (g_mv g x)) = true ↔ _
      rw [Bool.and_eq_true, decide_eq_true_iff, ih]
    have e3 : q_ef w (k + 1) g (-9) = (match q_fo (q_ec w k g) (g_n g) 0 with | some b => nI b | none => -9) := if_neg hw
    rw [e3]
    rcases e_fo (c := q_ec w k g) (g_n g) 0 with ⟨h1, h2⟩ | ⟨x, h1, h2, h3, h4, h5⟩
    · exact absurd ((step f).mpr ⟨r3, r4⟩) (h2 f (Nat.zero_le _) (by have := r3.2.1; omega))
    · rw [h1]
      have hx := (step x).mp h4
      have hxf : x = f := by
        rcases Nat.lt_trichotomy x f with q | q | q
        · exact absurd hx.2 (r5 x q hx.1)
        · exact q
        · exact absurd ((step f).mpr ⟨r3, r4⟩) (h5 f (Nat.zero_le _) q)
      rw [hxf]
theorem e_ref_no {g : q_G} {w : Nat} {b : Int32} (hg : ∀ j, g_π g j ≤ 990) (h : ¬ e_D g w 5 (g_β g)) : q_te w g b 6 0 = -9 := by
  refine e_te_no 6 0 (fun x h1 h2 q => h ?_)
  have h3 := (e_em (fun j => by have := hg j; omega) x g ⟨rfl, rfl, rfl, rfl, rfl⟩ (fun j => by have := hg j; omega)).mp q
  have h4 := e_D_le h3 (5 - x)
  rw [show x + (5 - x) = 5 from by omega] at h4
  exact h4
-- the class: a level's children, in their order
abbrev e_lx (p b x y : Nat) : Prop := p < x ∨ (p = x ∧ b < y)
abbrev e_F (K : q_K) (q : Nat) : Nat := (K.2.1 q).toNatClampNeg
/-- a level from l to e: rings R, first moves G of a ring's child -/
def e_V (g : q_G) (w d l e : Nat) (R : Nat → Nat → Nat) (G : Nat → Nat → Nat) : Prop :=
  (∀ p, p < e → e_a g (R p) ∧ ∀ j, R p j ≤ 99) ∧
  (∀ p b, l ≤ p → p < e → e_c g (R p) b → G p b < g_n g ∧ e_c g (g_β g) (G p b) ∧ ∀ t, e_D g w t (e_s g (R p) b) → e_D g w (d - 1 + t) (e_s g (g_β g) (G p b))) ∧
  (∀ b0 t, e_c g (g_β g) b0 → e_D g w (d - 1 + t) (e_s g (g_β g) b0) → ¬ e_D g w (d - 1 + t) (g_β g) → ∃ p b, l ≤ p ∧ p < e ∧ e_c g (R p) b ∧ G p b ≤ b0 ∧ e_D g w t (e_s g (R p) b)) ∧
  (∀ p b x y, l ≤ p → x < e → e_lx p b x y → G p b ≤ G x y) ∧
  (∀ p t, p < e → e_D g w t (R p) → e_D g w (d - 1 + t) (g_β g)) ∧
  ¬ e_D g w (d - 1) (g_β g)
/-- behind all children before (p, b) -/
def e_N (g : q_G) (w d l e : Nat) (R : Nat → Nat → Nat) (R1 : Nat → Int32) (G : Nat → Nat → Nat) (p b : Nat) (K : q_K) : Prop :=
  e_t (g_n g) K ∧ (e ≤ K.2.2.2.1 ∧ K.2.2.2.1 ≤ e + 9 * (p - l) + b) ∧ K.2.2.2.2 = (-9, -9) ∧
  (∀ q, q < e → K.1 q = R q ∧ K.2.1 q = R1 q) ∧
  (∀ q, q < K.2.2.2.1 → e_a g (K.1 q) ∧ ∀ j, K.1 q j ≤ 99) ∧
  (∀ q, e ≤ q → q < K.2.2.2.1 → ∃ x y, e_lx x y p b ∧ l ≤ x ∧ x < e ∧ e_c g (R x) y ∧ K.1 q = e_s g (R x) y ∧ K.2.1 q = nI (G x y)) ∧
  (∀ q r, e ≤ q → q ≤ r → r < K.2.2.2.1 → e_F K q ≤ e_F K r) ∧
  (∀ x y, e_lx x y p b → l ≤ x → x < e → e_c g (R x) y → ¬ e_s g (R x) y w = 0 ∧ (d < 5 → ∃ q, q < K.2.2.2.1 ∧ K.1 q = e_s g (R x) y ∧ (e ≤ q → e_F K q ≤ G x y)))
/-- found -/
def e_O (g : q_G) (w d l e : Nat) (R : Nat → Nat → Nat) (G : Nat → Nat → Nat) (K : q_K) : Prop := ∃ p b, l ≤ p ∧ p < e ∧ e_c g (R p) b ∧ e_s g (R p) b w = 0 ∧ K.2.2.2.2 = (nI d, nI (G p b)) ∧ ∀ x y, e_lx x y p b → l ≤ x → x < e → e_c g (R x) y → ¬ e_s g (R x) y w = 0
section LEV
variable {g : q_G} {w d l e : Nat} {R : Nat → Nat → Nat} {R1 : Nat → Int32} {G : Nat → Nat → Nat}
theorem e_N_skip {p b : Nat} {K : q_K} (h : e_N g w d l e R R1 G p b K) (hc : ¬ e_c g (R p) b) : e_N g w d l e R R1 G p (b + 1) K := by
  obtain ⟨h1, h2, h3, h4, h5, h6, h7, h8⟩ := h
  refine ⟨h1, ⟨h2.1, by omega⟩, h3, h4, h5, fun q a1 a2 => ?_, h7, fun x y hl a1 a2 a3 => ?_⟩
  · obtain ⟨x, y, b1, b2⟩ := h6 q a1 a2
    exact ⟨x, y, by omega, b2⟩
  · by_cases k : x = p ∧ y = b
    · exfalso
      rw [k.1, k.2] at a3
      exact hc a3
    · exact h8 x y (by omega) a1 a2 a3
theorem e_N_row {p : Nat} {K : q_K} (hn9 : g_n g ≤ 9) (hp : l ≤ p) (h : e_N g w d l e R R1 G p (g_n g) K) : e_N g w d l e R R1 G (p + 1) 0 K := by
  obtain ⟨h1, h2, h3, h4, h5, h6, h7, h8⟩ := h
  refine ⟨h1, ⟨h2.1, by omega⟩, h3, h4, h5, fun q a1 a2 => ?_, h7, fun x y hl a1 a2 a3 => ?_⟩
  · obtain ⟨x, y, b1, b2⟩ := h6 q a1 a2
    exact ⟨x, y, by omega, b2⟩
  · have a4 := a3.2.1
    exact h8 x y (by omega) a1 a2 a3
theorem e_g1 {p b : Nat} {K : q_K} (hg : g_ok 99 g) (hd : 1 ≤ d) (hd5 : d ≤ 5) (hV : e_V g w d l e R G) (hR : ∀ q b, l ≤ q → q < e → b < g_n g → (if d = 1 then nI b else R1 q) = nI (G q b)) (hroom : d < 5 → e + 9 * (e - l) ≤ 7381) (hp : l ≤ p) (hpe : p < e) (hb : b < g_n g) (h : e_N g w d l e R R1 G p b K) :
    e_N g w d l e R R1 G p (b + 1) (q_g1 w d p (e_T g (R p)) b K) ∨ e_O g w d l e R G (q_g1 w d p (e_T g (R p)) b K) := by
  have hn9 := hg.1
  have hfm : (if d = 1 then nI b else K.2.1 p) = nI (G p b) := by
    obtain ⟨h1, h2, h3, h4, h5, h6, h7, h8⟩ := h
    rw [(h4 p hpe).2]
    exact hR p b hp hpe hb
  by_cases hc : e_c g (R p) b
  · have hc2 : g_can (e_T g (R p)) b := hc
    have hs := e_s_ok (b := b) hg (hV.1 p hpe).1 (hV.1 p hpe).2 hb
    by_cases hw : e_s g (R p) b w = 0
    · refine Or.inr ⟨p, b, hp, hpe, hc, hw, ?_, fun x y hl a1 a2 a3 => (h.2.2.2.2.2.2.2 x y hl a1 a2 a3).1⟩
      unfold q_g1
      rw [if_pos hc2, if_pos hw]
      show (nI d, if d = 1 then nI b else K.2.1 p) = (nI d, nI (G p b))
      rw [hfm]
    · refine Or.inl ?_
      by_cases d5 : d < 5
      · have e1 : q_g1 w d p (e_T g (R p)) b K = q_kp (g_n g) (e_s g (R p) b) (nI (G p b)) 16384 (e_h (g_n g) (e_s g (R p) b)) K := by
          unfold q_g1
          rw [if_pos hc2, if_neg hw, if_pos d5, hfm]
        rw [e1]
        obtain ⟨h1, h2, h3, h4, h5, h6, h7, h8⟩ := h
        have hr := hroom d5
        have hG := (hV.2.1 p b hp hpe hc).1
        have eF : ∀ q x y, l ≤ x → x < e → e_c g (R x) y → K.2.1 q = nI (G x y) → e_F K q = G x y := by
          intro q x y b2 b3 b4 b6
          have hG2 := (hV.2.1 x y b2 b3 b4).1
          show (K.2.1 q).toNatClampNeg = G x y
          rw [b6]
          exact nI_clamp (by omega)
        have key := e_keep (fm := nI (G p b)) (β := e_s g (R p) b) h1 (by omega) (fun q hq hh => by
          funext j
          by_cases k : j < g_n g
          · exact hh j k
          · rw [(h5 q hq).1 j (by omega)]
            exact (hs.1 j (by omega)).symm)
        rcases key with ⟨⟨q, q1, q2⟩, k2⟩ | ⟨k1, c, k2, k3⟩
        · rw [k2]
          refine ⟨h1, ⟨h2.1, by omega⟩, h3, h4, h5, fun q a1 a2 => ?_, h7, fun x y hl a1 a2 a3 => ?_⟩
          · obtain ⟨x, y, b1, b2⟩ := h6 q a1 a2
            exact ⟨x, y, by omega, b2⟩
          · by_cases k : x = p ∧ y = b
            · rw [k.1, k.2]
              refine ⟨hw, fun _ => ⟨q, q1, q2, fun hq => ?_⟩⟩
              obtain ⟨x2, y2, b1, b2, b3, b4, b5, b6⟩ := h6 q hq q1
              rw [eF q x2 y2 b2 b3 b4 b6]
              exact hV.2.2.2.1 x2 y2 p b b2 hpe b1
            · exact h8 x y (by omega) a1 a2 a3
        · rw [k2]
          have i1 : ∀ q, q < K.2.2.2.1 → (e_ins (e_s g (R p) b) (nI (G p b)) c K).1 q = K.1 q := fun q hq => if_neg (by omega)
          have i2 : (e_ins (e_s g (R p) b) (nI (G p b)) c K).1 K.2.2.2.1 = e_s g (R p) b := if_pos rfl
          have i3 : ∀ q, q < K.2.2.2.1 → (e_ins (e_s g (R p) b) (nI (G p b)) c K).2.1 q = K.2.1 q := fun q hq => pk_un (by omega)
          have i4 : (e_ins (e_s g (R p) b) (nI (G p b)) c K).2.1 K.2.2.2.1 = nI (G p b) := pk_us
          have i5 : e_F (e_ins (e_s g (R p) b) (nI (G p b)) c K) K.2.2.2.1 = G p b := by
            show ((e_ins (e_s g (R p) b) (nI (G p b)) c K).2.1 K.2.2.2.1).toNatClampNeg = G p b
            rw [i4]
            exact nI_clamp (by omega)
          have i6 : ∀ q, q < K.2.2.2.1 → e_F (e_ins (e_s g (R p) b) (nI (G p b)) c K) q = e_F K q := fun q hq => by
            show ((e_ins (e_s g (R p) b) (nI (G p b)) c K).2.1 q).toNatClampNeg = (K.2.1 q).toNatClampNeg
            rw [i3 q hq]
          have iH : (e_ins (e_s g (R p) b) (nI (G p b)) c K).2.2.2.1 = K.2.2.2.1 + 1 := rfl
          have top : ∀ q, e ≤ q → q < K.2.2.2.1 → e_F K q ≤ G p b := fun q a1 a2 => by
            obtain ⟨x2, y2, b1, b2, b3, b4, b5, b6⟩ := h6 q a1 a2
            rw [eF q x2 y2 b2 b3 b4 b6]
            exact hV.2.2.2.1 x2 y2 p b b2 hpe b1
          refine ⟨k3, ⟨by rw [iH]; omega, by rw [iH]; omega⟩, h3, fun q hq => ?_, fun q hq => ?_, fun q a1 a2 => ?_, fun q r a1 a2 a3 => ?_, fun x y hl a1 a2 a3 => ?_⟩
          · rw [i1 q (by omega), i3 q (by omega)]
            exact h4 q hq
          · rw [iH] at hq
            by_cases k : q = K.2.2.2.1
            · rw [k, i2]
              exact hs
            · rw [i1 q (by omega)]
              exact h5 q (by omega)
          · rw [iH] at a2
            by_cases k : q = K.2.2.2.1
            · exact ⟨p, b, by omega, hp, hpe, hc, by rw [k]; exact i2, by rw [k]; exact i4⟩
            · obtain ⟨x, y, b1, b2, b3, b4, b5, b6⟩ := h6 q a1 (by omega)
              exact ⟨x, y, by omega, b2, b3, b4, (i1 q (by omega)).trans b5, (i3 q (by omega)).trans b6⟩
          · rw [iH] at a3
            by_cases k : r = K.2.2.2.1
            · by_cases k4 : q = K.2.2.2.1
              · rw [k, k4]
                exact Nat.le_refl _
              · rw [k, i5, i6 q (by omega)]
                exact top q a1 (by omega)
            · rw [i6 q (by omega), i6 r (by omega)]
              exact h7 q r a1 a2 (by omega)
          · by_cases k : x = p ∧ y = b
            · rw [k.1, k.2]
              exact ⟨hw, fun _ => ⟨K.2.2.2.1, by rw [iH]; exact Nat.lt_succ_self _, i2, fun _ => by rw [i5]; exact Nat.le_refl _⟩⟩
            · obtain ⟨g1, g2⟩ := h8 x y (by omega) a1 a2 a3
              refine ⟨g1, fun k5 => ?_⟩
              obtain ⟨q, q1, q2, q3⟩ := g2 k5
              exact ⟨q, by rw [iH]; omega, (i1 q q1).trans q2, fun k6 => by rw [i6 q q1]; exact q3 k6⟩
      · have e1 : q_g1 w d p (e_T g (R p)) b K = K := by
          unfold q_g1
          rw [if_pos hc2, if_neg hw, if_neg d5]
        rw [e1]
        obtain ⟨h1, h2, h3, h4, h5, h6, h7, h8⟩ := h
        refine ⟨h1, ⟨h2.1, by omega⟩, h3, h4, h5, fun q a1 a2 => ?_, h7, fun x y hl a1 a2 a3 => ?_⟩
        · obtain ⟨x, y, b1, b2⟩ := h6 q a1 a2
          exact ⟨x, y, by omega, b2⟩
        · by_cases k : x = p ∧ y = b
          · rw [k.1, k.2]
            exact ⟨hw, fun k5 => absurd k5 d5⟩
          · exact h8 x y (by omega) a1 a2 a3
  · have hc2 : ¬ g_can (e_T g (R p)) b := hc
    have e1 : q_g1 w d p (e_T g (R p)) b K = K := by
      unfold q_g1
      rw [if_neg hc2]
    rw [e1]
    exact Or.inl (e_N_skip h hc)
theorem e_nd (hd : d ≤ 5) : ¬ nI d = -9 := q_oI_ne (by omega)
theorem e_O_ne {K : q_K} (hd : d ≤ 5) (h : e_O g w d l e R G K) : ¬ K.2.2.2.2.1 = -9 := by
  obtain ⟨p, b, h1, h2, h3, h4, h5, h6⟩ := h
  rw [h5]
  exact e_nd hd
theorem e_go {p : Nat} (hg : g_ok 99 g) (hd : 1 ≤ d) (hd5 : d ≤ 5) (hV : e_V g w d l e R G) (hR : ∀ q b, l ≤ q → q < e → b < g_n g → (if d = 1 then nI b else R1 q) = nI (G q b)) (hroom : d < 5 → e + 9 * (e - l) ≤ 7381) (hp : l ≤ p) (hpe : p < e) : ∀ (m b : Nat) (K : q_K), b + m = g_n g → e_N g w d l e R R1 G p b K →
    e_N g w d l e R R1 G p (g_n g) (q_go w d p (e_T g (R p)) m b K) ∨ e_O g w d l e R G (q_go w d p (e_T g (R p)) m b K)
  | 0, b, K, hb, h => by
    have hb2 : b = g_n g := by omega
    rw [← hb2]
    exact Or.inl h
  | m + 1, b, K, hb, h => by
    have h9 : K.2.2.2.2.1 = -9 := by rw [h.2.2.1]
    rw [q_go, if_pos h9]
    rcases e_g1 hg hd hd5 hV hR hroom hp hpe (by omega) h with k | k
    · exact e_go hg hd hd5 hV hR hroom hp hpe m (b + 1) _ (by omega) k
    · refine Or.inr ?_
      cases m with
      | zero => exact k
      | succ m =>
        rw [q_go, if_neg (e_O_ne hd5 k)]
        exact k
theorem e_li (hg : g_ok 99 g) (hd : 1 ≤ d) (hd5 : d ≤ 5) (hV : e_V g w d l e R G) (hR : ∀ q b, l ≤ q → q < e → b < g_n g → (if d = 1 then nI b else R1 q) = nI (G q b)) (hroom : d < 5 → e + 9 * (e - l) ≤ 7381) : ∀ (m p : Nat) (K : q_K), l ≤ p → p + m = e → e_N g w d l e R R1 G p 0 K →
    e_N g w d l e R R1 G e 0 (q_li w d g m p K) ∨ e_O g w d l e R G (q_li w d g m p K)
  | 0, p, K, hp, hm, h => by
    have hp2 : p = e := by omega
    rw [← hp2]
    exact Or.inl (hp2 ▸ h)
  | m + 1, p, K, hp, hm, h => by
    have h9 : K.2.2.2.2.1 = -9 := by rw [h.2.2.1]
    have hpe : p < e := by omega
    have e1 : g_rg g (K.1 p) = e_T g (R p) := by
      rw [(h.2.2.2.1 p hpe).1]
      exact e_rg (hV.1 p hpe).1
    rw [q_li, if_pos h9, e1]
    rcases e_go hg hd hd5 hV hR hroom hp hpe (g_n g) 0 K (Nat.zero_add _) h with k | k
    · exact e_li hg hd hd5 hV hR hroom m (p + 1) _ (by omega) (by omega) (e_N_row hg.1 hp k)
    · refine Or.inr ?_
      cases m with
      | zero => exact k
      | succ m =>
        rw [q_li, if_neg (e_O_ne hd5 k)]
        exact k
end LEV
end
section
-- == 86.sought
/-! The levels, one behind the other. -/
section SOU
variable {g : q_G} {w d l e : Nat} {R : Nat → Nat → Nat} {R1 : Nat → Int32} {G : Nat → Nat → Nat} {K : q_K}
theorem e_none (hd : 1 ≤ d) (hV : e_V g w d l e R G) (h : e_N g w d l e R R1 G e 0 K) : ¬ e_D g w d (g_β g) := by
  obtain ⟨v1, v2, v3, v4, v5, v6⟩ := hV
  obtain ⟨h1, h2, h3, h4, h5, h6, h7, h8⟩ := h
  intro q
  obtain ⟨k, rfl⟩ : ∃ k, d = k + 1 := ⟨d - 1, by omega⟩
  rcases q with q | ⟨b0, q1, q2⟩
  · exact v6 (e_D_0 q _)
  · obtain ⟨x, y, a1, a2, a3, a4, a5⟩ := v3 b0 0 q1 q2 v6
    exact (h8 x y (Or.inl a2) a1 a2 a3).1 a5
theorem e_next (hd : 1 ≤ d) (hd5 : d < 5) (hn9 : g_n g ≤ 9) (hV : e_V g w d l e R G) (h : e_N g w d l e R R1 G e 0 K) : e_V g w (d + 1) e K.2.2.2.1 K.1 (fun p _ => e_F K p) ∧ (∀ q b, e ≤ q → q < K.2.2.2.1 → b < g_n g → (if d + 1 = 1 then nI b else K.2.1 q) = nI (e_F K q)) := by
  have hno := e_none hd hV h
  obtain ⟨v1, v2, v3, v4, v5, v6⟩ := hV
  obtain ⟨h1, h2, h3, h4, h5, h6, h7, h8⟩ := h
  have eF : ∀ q x y, l ≤ x → x < e → e_c g (R x) y → K.2.1 q = nI (G x y) → e_F K q = G x y := by
    intro q x y b2 b3 b4 b6
    have hG2 := (v2 x y b2 b3 b4).1
    show (K.2.1 q).toNatClampNeg = G x y
    rw [b6]
    exact nI_clamp (by omega)
  have ed : ∀ t, d + 1 - 1 + t = d - 1 + (t + 1) := fun t => by omega
  refine ⟨⟨h5, fun p b a1 a2 a3 => ?_, fun b0 t c1 c2 c3 => ?_, fun p b x y a1 a2 a3 => ?_, fun p t a1 a2 => ?_, hno⟩, fun q b a1 a2 a3 => ?_⟩
  · obtain ⟨x, y, b1, b2, b3, b4, b5, b6⟩ := h6 p a1 a2
    have b7 := eF p x y b2 b3 b4 b6
    obtain ⟨u1, u2, u3⟩ := v2 x y b2 b3 b4
    show e_F K p < g_n g ∧ e_c g (g_β g) (e_F K p) ∧ ∀ t, e_D g w t (e_s g (K.1 p) b) → e_D g w (d + 1 - 1 + t) (e_s g (g_β g) (e_F K p))
    rw [b7]
    refine ⟨u1, u2, fun t ht => ?_⟩
    rw [ed t]
    refine u3 (t + 1) ?_
    rw [← b5]
    exact Or.inr ⟨b, a3, ht⟩
  · rw [ed t] at c2 c3
    obtain ⟨x, y, a1, a2, a3, a4, a5⟩ := v3 b0 (t + 1) c1 c2 c3
    obtain ⟨k1, k2⟩ := h8 x y (Or.inl a2) a1 a2 a3
    obtain ⟨q, q1, q2, q3⟩ := k2 hd5
    by_cases k : q < e
    · exfalso
      apply c3
      refine v5 q (t + 1) k ?_
      rw [← (h4 q k).1, q2]
      exact a5
    · have hq := q3 (by omega)
      rw [← q2] at a5 k1
      rcases a5 with a5 | ⟨b, a6, a7⟩
      · exact absurd a5 k1
      · exact ⟨q, b, by omega, q1, a6, Nat.le_trans hq a4, a7⟩
  · exact h7 p x a1 (by omega) a2
  · rw [ed t]
    by_cases k : p < e
    · have e1 := (h4 p k).1
      rw [e1] at a2
      have e2 := v5 p t k a2
      exact e_D_up _ _ e2
    · obtain ⟨x, y, b1, b2, b3, b4, b5, b6⟩ := h6 p (by omega) a1
      refine v5 x (t + 1) b3 ?_
      rw [b5] at a2
      exact Or.inr ⟨y, b4, a2⟩
  · obtain ⟨x, y, b1, b2, b3, b4, b5, b6⟩ := h6 q a1 a2
    rw [eF q x y b2 b3 b4 b6, if_neg (by omega), b6]
theorem e_found (hd : 1 ≤ d) (hV : e_V g w d l e R G) (h : e_O g w d l e R G K) : ∃ f, f < g_n g ∧ K.2.2.2.2 = (nI d, nI f) ∧ e_R g w d f := by
  obtain ⟨v1, v2, v3, v4, v5, v6⟩ := hV
  obtain ⟨p, b, o1, o2, o3, o4, o5, o6⟩ := h
  obtain ⟨u1, u2, u3⟩ := v2 p b o1 o2 o3
  refine ⟨G p b, u1, o5, ?_, fun x hx q => ?_, u2, u3 0 o4, fun y hy hc q => ?_⟩
  · have h1 := v5 p 1 o2 (Or.inr ⟨b, o3, o4⟩)
    rw [show d - 1 + 1 = d from by omega] at h1
    exact h1
  · have h1 := e_D_le q (d - 1 - x)
    rw [show x + (d - 1 - x) = d - 1 from by omega] at h1
    exact v6 h1
  · obtain ⟨x, z, a1, a2, a3, a4, a5⟩ := v3 y 0 hc q v6
    by_cases k : e_lx x z p b
    · exact o6 x z k a1 a2 a3 a5
    · by_cases k2 : x = p ∧ z = b
      · rw [k2.1, k2.2] at a4
        omega
      · have h1 := v4 p b x z o1 a2 (by omega)
        omega
theorem e_N0 (h1 : e_t (g_n g) K) (hm : K.2.2.2.2 = (-9, -9)) (hl : l ≤ K.2.2.2.1) (h5 : ∀ q, q < K.2.2.2.1 → e_a g (K.1 q) ∧ ∀ j, K.1 q j ≤ 99) : e_N g w d l K.2.2.2.1 K.1 K.2.1 G l 0 K :=
  ⟨h1, ⟨Nat.le_refl _, by omega⟩, hm, fun q _ => ⟨rfl, rfl⟩, h5, fun q a1 a2 => absurd a2 (by omega), fun q r a1 a2 a3 => absurd a3 (by omega), fun x y a1 a2 a3 a4 => absurd a2 (by omega)⟩
theorem e_dp (hg : g_ok 99 g) : ∀ (m d l : Nat) (K : q_K) (G : Nat → Nat → Nat), d + m = 6 → 1 ≤ d → m ≤ 5 → l ≤ K.2.2.2.1 →
    ((d = 1 → K.2.2.2.1 ≤ 1 ∧ K.2.2.2.1 - l ≤ 1) ∧ (d = 2 → K.2.2.2.1 ≤ 10 ∧ K.2.2.2.1 - l ≤ 9) ∧ (d = 3 → K.2.2.2.1 ≤ 91 ∧ K.2.2.2.1 - l ≤ 81) ∧ (d = 4 → K.2.2.2.1 ≤ 820 ∧ K.2.2.2.1 - l ≤ 729)) →
    e_t (g_n g) K → K.2.2.2.2 = (-9, -9) → (∀ q, q < K.2.2.2.1 → e_a g (K.1 q) ∧ ∀ j, K.1 q j ≤ 99) → ¬ e_D g w (d - 1) (g_β g) → (1 ≤ m → e_V g w d l K.2.2.2.1 K.1 G ∧ ∀ q b, l ≤ q → q < K.2.2.2.1 → b < g_n g → (if d = 1 then nI b else K.2.1 q) = nI (G q b)) →
    (∃ x f, 1 ≤ x ∧ x ≤ 5 ∧ f < g_n g ∧ (q_dp w g m d l K).2.2.2.2 = (nI x, nI f) ∧ e_R g w x f) ∨ ((q_dp w g m d l K).2.2.2.2 = (-9, -9) ∧ ¬ e_D g w 5 (g_β g))
  | 0, d, l, K, G, hd, hd1, hm, hl, hs, ht, h9, h5, hno, hV => by
    refine Or.inr ⟨h9, ?_⟩
    rw [show d - 1 = 5 from by omega] at hno
    exact hno
  | m + 1, d, l, K, G, hd, hd1, hm, hl, hs, ht, h9, h5, hno, hV => by
    obtain ⟨V, hR⟩ := hV (by omega)
    have e9 : K.2.2.2.2.1 = -9 := by rw [h9]
    have hN := e_N0 (w := w) (d := d) (G := G) ht h9 hl h5
    rw [q_dp, if_pos e9]
    rcases e_li hg hd1 (by omega) V hR (fun k => by omega) (K.2.2.2.1 - l) l K (Nat.le_refl l) (by omega) hN with k | k
    · have k0 := k
      obtain ⟨t1, t2, t3, t4, t5, t6, t7, t8⟩ := k0
      have hno2 := e_none hd1 V k
      refine e_dp hg m (d + 1) K.2.2.2.1 (q_li w d g (K.2.2.2.1 - l) l K) (fun p _ => e_F (q_li w d g (K.2.2.2.1 - l) l K) p) (by omega) (by omega) (by omega) t2.1 ?_ t1 t3 t5 hno2 (fun hm1 => e_next hd1 (by omega) hg.1 V k)
      omega
    · refine Or.inl ?_
      obtain ⟨f, f1, f2, f3⟩ := e_found hd1 V k
      have e2 : q_dp w g m (d + 1) K.2.2.2.1 (q_li w d g (K.2.2.2.1 - l) l K) = q_li w d g (K.2.2.2.1 - l) l K := by
        cases m with
        | zero => rfl
        | succ m => rw [q_dp, if_neg (e_O_ne (by omega) k)]
      rw [e2]
      exact ⟨d, f, hd1, by omega, f1, f2, f3⟩
theorem e_cn_0 : ∀ N, e_cn (fun _ => 0) N = 0
  | 0 => rfl
  | n + 1 => by
    rw [e_cn, e_cn_0 n, if_pos rfl]
theorem e_sek (hg : g_ok 99 g) (hw : ¬ g_β g w = 0) : (∃ x f, 1 ≤ x ∧ x ≤ 5 ∧ f < g_n g ∧ q_sek w g = (nI x, nI f) ∧ e_R g w x f) ∨ (q_sek w g = (-9, -9) ∧ ¬ e_D g w 5 (g_β g)) := by
  have ht0 : e_t (g_n g) ((fun _ _ => 0, fun _ => 0, fun _ => 0, 0, -9, -9) : q_K) := ⟨fun p hp => absurd hp (Nat.not_lt_zero _), fun N _ => by rw [e_cn_0]; exact Nat.zero_le _, fun j => Nat.le_refl _⟩
  have e1 : q_sek w g = (q_dp w g 5 1 0 (q_K1 g)).2.2.2.2 := if_neg hw
  rw [e1]
  rcases e_keep (fm := -9) (β := g_β g) ht0 (by decide) (fun p hp => absurd hp (Nat.not_lt_zero _)) with ⟨⟨p, hp, _⟩, _⟩ | ⟨_, c, k2, k3⟩
  · exact absurd hp (Nat.not_lt_zero _)
  · have e2 : q_K1 g = e_ins (g_β g) (-9) c ((fun _ _ => 0, fun _ => 0, fun _ => 0, 0, -9, -9) : q_K) := k2
    have hH : (q_K1 g).2.2.2.1 = 1 := by rw [e2]; rfl
    have h9 : (q_K1 g).2.2.2.2 = (-9, -9) := by rw [e2]; rfl
    have hr : (q_K1 g).1 0 = g_β g := by rw [e2]; rfl
    have ht : e_t (g_n g) (q_K1 g) := by rw [e2]; exact k3
    have h5 : ∀ q, q < (q_K1 g).2.2.2.1 → e_a g ((q_K1 g).1 q) ∧ ∀ j, (q_K1 g).1 q j ≤ 99 := by
      intro q hq
      have hq0 : q = 0 := by omega
      rw [hq0, hr]
      exact ⟨fun j _ => rfl, hg.2.2.2.2.2.1⟩
    have z1 : ∀ t, 1 - 1 + t = t := fun t => Nat.zero_add t
    refine e_dp hg 5 1 0 (q_K1 g) (fun _ b => b) rfl (Nat.le_refl 1) (Nat.le_refl 5) (Nat.zero_le _) (by omega) ht h9 h5 hw (fun _ => ⟨⟨h5, fun p b a1 a2 a3 => ?_, fun b0 t c1 c2 c3 => ?_, fun p b x y a1 a2 a3 => ?_, fun p t a1 a2 => ?_, hw⟩, fun q b a1 a2 a3 => if_pos rfl⟩)
    · have hp0 : p = 0 := by omega
      rw [hp0, hr] at a3
      rw [hp0, hr]
      refine ⟨a3.2.1, a3, fun t ht => ?_⟩
      rw [z1 t]
      exact ht
    · rw [z1 t] at c2
      refine ⟨0, b0, Nat.le_refl 0, by omega, ?_, Nat.le_refl b0, ?_⟩
      · rw [hr]
        exact c1
      · rw [hr]
        exact c2
    · show b ≤ y
      omega
    · have hp0 : p = 0 := by omega
      rw [hp0, hr] at a2
      rw [z1 t]
      exact a2
end SOU
theorem an_toEmpty {A : q_A} {a b : Int32} {N : Nat} (ho : a_ok A) (hb : a_b N A) (hN : N ≤ 700) : (s_teC A a b).2 = (s_teR A a b).2 := by
  unfold s_teC s_teR
  by_cases h : q_in (g_n (a_g A)) a
  · rw [if_pos h, if_pos h]
    by_cases h2 : b < 0 ∨ 1 < b
    · rw [if_pos h2, if_pos h2]
    · rw [if_neg h2, if_neg h2]
      have hg : ∀ j, g_π (a_g A) j ≤ 990 := fun j => by
        have h3 := hb.1.1
        have h4 := hb.1.2 j
        omega
      show (if b = 0 then (q_sek a.toNatClampNeg (a_g A)).1 else (q_sek a.toNatClampNeg (a_g A)).2) = q_te a.toNatClampNeg (a_g A) b 6 0
      by_cases hw : g_β (a_g A) a.toNatClampNeg = 0
      · have e1 : q_sek a.toNatClampNeg (a_g A) = (0, -9) := if_pos hw
        have e2 : q_em a.toNatClampNeg 0 (a_g A) = true := decide_eq_true hw
        have e3 : q_te a.toNatClampNeg (a_g A) b 6 0 = if b = 0 then nI 0 else q_ef a.toNatClampNeg 0 (a_g A) (-9) := if_pos e2
        rw [e1, e3]
        rfl
      · rcases e_sek ho.1 hw with ⟨x, f, f1, f2, f3, f4, f5⟩ | ⟨f1, f2⟩
        · rw [f4, e_ref hg f1 f2 f5]
        · rw [f1, e_ref_no hg f2]
          by_cases hb0 : b = 0
          · rw [if_pos hb0]
          · rw [if_neg hb0]
  · rw [if_neg h, if_neg h]
end
