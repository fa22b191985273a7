/-! Beans in one number. (The first rows are the kit's laws/BITS, pasted as it bids.) -/
theorem u_tn {n : Nat} (h : n < 2 ^ 64) : (UInt64.ofNat n).toNat = n := Nat.mod_eq_of_lt h
theorem g_and {a b c : Nat} (ha : a < 2 ^ 64) (hb : b < 2 ^ 64) (hc : a &&& b = c) : lN a &&& lN b = lN c := by
  subst hc
  have h : UInt64.ofNat a &&& UInt64.ofNat b = UInt64.ofNat (a &&& b) := UInt64.toNat_inj.mp (by rw [UInt64.toNat_and, u_tn ha, u_tn hb, u_tn (Nat.and_lt_two_pow a hb)])
  have h2 := congrArg UInt64.toInt64 h
  exact h2
theorem g_and1 {a : Nat} (ha : a < 2 ^ 64) : lN a &&& 1 = lN (a % 2) := g_and (b := 1) ha (by decide) (Nat.and_two_pow_sub_one_eq_mod a 1)
theorem g_mask {a s p : Nat} (hp : 2 ^ s = p) (hs : s < 64) (ha : a < 2 ^ 64) : lN a &&& lN (p - 1) = lN (a % p) := by
  subst hp
  have := Nat.pow_lt_pow_right (show 1 < 2 by decide) hs
  exact g_and ha (by omega) (Nat.and_two_pow_sub_one_eq_mod a s)
theorem g_or {k p a b : Nat} (hp : 2 ^ k = p) (ha : a < p) (h : b * p + a < 2 ^ 64) : lN (b * p) ||| lN a = lN (b * p + a) := by
  subst hp
  have h1 : b * 2 ^ k ||| a = b * 2 ^ k + a := by rw [← Nat.shiftLeft_eq, Nat.shiftLeft_add_eq_or_of_lt ha]
  have h3 : UInt64.ofNat (b * 2 ^ k) ||| UInt64.ofNat a = UInt64.ofNat (b * 2 ^ k + a) := UInt64.toNat_inj.mp (by rw [UInt64.toNat_or, u_tn (by omega), u_tn (by omega), u_tn h, h1])
  have h2 := congrArg UInt64.toInt64 h3
  exact h2
theorem g_or' {k p a b : Nat} (hp : 2 ^ k = p) (ha : a < p) (h : a + b * p < 2 ^ 64) : lN a ||| lN (b * p) = lN (a + b * p) := by
  rw [Int64.or_comm, g_or hp ha (by omega), Nat.add_comm]
theorem g_ushr {a k p : Nat} {y : UInt64} (hy : y = UInt64.ofNat k) (hk : k < 64) (hp : 2 ^ k = p) (ha : a < 2 ^ 64) : ((lN a).toUInt64 >>> y).toInt64 = lN (a / p) := by
  subst hy hp
  have h : UInt64.ofNat a >>> UInt64.ofNat k = UInt64.ofNat (a / 2 ^ k) := UInt64.toNat_inj.mp (by rw [UInt64.toNat_shiftRight, u_tn ha, u_tn (by omega), u_tn (Nat.lt_of_le_of_lt (Nat.div_le_self _ _) ha), Nat.mod_eq_of_lt hk, Nat.shiftRight_eq_div_pow])
  have h2 := congrArg UInt64.toInt64 h
  exact h2
theorem g_shl {a k p : Nat} {y : Int64} (hy : y.toBitVec.smod 64 = BitVec.ofNat 64 k) (hk : k < 64) (hp : 2 ^ k = p) (ha : a < 2 ^ 64) : lN a <<< y = lN (a * p) := by
  subst hp
  apply Int64.toBitVec_inj.mp
  rw [Int64.toBitVec_shiftLeft, hy]
  apply BitVec.eq_of_toNat_eq
  have hb : (lN a).toBitVec.toNat = a := Nat.mod_eq_of_lt ha
  have hk' : (BitVec.ofNat 64 k).toNat = k := Nat.mod_eq_of_lt (by omega)
  have h : ((lN a).toBitVec <<< BitVec.ofNat 64 k).toNat = (a * 2 ^ k) % 2 ^ 64 := by simp only [BitVec.shiftLeft_eq', BitVec.toNat_shiftLeft, hb, hk', Nat.shiftLeft_eq]
  exact h
theorem q_is1 (x : Int32) : x - 1 = x + Int32.ofInt (-1) := by
  rw [Int32.sub_eq_add_neg]
  rfl
/-- digits from b on, m of them -/
def q_eb (β : Nat → Nat) : Nat → Nat → Nat
  | _, 0 => 0
  | b, m + 1 => β b + 128 * q_eb β (b + 1) m
theorem q_eb_lt {β : Nat → Nat} (h : ∀ i, β i ≤ 127) : ∀ (m b : Nat), q_eb β b m < 128 ^ m
  | 0, _ => Nat.one_pos
  | m + 1, b => by
    have h1 := q_eb_lt h m (b + 1)
    have h2 := h b
    unfold q_eb
    rw [Nat.pow_succ]
    omega
theorem q_eb_63 {β : Nat → Nat} (h : ∀ i, β i ≤ 127) {m b : Nat} (hm : m ≤ 9) : q_eb β b m < 2 ^ 63 := by
  have h1 := q_eb_lt h m b
  have h2 : 128 ^ m ≤ 128 ^ 9 := Nat.pow_le_pow_right (by decide) hm
  have h3 : 128 ^ 9 = 2 ^ 63 := by decide
  omega
theorem q_eb_mod {β : Nat → Nat} (h : ∀ i, β i ≤ 127) (b m : Nat) : q_eb β b (m + 1) % 128 = β b := by
  have := h b
  unfold q_eb
  omega
theorem q_eb_div {β : Nat → Nat} (h : ∀ i, β i ≤ 127) (b m : Nat) : q_eb β b (m + 1) / 128 = q_eb β (b + 1) m := by
  have h1 := h b
  rw [show q_eb β b (m + 1) = β b + 128 * q_eb β (b + 1) m from rfl]
  omega
theorem q_eb_eq {β γ : Nat → Nat} (hβ : ∀ i, β i ≤ 127) (hγ : ∀ i, γ i ≤ 127) : ∀ (m b : Nat), q_eb β b m = q_eb γ b m ↔ ∀ i, b ≤ i → i < b + m → β i = γ i
  | 0, b => ⟨fun _ i h1 h2 => absurd h2 (by omega), fun _ => rfl⟩
  | m + 1, b => by
    have ih := q_eb_eq hβ hγ m (b + 1)
    constructor
    · intro e i h1 h2
      have e1 : β b = γ b := by rw [← q_eb_mod hβ b m, ← q_eb_mod hγ b m, e]
      have e2 : q_eb β (b + 1) m = q_eb γ (b + 1) m := by rw [← q_eb_div hβ b m, ← q_eb_div hγ b m, e]
      by_cases d : i = b
      · rw [d]
        exact e1
      · exact ih.mp e2 i (by omega) (by omega)
    · intro e
      unfold q_eb
      rw [e b (Nat.le_refl b) (by omega), ih.mpr (fun i h1 h2 => e i (by omega) (by omega))]
section EN
variable {E : x_E} {z : Nat} {f : x_H} {t : Nat} {T : x_T} {post : Option Value → x_H → Prop} {n : Nat} {β : Nat → Nat}
theorem w_bioL (hT : x_t z f t T) (hn : T.2.2.2 0 = nI n) (hn9 : n ≤ 9) (hβ : T.2.1 = fun i => nI (β i)) (hβ5 : ∀ i, β i ≤ 127) (h : post (some (.long (lN (q_eb β 0 n)))) f) : ∀ (m : Nat), m ≤ n → X E (x_rm 3 0 0) mX3_beansInOne (x_QM E z 0 0 post) 9 [(3, .int (nI m + Int32.ofInt (-1))), (1, .long (lN (q_eb β m (n - m)))), (0, .ref t)] [] z f 0 0 := by
  intro m
  induction m with
  | zero =>
    intro hm
    refine x_iload_n (pc' := 10) rfl rfl rfl ?_
    refine x_if_lt (tgt := 31) (pc' := 13) rfl rfl rfl (fun _ => ?_) (fun c10 => absurd ((by decide)) c10)
    refine x_lload_n (pc' := 32) rfl rfl rfl ?_
    exact x_lreturn rfl rfl (Nat.le_of_ble_eq_true rfl) (Nat.le_of_ble_eq_true rfl) (h)
  | succ m ih =>
    intro hm
    have e1 : nI (m + 1) + Int32.ofInt (-1) = nI m := nI_m1 (Nat.succ_pos m)
    have hcl : (nI m).toNatClampNeg = m := nI_clamp (by omega)
    have h63 := q_eb_63 hβ5 (m := n - (m + 1)) (b := m + 1) (by omega)
    have h63' := q_eb_63 hβ5 (m := n - m) (b := m) (by omega)
    have hb := hβ5 m
    have ee : q_eb β m (n - m) = q_eb β (m + 1) (n - (m + 1)) * 128 + β m := by
      rw [show n - m = (n - (m + 1)) + 1 by omega, show q_eb β m ((n - (m + 1)) + 1) = β m + 128 * q_eb β (m + 1) (n - (m + 1)) from rfl]
      omega
    rw [e1]
    have ih' := ih (by omega)
    rw [ee] at ih' h63'
    refine x_iload_n (pc' := 10) rfl rfl rfl ?_
    refine x_if_lt (tgt := 31) (pc' := 13) rfl rfl rfl (fun c10 => absurd c10 ((nI_pos (by omega)))) (fun _ => ?_)
    refine x_lload_n (pc' := 14) rfl rfl rfl ?_
    refine x_bipush (pc' := 16) rfl rfl bipush_7 ?_
    refine x_lshl (pc' := 17) rfl rfl ?_
    refine x_eql (g_shl (k := 7) (p := 128) (by decide) (by decide) (by decide) (by omega)) ?_
    refine x_aload_n (pc' := 18) rfl rfl rfl ?_
    refine x_iload_n (pc' := 19) rfl rfl rfl ?_
    refine x_cV1i (d := 2) (pc' := 22) rfl rfl sX3_59 gX3_beansOf (hT.1) ⟨Nat.le_of_ble_eq_true rfl, Nat.le_of_ble_eq_true rfl⟩ (Nat.le_of_ble_eq_true rfl) ⟨Nat.le_of_ble_eq_true rfl, Nat.le_of_ble_eq_true rfl⟩ ?_
    refine w_beansOf hT (fun q => ⟨_, rfl, ?_⟩) (fun q => absurd (t_has_nI hn hn9 (by omega)) q)
    refine x_eqi (show T.2.1 (nI m).toNatClampNeg = nI (β m) from by rw [hcl, hβ]) ?_
    refine x_i2l (pc' := 23) rfl rfl ?_
    refine x_eql (nI_l (by omega)) ?_
    refine x_lor (pc' := 24) rfl rfl ?_
    refine x_eql (g_or (k := 7) (p := 128) (by decide) (by omega) (by omega)) ?_
    refine x_lstore_n (pc' := 25) (lv' := [(1, _), (3, _), (0, _)]) rfl rfl (Nat.le_of_ble_eq_true rfl) rfl ?_
    refine x_iinc (pc' := 28) (lv' := [(3, _), (1, _), (0, _)]) rfl rfl (Nat.le_of_ble_eq_true rfl) rfl (rfl) rfl ?_
    refine x_goto (tgt := 9) rfl rfl ?_
    exact ih'
theorem w_bio (hT : x_t z f t T) (hn : T.2.2.2 0 = nI n) (hn9 : n ≤ 9) (hβ : T.2.1 = fun i => nI (β i)) (hβ5 : ∀ i, β i ≤ 127) (h : post (some (.long (lN (q_eb β 0 n)))) f) : Y E 3 mX3_beansInOne [.ref t] z f 0 0 post := by
  refine Y.intro gX3_beansInOne (lv := [(0, .ref t)]) rfl (Nat.le_of_ble_eq_true rfl) ?_
  have hL := w_bioL (E := E) hT hn hn9 hβ hβ5 h n (Nat.le_refl n)
  rw [Nat.sub_self] at hL
  refine x_lconst (pc' := 1) rfl rfl lconst_0 ?_
  refine x_lstore_n (pc' := 2) (lv' := [(1, _), (0, _)]) rfl rfl (Nat.le_of_ble_eq_true rfl) rfl ?_
  refine x_aload_n (pc' := 3) rfl rfl rfl ?_
  refine x_get (pc' := 6) rfl rfl rfl (hT.1) rfl ?_
  refine x_eqi hn ?_
  refine x_iconst (pc' := 7) rfl rfl iconst_1 ?_
  refine x_isub (pc' := 8) rfl rfl ?_
  refine x_eqi (q_is1 _) ?_
  refine x_istore_n (pc' := 9) (lv' := [(3, _), (1, _), (0, _)]) rfl rfl (Nat.le_of_ble_eq_true rfl) rfl ?_
  exact hL
theorem w_lfL {x : Int64} (hn9 : n ≤ 9) (hβ5 : ∀ i, β i ≤ 127) (T0 : x_T) (hn : T0.2.2.2 0 = nI n) (f0 : x_H) (h : ∀ f' : x_H, x_t z f' t (T0.1, fun i => if i < n then nI (β i) else T0.2.1 i, T0.2.2.1, T0.2.2.2) → x_fr (x_ot t) f0 f' → post none f') : ∀ (m b : Nat) (f : x_H), b + m = n → x_t z f t (T0.1, fun i => if i < b then nI (β i) else T0.2.1 i, T0.2.2.1, T0.2.2.2) → x_fr (x_ot t) f0 f → X E (x_rm 3 0 0) mX3_layFrom (x_QM E z 0 0 post) 5 [(5, .int (nI b)), (3, .long (lN (q_eb β b m))), (0, .ref t), (1, .long x)] [] z f 0 0 := by
  intro m
  induction m with
  | zero =>
    intro b f hb hT hF
    have hb2 : b = n := by omega
    subst hb2
    refine x_iload (pc' := 7) rfl rfl rfl ?_
    refine x_aload_n (pc' := 8) rfl rfl rfl ?_
    refine x_get (pc' := 11) rfl rfl rfl (hT.1) rfl ?_
    refine x_eqi hn ?_
    refine x_icmp_ge (tgt := 37) (pc' := 14) rfl rfl rfl (fun _ => ?_) (fun c11 => absurd ((Int32.le_refl _)) c11)
    exact x_return rfl rfl (Nat.le_of_ble_eq_true rfl) (Nat.le_of_ble_eq_true rfl) (h f hT hF)
  | succ m ih =>
    intro b f hb hT hF
    have h63 := q_eb_63 hβ5 (m := m + 1) (b := b) (by omega)
    have e1 := q_eb_mod hβ5 b m
    have e2 := q_eb_div hβ5 b m
    have hcl : (nI b).toNatClampNeg = b := nI_clamp (by omega)
    refine x_iload (pc' := 7) rfl rfl rfl ?_
    refine x_aload_n (pc' := 8) rfl rfl rfl ?_
    refine x_get (pc' := 11) rfl rfl rfl (hT.1) rfl ?_
    refine x_eqi hn ?_
    refine x_icmp_ge (tgt := 37) (pc' := 14) rfl rfl rfl (fun c11 => absurd c11 ((nI_ge (by omega) (by omega)))) (fun _ => ?_)
    refine x_aload_n (pc' := 15) rfl rfl rfl ?_
    refine x_iload (pc' := 17) rfl rfl rfl ?_
    refine x_lload_n (pc' := 18) rfl rfl rfl ?_
    refine x_ldc2 (pc' := 21) rfl rfl rfl ?_
    refine x_land (pc' := 22) rfl rfl ?_
    refine x_eql (show lN (q_eb β b (m + 1)) &&& 127 = lN (β b) from (g_mask (s := 7) (p := 128) (by decide) (by decide) (by omega)).trans (congrArg lN e1)) ?_
    refine x_l2i (pc' := 23) rfl rfl ?_
    refine x_eqi (lN_i _) ?_
    refine x_cV2v (d := 2) (pc' := 26) rfl rfl sX3_63 gX3_lay (hT.1) ⟨Nat.le_of_ble_eq_true rfl, Nat.le_of_ble_eq_true rfl⟩ (Nat.le_of_ble_eq_true rfl) ⟨Nat.le_of_ble_eq_true rfl, Nat.le_of_ble_eq_true rfl⟩ ?_
    refine w_lay hT (fun q f1 hT1 hF1 => ⟨rfl, ?_⟩) (fun q => absurd (t_has_nI (T := (T0.1, fun i => if i < b then nI (β i) else T0.2.1 i, T0.2.2.1, T0.2.2.2)) hn hn9 (by omega)) q)
    refine x_lload_n (pc' := 27) rfl rfl rfl ?_
    refine x_bipush (pc' := 29) rfl rfl bipush_7 ?_
    refine x_lushr (pc' := 30) rfl rfl ?_
    refine x_eql ((g_ushr (k := 7) (p := 128) (by decide) (by decide) (by decide) (by omega)).trans (congrArg lN e2)) ?_
    refine x_lstore_n (pc' := 31) (lv' := [(3, _), (5, _), (0, _), (1, _)]) rfl rfl (Nat.le_of_ble_eq_true rfl) rfl ?_
    refine x_iinc (pc' := 34) (lv' := [(5, _), (3, _), (0, _), (1, _)]) rfl rfl (Nat.le_of_ble_eq_true rfl) rfl (nI_1 b) rfl ?_
    refine x_goto (tgt := 5) rfl rfl ?_
    refine ih (b + 1) f1 (by omega) ?_ (hF.trans hF1)
    have e9 : upd (fun i => if i < b then nI (β i) else T0.2.1 i) (nI b).toNatClampNeg (nI (β b)) = fun i => if i < b + 1 then nI (β i) else T0.2.1 i := by
      rw [hcl]
      funext i
      unfold upd
      by_cases d : i = b
      · rw [if_pos d, if_pos (by omega), d]
      · rw [if_neg d]
        show (if i < b then nI (β i) else T0.2.1 i) = if i < b + 1 then nI (β i) else T0.2.1 i
        by_cases d2 : i < b
        · rw [if_pos d2, if_pos (by omega)]
        · rw [if_neg d2, if_neg (by omega)]
    rw [← e9]
    exact hT1
theorem w_lf (hT : x_t z f t T) (hn : T.2.2.2 0 = nI n) (hn9 : n ≤ 9) (hβ5 : ∀ i, β i ≤ 127) (h : ∀ f' : x_H, x_t z f' t (T.1, fun i => if i < n then nI (β i) else T.2.1 i, T.2.2.1, T.2.2.2) → x_fr (x_ot t) f f' → post none f') : Y E 3 mX3_layFrom [.ref t, .long (lN (q_eb β 0 n))] z f 0 0 post := by
  refine Y.intro gX3_layFrom (lv := [(0, .ref t), (1, .long (lN (q_eb β 0 n)))]) rfl (Nat.le_of_ble_eq_true rfl) ?_
  have e0 : (fun i => if i < 0 then nI (β i) else T.2.1 i) = T.2.1 := by
    funext i
    rw [if_neg (Nat.not_lt_zero i)]
  refine x_lload_n (pc' := 1) rfl rfl rfl ?_
  refine x_lstore_n (pc' := 2) (lv' := [(3, _), (0, _), (1, _)]) rfl rfl (Nat.le_of_ble_eq_true rfl) rfl ?_
  refine x_iconst (pc' := 3) rfl rfl iconst_0 ?_
  refine x_istore (pc' := 5) (lv' := [(5, _), (3, _), (0, _), (1, _)]) rfl rfl (Nat.le_of_ble_eq_true rfl) rfl ?_
  exact w_lfL hn9 hβ5 T hn f h n 0 f (by omega) (by rw [e0]; exact hT) x_fr.rf
end EN
