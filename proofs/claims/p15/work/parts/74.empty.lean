/-! The class seeks the fewest moves that empty a bowl: what it keeps. -/
/-- rings, first moves, slots, how many, moves, first -/
abbrev q_K : Type := (Nat → Nat → Nat) × (Nat → Int32) × (Nat → Nat) × Nat × Int32 × Int32
theorem i64_cmp0 {x y : Int64} : lg_cmp x y = 0 ↔ x = y := by
  unfold lg_cmp
  by_cases h1 : x > y
  · rw [if_pos h1]
    exact ⟨fun h => absurd h (by decide), fun h => absurd (h ▸ h1) Int64.lt_irrefl⟩
  · rw [if_neg h1]
    by_cases h2 : x = y
    · rw [if_pos h2]
      exact ⟨fun _ => h2, fun _ => rfl⟩
    · rw [if_neg h2]
      exact ⟨fun h => absurd h (by decide), fun h => absurd h h2⟩
def q_sj (s : Int32) : Nat := (s &&& 16383).toNatClampNeg
def q_hs (x : Int64) : Int32 := ((x * (-7046029254386353131)).toUInt64 >>> ((50 : Int32).toInt64.toUInt64 &&& Int64.toUInt64 63)).toInt64.toInt32
def q_kp (n : Nat) (β : Nat → Nat) (fm : Int32) : Nat → Int32 → q_K → q_K
  | 0, _, K => K
  | k + 1, s, K => if K.2.2.2.1 < 7381 then (if K.2.2.1 (q_sj s) = 0 then (fun p => if p = K.2.2.2.1 then β else K.1 p, upd K.2.1 K.2.2.2.1 fm, q_up K.2.2.1 (q_sj s) (K.2.2.2.1 + 1), K.2.2.2.1 + 1, K.2.2.2.2) else if (∀ b, b < n → K.1 (K.2.2.1 (q_sj s) - 1) b = β b) then K else q_kp n β fm k (s + 1) K) else K
def e_ok (K : q_K) : Prop := K.2.2.2.1 ≤ 7381 ∧ (∀ p, p < K.2.2.2.1 → ∀ b, K.1 p b ≤ 99) ∧ (∀ j, K.2.2.1 j ≤ K.2.2.2.1)
theorem e_ok_kp {n : Nat} {β : Nat → Nat} {fm : Int32} (hβ : ∀ b, β b ≤ 99) : ∀ (k : Nat) (s : Int32) (K : q_K), e_ok K → e_ok (q_kp n β fm k s K) ∧ K.2.2.2.1 ≤ (q_kp n β fm k s K).2.2.2.1 ∧ (∀ p, p < K.2.2.2.1 → (q_kp n β fm k s K).1 p = K.1 p ∧ (q_kp n β fm k s K).2.1 p = K.2.1 p) ∧ (q_kp n β fm k s K).2.2.2.2 = K.2.2.2.2
  | 0, s, K, h => ⟨h, Nat.le_refl _, fun _ _ => ⟨rfl, rfl⟩, rfl⟩
  | k + 1, s, K, h => by
    unfold q_kp
    split
    · rename_i h1
      split
      · refine ⟨⟨h1, fun p hp b => ?_, fun j => ?_⟩, Nat.le_succ _, fun p hp => ⟨if_neg (by omega), pk_un (by omega)⟩, rfl⟩
        · show (if p = K.2.2.2.1 then β else K.1 p) b ≤ 99
          split
          · exact hβ b
          · have hp2 : p < K.2.2.2.1 + 1 := hp
            exact h.2.1 p (by omega) b
        · show q_up K.2.2.1 (q_sj s) (K.2.2.2.1 + 1) j ≤ K.2.2.2.1 + 1
          unfold q_up
          split
          · exact Nat.le_refl _
          · exact Nat.le_succ_of_le (h.2.2 j)
      · split
        · exact ⟨h, Nat.le_refl _, fun _ _ => ⟨rfl, rfl⟩, rfl⟩
        · exact e_ok_kp hβ k (s + 1) K h
    · exact ⟨h, Nat.le_refl _, fun _ _ => ⟨rfl, rfl⟩, rfl⟩
def e_is (S : x_S) (K : q_K) (n : Nat) : Prop := S.1 3 = nI K.2.2.2.1 ∧ S.1 4 = K.2.2.2.2.1 ∧ S.1 5 = K.2.2.2.2.2 ∧ (∀ p, p < K.2.2.2.1 → S.2.2.1 2 p = K.2.1 p) ∧ S.2.2.1 3 = (fun j => nI (K.2.2.1 j)) ∧ (∀ p, p < K.2.2.2.1 → S.2.2.2 0 p = lN (q_eb (K.1 p) 0 n))
/-- what stays while bowls are emptied in mind -/
def c_ek (S S' : x_S) : Prop := (∀ i, i ≤ 2 → S'.1 i = S.1 i) ∧ (∀ j, j ≠ 4 → j ≠ 5 → S'.2.1 j = S.2.1 j) ∧ (∀ j, j ≠ 2 → j ≠ 3 → S'.2.2.1 j = S.2.2.1 j) ∧ (∀ j, j ≠ 0 → S'.2.2.2 j = S.2.2.2 j)
theorem c_ek.rf {S : x_S} : c_ek S S := ⟨fun _ _ => rfl, fun _ _ _ => rfl, fun _ _ _ => rfl, fun _ _ => rfl⟩
theorem c_ek.trans {S S1 S2 : x_S} (h : c_ek S S1) (h2 : c_ek S1 S2) : c_ek S S2 := ⟨fun i hi => (h2.1 i hi).trans (h.1 i hi), fun j a b => (h2.2.1 j a b).trans (h.2.1 j a b), fun j a b => (h2.2.2.1 j a b).trans (h.2.2.1 j a b), fun j a => (h2.2.2.2 j a).trans (h.2.2.2 j a)⟩
theorem c_ek.sc {S S' : x_S} (h : c_ek S S') : c_sc S S' := ⟨h.2.1 0 (by decide) (by decide), h.2.1 1 (by decide) (by decide), h.1 0 (by decide), h.1 1 (by decide), h.1 2 (by decide), h.2.2.1 0 (by decide) (by decide), h.2.2.1 5 (by decide) (by decide), h.2.2.1 6 (by decide) (by decide)⟩
section EM
variable {E : x_E} {z : Nat} {f f' : x_H} {S S0 : x_S} {A : q_A} {post : Option Value → x_H → Prop} {g : q_G} {C n : Nat} {a b : Int32} {K : q_K}
theorem x_Sys.numE (h : x_Sys z f S) {k' k : Nat} {v : Int32} (e : f' = x_up f 42 (.inr (1, (x_eF S.1).set k' (.int v)))) (hk : (x_eF S.1).set k' (.int v) = x_eF (upd S.1 k v)) (h3 : 3 ≤ k) : x_Sys z f' (upd S.1 k v, S.2.1, S.2.2.1, S.2.2.2) := by
  rw [hk] at e
  obtain ⟨h1, g2, h3', h4, h5, h6, h7, h8, h9⟩ := h
  obtain ⟨p1, p2, p3⟩ := x_pos4 42 (Or.inr (Or.inr rfl))
  have e0 : upd S.1 k v 0 = S.1 0 := pk_un (by omega)
  have e1 : upd S.1 k v 1 = S.1 1 := pk_un (by omega)
  have e2 : upd S.1 k v 2 = S.1 2 := pk_un (by omega)
  refine ⟨?_, fun i hi => (g2 i hi).n e (p1 i hi), fun i hi => (h3' i hi).n e (p2 i hi), fun i hi => (h4 i hi).n e (p3 i hi), ?_, h6.n e (by decide), h7.n e (by decide), x_o.s e h8.1, h9.n e (by decide)⟩
  · have h9 : x_oF (upd S.1 k v) = x_oF S.1 := by
      unfold x_oF
      rw [e0, e1]
    show x_o z f' 0 5 (x_oF (upd S.1 k v))
    rw [h9]
    exact h1.n e (by decide)
  · show x_o z f' 17 2 [.ref 18, .int (upd S.1 k v 2)]
    rw [e2]
    exact h5.n e (by decide)
theorem q_sj_in (s : Int32) : vp_in (s &&& 16383) 16384 := pk_andIn s 14 (by decide) (by decide)
theorem q_sj_lt (s : Int32) : q_sj s < 16384 := by
  have h := q_sj_in s
  rw [vp_in_iff] at h
  unfold q_sj
  show (s &&& 16383).toInt.toNat < 16384
  omega
theorem c_kpL {β : Nat → Nat} {fm : Int32} (hn : n ≤ 9) (hβ : ∀ b, β b ≤ 99) (hS : x_Sys z f S) (hK : e_is S K n) (ho : e_ok K) (R : q_K) (h : ∀ (f' : x_H) (S' : x_S), x_Sys z f' S' → e_is S' R n → c_ek S S' → S'.2.1 = S.2.1 → x_fr (fun q => 59 ≤ q) f f' → post none f') : ∀ (k i : Nat) (s : Int32), i + k = 16384 → q_kp n β fm k s K = R → X E (x_rm 1 0 0) mX1_keep (x_QM E z 0 0 post) 14 [(5, .int (nI i)), (4, .int s), (0, .ref 42), (1, .long (lN (q_eb β 0 n))), (3, .int fm)] [] z f 0 0 := by
  obtain ⟨k1, k2, k3, k4, k5, k6⟩ := id hK
  obtain ⟨o1, o2, o3⟩ := id ho
  intro k
  induction k with
  | zero =>
    intro i s hi hR
    have hi2 : i = 16384 := by omega
    subst hi2
    have hR2 : K = R := hR
    subst hR2
    refine x_iload (pc' := 16) rfl rfl rfl ?_
    refine x_sipush (pc' := 19) rfl rfl sipush_16384 ?_
    refine x_icmp_ge (tgt := 128) (pc' := 22) rfl rfl rfl (fun _ => ?_) (fun c19 => absurd ((by decide : (16384 : Int32) ≤ nI 16384)) c19)
    exact x_return rfl rfl (Nat.le_of_ble_eq_true rfl) (Nat.le_of_ble_eq_true rfl) (h _ _ hS hK c_ek.rf rfl x_fr.rf)
  | succ k ih =>
    intro i s hi hR
    unfold q_kp at hR
    have hsl := o3 (q_sj s)
    have hsj := q_sj_in s
    have es : S.2.2.1 3 (s &&& 16383).toNatClampNeg = nI (K.2.2.1 (q_sj s)) := by rw [k5]; rfl
    refine x_iload (pc' := 16) rfl rfl rfl ?_
    refine x_sipush (pc' := 19) rfl rfl sipush_16384 ?_
    refine x_icmp_ge (tgt := 128) (pc' := 22) rfl rfl rfl (fun c19 => absurd c19 ((nI_ge (a := i) (b := 16384) (by omega) (by decide)))) (fun _ => ?_)
    refine x_aload_n (pc' := 23) rfl rfl rfl ?_
    refine x_get (pc' := 26) rfl rfl rfl (hS.em) rfl ?_
    refine x_eqi k1 ?_
    refine x_sipush (pc' := 29) rfl rfl sipush_7381 ?_
    by_cases d0 : K.2.2.2.1 < 7381
    · rw [if_pos d0] at hR
      refine x_icmp_ge (tgt := 128) (pc' := 32) rfl rfl rfl (fun q => absurd q (nI_ge (b := 7381) d0 (by decide))) (fun _ => ?_)
      refine x_aload_n (pc' := 33) rfl rfl rfl ?_
      refine x_get (pc' := 36) rfl rfl rfl (hS.em) rfl ?_
      refine x_iload (pc' := 38) rfl rfl rfl ?_
      refine x_sipush (pc' := 41) rfl rfl sipush_16383 ?_
      refine x_iand (pc' := 42) rfl rfl ?_
      refine x_iaload (pc' := 43) rfl rfl (hS.2.2.1 3 (by decide)) (hsj) ?_
      refine x_eqi es ?_
      refine x_iconst (pc' := 44) rfl rfl iconst_1 ?_
      by_cases d1 : K.2.2.1 (q_sj s) = 0
      · rw [if_pos d1] at hR
        subst hR
        refine x_isub (pc' := 45) rfl rfl ?_
        refine x_eqi (show nI (K.2.2.1 (q_sj s)) - 1 = -1 from by rw [d1]; decide) ?_
        refine x_istore (pc' := 47) (lv' := [(6, _), (5, _), (4, _), (0, _), (1, _), (3, _)]) rfl rfl (Nat.le_of_ble_eq_true rfl) rfl ?_
        refine x_iload (pc' := 49) rfl rfl rfl ?_
        refine x_if_lt (tgt := 60) (pc' := 52) rfl rfl rfl (fun _ => ?_) (fun c49 => absurd ((by decide)) c49)
        refine x_aload_n (pc' := 61) rfl rfl rfl ?_
        refine x_get (pc' := 64) rfl rfl rfl (hS.em) rfl ?_
        refine x_aload_n (pc' := 65) rfl rfl rfl ?_
        refine x_get (pc' := 68) rfl rfl rfl (hS.em) rfl ?_
        refine x_eqi k1 ?_
        refine x_lload_n (pc' := 69) rfl rfl rfl ?_
        refine x_lastore (pc' := 70) rfl rfl (hS.2.2.2.1 0 (by decide)) (vp_in_nI (n := K.2.2.2.1) (N := 7381) d0 (by decide)) (fun f1 e1 => ?_)
        have hS1 := hS.lng 0 (by decide) e1
        have hF1 : x_fr (fun q => 59 ≤ q) f f1 := (x_fr.rf (P := fun q => 59 ≤ q)).up e1 (by decide)
        refine x_aload_n (pc' := 71) rfl rfl rfl ?_
        refine x_get (pc' := 74) rfl rfl rfl (hS1.em) rfl ?_
        refine x_aload_n (pc' := 75) rfl rfl rfl ?_
        refine x_get (pc' := 78) rfl rfl rfl (hS1.em) rfl ?_
        refine x_eqi k1 ?_
        refine x_iload_n (pc' := 79) rfl rfl rfl ?_
        refine x_iastore (pc' := 80) rfl rfl (hS1.2.2.1 2 (by decide)) (vp_in_nI (n := K.2.2.2.1) (N := 7381) d0 (by decide)) (fun f2 e2 => ?_)
        have hS2 := hS1.arr 2 (by decide) e2
        have hF2 := hF1.up e2 (by decide)
        refine x_aload_n (pc' := 81) rfl rfl rfl ?_
        refine x_dup (pc' := 82) rfl rfl rfl ?_
        refine x_get (pc' := 85) rfl rfl rfl (hS2.em) rfl ?_
        refine x_eqi k1 ?_
        refine x_iconst (pc' := 86) rfl rfl iconst_1 ?_
        refine x_iadd (pc' := 87) rfl rfl ?_
        refine x_eqi (nI_1 _) ?_
        refine x_put (pc' := 90) rfl rfl rfl (hS2.em) (Nat.le_of_ble_eq_true rfl) rfl rfl rfl rfl (fun f3 e3 => ?_)
        have hS3 := hS2.numE e3 (x_eFs3 _ _) (Nat.le_refl 3)
        have hF3 := hF2.up e3 (by decide)
        refine x_aload_n (pc' := 91) rfl rfl rfl ?_
        refine x_get (pc' := 94) rfl rfl rfl (hS3.em) rfl ?_
        refine x_iload (pc' := 96) rfl rfl rfl ?_
        refine x_sipush (pc' := 99) rfl rfl sipush_16383 ?_
        refine x_iand (pc' := 100) rfl rfl ?_
        refine x_aload_n (pc' := 101) rfl rfl rfl ?_
        refine x_get (pc' := 104) rfl rfl rfl (hS3.em) rfl ?_
        refine x_eqi (show upd S.1 3 (nI (K.2.2.2.1 + 1)) 3 = nI (K.2.2.2.1 + 1) from rfl) ?_
        refine x_iastore (pc' := 105) rfl rfl (hS3.2.2.1 3 (by decide)) (hsj) (fun f4 e4 => ?_)
        have hS4 := hS3.arr 3 (by decide) e4
        have hF4 := hF3.up e4 (by decide)
        have hcl : (nI K.2.2.2.1).toNatClampNeg = K.2.2.2.1 := nI_clamp (by omega)
        refine x_return rfl rfl (Nat.le_of_ble_eq_true rfl) (Nat.le_of_ble_eq_true rfl) (h _ _ hS4 ⟨rfl, k2, k3, fun p hp => ?_, ?_, fun p hp => ?_⟩ ⟨fun i hi => pk_un (by omega), fun _ _ _ => rfl, fun j a b => (if_neg b).trans (if_neg a), fun j a => if_neg a⟩ rfl hF4)
        · show upd (S.2.2.1 2) (nI K.2.2.2.1).toNatClampNeg fm p = upd K.2.1 K.2.2.2.1 fm p
          have hp2 : p < K.2.2.2.1 + 1 := hp
          rw [hcl]
          unfold upd
          by_cases dp : p = K.2.2.2.1
          · rw [if_pos dp, if_pos dp]
          · rw [if_neg dp, if_neg dp]
            exact k4 p (by omega)
        · show upd (S.2.2.1 3) (q_sj s) (nI (K.2.2.2.1 + 1)) = _
          rw [k5]
          exact q_up_I _ _ _
        · show vp_updL (S.2.2.2 0) (nI K.2.2.2.1).toNatClampNeg (lN (q_eb β 0 n)) p = lN (q_eb (if p = K.2.2.2.1 then β else K.1 p) 0 n)
          have hp2 : p < K.2.2.2.1 + 1 := hp
          rw [hcl]
          unfold vp_updL
          by_cases dp : p = K.2.2.2.1
          · rw [if_pos dp, if_pos dp]
          · rw [if_neg dp, if_neg dp]
            exact k6 p (by omega)
      · rw [if_neg d1] at hR
        refine x_isub (pc' := 45) rfl rfl ?_
        refine x_eqi (show nI (K.2.2.1 (q_sj s)) - 1 = nI (K.2.2.1 (q_sj s) - 1) from pk_sub (b := 1) (by omega)) ?_
        refine x_istore (pc' := 47) (lv' := [(6, _), (5, _), (4, _), (0, _), (1, _), (3, _)]) rfl rfl (Nat.le_of_ble_eq_true rfl) rfl ?_
        refine x_iload (pc' := 49) rfl rfl rfl ?_
        refine x_if_lt (tgt := 60) (pc' := 52) rfl rfl rfl (fun c49 => absurd c49 ((nI_pos (by omega)))) (fun _ => ?_)
        refine x_iload (pc' := 54) rfl rfl rfl ?_
        refine x_sipush (pc' := 57) rfl rfl sipush_7381 ?_
        refine x_icmp_lt (tgt := 106) (pc' := 60) rfl rfl rfl (fun _ => ?_) (fun c57 => absurd ((nI_lt (b := 7381) (by omega) (by decide))) c57)
        refine x_aload_n (pc' := 107) rfl rfl rfl ?_
        refine x_get (pc' := 110) rfl rfl rfl (hS.em) rfl ?_
        refine x_iload (pc' := 112) rfl rfl rfl ?_
        refine x_laload (pc' := 113) rfl rfl (hS.2.2.2.1 0 (by decide)) (vp_in_nI (n := K.2.2.1 (q_sj s) - 1) (N := 7381) (by omega) (by decide)) ?_
        refine x_eql (show S.2.2.2 0 (nI (K.2.2.1 (q_sj s) - 1)).toNatClampNeg = lN (q_eb (K.1 (K.2.2.1 (q_sj s) - 1)) 0 n) from by rw [nI_clamp (by omega)]; exact k6 _ (by omega)) ?_
        refine x_lload_n (pc' := 114) rfl rfl rfl ?_
        refine x_lcmp (pc' := 115) rfl rfl ?_
        have hx := q_eb_63 (fun b => Nat.le_trans (o2 (K.2.2.1 (q_sj s) - 1) (by omega) b) (by decide)) (b := 0) hn
        have hy := q_eb_63 (fun b => Nat.le_trans (hβ b) (by decide)) (b := 0) hn
        have hxy := q_eb_eq (fun b => Nat.le_trans (o2 (K.2.2.1 (q_sj s) - 1) (by omega) b) (by decide)) (fun b => Nat.le_trans (hβ b) (by decide : 99 ≤ 127)) n 0
        by_cases d2 : ∀ b, b < n → K.1 (K.2.2.1 (q_sj s) - 1) b = β b
        · rw [if_pos d2] at hR
          subst hR
          have e2 : q_eb (K.1 (K.2.2.1 (q_sj s) - 1)) 0 n = q_eb β 0 n := hxy.mpr (fun b _ hb => d2 b (by omega))
          refine x_if_ne (tgt := 119) (pc' := 118) rfl rfl rfl (fun q => absurd ?_ q) (fun _ => ?_)
          · rw [e2]
            exact i64_cmp0.mpr rfl
          · exact x_return rfl rfl (Nat.le_of_ble_eq_true rfl) (Nat.le_of_ble_eq_true rfl) (h _ _ hS hK c_ek.rf rfl x_fr.rf)
        · rw [if_neg d2] at hR
          have e2 : ¬ q_eb (K.1 (K.2.2.1 (q_sj s) - 1)) 0 n = q_eb β 0 n := fun q => d2 (fun b hb => hxy.mp q b (Nat.zero_le b) (by omega))
          refine x_if_ne (tgt := 119) (pc' := 118) rfl rfl rfl (fun _ => ?_) (fun q => absurd ?_ e2)
          · refine x_iinc (pc' := 122) (lv' := [(4, _), (6, _), (5, _), (0, _), (1, _), (3, _)]) rfl rfl (Nat.le_of_ble_eq_true rfl) rfl (rfl) rfl ?_
            refine x_iinc (pc' := 125) (lv' := [(5, _), (4, _), (6, _), (0, _), (1, _), (3, _)]) rfl rfl (Nat.le_of_ble_eq_true rfl) rfl (nI_1 i) rfl ?_
            refine x_goto (tgt := 14) rfl rfl ?_
            refine x_lvp [0, 1, 3, 4, 5] rfl ?_
            exact ih (i + 1) (s + 1) (by omega) hR
          · exact (pk_lEQ hx hy).mp (i64_cmp0.mp q)
    · rw [if_neg d0] at hR
      subst hR
      refine x_icmp_ge (tgt := 128) (pc' := 32) rfl rfl rfl (fun _ => ?_) (fun q => absurd (nI_le (a := 7381) (by omega) (by omega)) q)
      exact x_return rfl rfl (Nat.le_of_ble_eq_true rfl) (Nat.le_of_ble_eq_true rfl) (h _ _ hS hK c_ek.rf rfl x_fr.rf)
theorem c_keep {β : Nat → Nat} {fm : Int32} (hn : n ≤ 9) (hβ : ∀ b, β b ≤ 99) (hS : x_Sys z f S) (hK : e_is S K n) (ho : e_ok K) (h : ∀ (f' : x_H) (S' : x_S), x_Sys z f' S' → e_is S' (q_kp n β fm 16384 (q_hs (lN (q_eb β 0 n))) K) n → c_ek S S' → S'.2.1 = S.2.1 → x_fr (fun q => 59 ≤ q) f f' → post none f') : Y E 1 mX1_keep [.ref 42, .long (lN (q_eb β 0 n)), .int fm] z f 0 0 post := by
  refine Y.intro gX1_keep (lv := [(0, .ref 42), (1, .long (lN (q_eb β 0 n))), (3, .int fm)]) rfl (Nat.le_of_ble_eq_true rfl) ?_
  refine x_lload_n (pc' := 1) rfl rfl rfl ?_
  refine x_ldc2 (pc' := 4) rfl rfl rfl ?_
  refine x_lmul (pc' := 5) rfl rfl ?_
  refine x_bipush (pc' := 7) rfl rfl bipush_50 ?_
  refine x_lushr (pc' := 8) rfl rfl ?_
  refine x_l2i (pc' := 9) rfl rfl ?_
  refine x_eqi (show _ = q_hs (lN (q_eb β 0 n)) from rfl) ?_
  refine x_istore (pc' := 11) (lv' := [(4, _), (0, _), (1, _), (3, _)]) rfl rfl (Nat.le_of_ble_eq_true rfl) rfl ?_
  refine x_iconst (pc' := 12) rfl rfl iconst_0 ?_
  refine x_istore (pc' := 14) (lv' := [(5, _), (4, _), (0, _), (1, _), (3, _)]) rfl rfl (Nat.le_of_ble_eq_true rfl) rfl ?_
  exact c_kpL hn hβ hS hK ho _ h 16384 0 _ (by decide) rfl
end EM
