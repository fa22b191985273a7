/-! The class's Table makes a move. -/
def q_V (T T' : x_T) (β : Nat → Nat) (hs s : Nat) (l : Option Nat) : Prop := T'.1 = T.1 ∧ T'.2.1 = (fun i => nI (β i)) ∧ T'.2.2.1 = T.2.2.1 ∧ (∀ i, i ≠ 5 → i ≠ 6 → i ≠ 7 → T'.2.2.2 i = T.2.2.2 i) ∧ T'.2.2.2 5 = nI hs ∧ T'.2.2.2 6 = q_lI l ∧ T'.2.2.2 7 = nI s
/-- behind a move: v is q_mv -/
def q_Fin (T T' : x_T) (v : (Nat → Nat) × Nat × Nat × Option Nat) (π : Nat → Nat) (tu : Nat) : Prop := T'.1 = T.1 ∧ T'.2.1 = (fun i => nI (q_b1 v.1 (π tu) v.2.2.2 i)) ∧ T'.2.2.1 = (fun i => nI (q_p1 v.1 π tu v.2.2.2 i)) ∧ T'.2.2.2 0 = T.2.2.2 0 ∧ T'.2.2.2 1 = T.2.2.2 1 ∧ T'.2.2.2 2 = T.2.2.2 2 ∧ T'.2.2.2 3 = nI (1 - tu) ∧ T'.2.2.2 4 = T.2.2.2 4 + 1 ∧ T'.2.2.2 5 = nI v.2.1 ∧ T'.2.2.2 6 = q_lI v.2.2.2 ∧ T'.2.2.2 7 = nI v.2.2.1 ∧ T'.2.2.2 8 = (if q_tk1 v.1 (π tu) v.2.2.2 = true then 1 else 0)
section MAKE
variable {E : x_E} {z : Nat} {f : x_H} {t : Nat} {T : x_T} {post : Option Value → x_H → Prop} {n fu ln b tu : Nat} {κ β π : Nat → Nat} {l : Option Nat}
theorem w_mvL {b0 : Nat} (hn : T.2.2.2 0 = nI n) (hn9 : n ≤ 9) (hfu : T.2.2.2 1 = nI fu) (hfu9 : fu < 2 ^ 20) (hln : T.2.2.2 2 = nI ln) (hln9 : ln < 2 ^ 31) (hκ : T.1 = fun i => nI (κ i)) (hκ5 : ∀ i, κ i ≤ 5) (vf : (Nat → Nat) × Nat × Nat × Option Nat)
    (K : ∀ (g : x_H) (Tg : x_T) (v2 v3 : Int32), x_t z g t Tg → q_V T Tg vf.1 vf.2.1 vf.2.2.1 vf.2.2.2 → x_fr (x_ot t) f g → X E (x_rm 4 0 0) mX3_makeMove (x_QM E z 0 0 post) 80 [(2, .int v2), (3, .int v3), (0, .ref t), (1, .int (nI b0))] [] z g 0 0) :
    ∀ (k : Nat) (β : Nat → Nat) (b hs s : Nat) (l : Option Nat) (g : x_H) (Tg : x_T), hs + k = 60 → s ≤ 100 * hs → b < n → (∀ i, β i ≤ 100) → (∀ p, l = some p → p < n) → q_hands κ n fu ln k β b hs s l = vf → x_t z g t Tg → q_V T Tg β hs s l → x_fr (x_ot t) f g → X E (x_rm 4 0 0) mX3_makeMove (x_QM E z 0 0 post) 24 [(2, .int (nI b)), (3, .int 1), (0, .ref t), (1, .int (nI b0))] [] z g 0 0 := by
  intro k
  induction k with
  | zero =>
    intro β b hs s l g Tg hk hs2 hb hβ hl hv hT hV hF
    have hs60 : hs = 60 := by omega
    subst hs60
    have hv0 : (β, 60, s, l) = vf := hv
    subst hv0
    refine x_iload_n (pc' := 25) rfl rfl rfl ?_
    refine x_if_eq (tgt := 80) (pc' := 28) rfl rfl rfl (fun c25 => absurd c25 ((by decide))) (fun _ => ?_)
    refine x_aload_n (pc' := 29) rfl rfl rfl ?_
    refine x_get (pc' := 32) rfl rfl rfl (hT.1) rfl ?_
    refine x_eqi hV.2.2.2.2.1 ?_
    refine x_bipush (pc' := 34) rfl rfl bipush_60 ?_
    refine x_icmp_ge (tgt := 80) (pc' := 37) rfl rfl rfl (fun _ => ?_) (fun c34 => absurd ((by decide : (60 : Int32) ≤ nI 60)) c34)
    exact K g Tg _ _ hT hV hF
  | succ k ih =>
    intro β b hs s l g Tg hk hs2 hb hβ hl hv hT hV hF
    obtain ⟨r1, r2, r3, r4, r5, r6, r7⟩ := id hV
    have hn' : Tg.2.2.2 0 = nI n := (r4 0 (by decide) (by decide) (by decide)).trans hn
    have hfu' : Tg.2.2.2 1 = nI fu := (r4 1 (by decide) (by decide) (by decide)).trans hfu
    have hln' : Tg.2.2.2 2 = nI ln := (r4 2 (by decide) (by decide) (by decide)).trans hln
    have hκ' : Tg.1 = fun i => nI (κ i) := r1.trans hκ
    have hle := q_hand_le (κ := κ) (n := n) (fu := fu) (ln := ln) (b := b) (l := l) (C := 100) (by decide) hβ
    have hla := q_hand_l (κ := κ) (fu := fu) (ln := ln) hb hβ hl
    have eq1 : q_hands κ n fu ln (k + 1) β b hs s l = (if 0 < (q_hand κ n fu ln β b l).2.1 ∧ q_full κ (q_hand κ n fu ln β b l).1 fu ((q_hand κ n fu ln β b l).2.2.getD 0) then q_hands κ n fu ln k (q_hand κ n fu ln β b l).1 ((q_hand κ n fu ln β b l).2.2.getD 0) (hs + 1) (s + (q_hand κ n fu ln β b l).2.1) (q_hand κ n fu ln β b l).2.2 else ((q_hand κ n fu ln β b l).1, hs + 1, s + (q_hand κ n fu ln β b l).2.1, (q_hand κ n fu ln β b l).2.2)) := rfl
    rw [eq1] at hv
    refine x_iload_n (pc' := 25) rfl rfl rfl ?_
    refine x_if_eq (tgt := 80) (pc' := 28) rfl rfl rfl (fun c25 => absurd c25 ((by decide))) (fun _ => ?_)
    refine x_aload_n (pc' := 29) rfl rfl rfl ?_
    refine x_get (pc' := 32) rfl rfl rfl (hT.1) rfl ?_
    refine x_eqi r5 ?_
    refine x_bipush (pc' := 34) rfl rfl bipush_60 ?_
    refine x_icmp_ge (tgt := 80) (pc' := 37) rfl rfl rfl (fun c34 => absurd c34 (nI_ge (a := hs) (b := 60) (by omega) (by decide))) (fun _ => ?_)
    refine x_aload_n (pc' := 38) rfl rfl rfl ?_
    refine x_dup (pc' := 39) rfl rfl rfl ?_
    refine x_get (pc' := 42) rfl rfl rfl (hT.1) rfl ?_
    refine x_eqi r5 ?_
    refine x_iconst (pc' := 43) rfl rfl iconst_1 ?_
    refine x_iadd (pc' := 44) rfl rfl ?_
    refine x_eqi (nI_1 _) ?_
    refine x_put (pc' := 47) rfl rfl rfl (hT.1) (Nat.le_of_ble_eq_true rfl) rfl rfl rfl rfl (fun f1 e1 => ?_)
    have hT1 := hT.num 5 e1 (x_tFs5 _ _ _)
    have hF1 := hF.up e1 (x_ot_in (by omega) (by omega))
    refine x_aload_n (pc' := 48) rfl rfl rfl ?_
    refine x_iload_n (pc' := 49) rfl rfl rfl ?_
    refine x_cV1i (d := 3) (pc' := 52) rfl rfl sX3_73 gX3_sowHand (hT1.1) ⟨Nat.le_of_ble_eq_true rfl, Nat.le_of_ble_eq_true rfl⟩ (Nat.le_of_ble_eq_true rfl) ⟨Nat.le_of_ble_eq_true rfl, Nat.le_of_ble_eq_true rfl⟩ ?_
    refine w_sowHand (T := (Tg.1, Tg.2.1, Tg.2.2.1, upd Tg.2.2.2 5 (nI (hs + 1)))) (s0 := s) hT1 hn' hn9 hfu' hfu9 hln' hln9 hκ' hκ5 r2 hβ hb r6 hl r7 (by omega) (fun f2 T2 hT2 hR2 hF2 => ⟨_, rfl, ?_⟩)
    generalize hr : q_hand κ n fu ln β b l = r at *
    obtain ⟨u1, u2, u3, u4, u5, u6⟩ := hR2
    have hF3 := hF1.trans hF2
    have hn2 : T2.2.2.2 0 = nI n := (u4 0 (by decide) (by decide)).trans hn'
    have hfu2 : T2.2.2.2 1 = nI fu := (u4 1 (by decide) (by decide)).trans hfu'
    have hV2 : q_V T T2 r.1 (hs + 1) (s + r.2.1) r.2.2 := ⟨u1.trans r1, u2, u3.trans r3, fun j a1 a2 a3 => (u4 j a2 a3).trans ((pk_un a1).trans (r4 j a1 a2 a3)), u4 5 (by decide) (by decide), u5, u6⟩
    by_cases d1 : 0 < r.2.1
    · rw [if_pos d1]
      obtain ⟨p, hp, hpn⟩ := hla.2 d1
      have hgd : r.2.2.getD 0 = p := by rw [hp]; rfl
      rw [hgd] at hv
      have e6 : T2.2.2.2 6 = nI p := by rw [u5, hp]; rfl
      refine x_if_eq (tgt := 70) (pc' := 55) rfl rfl rfl (fun q => absurd q (by decide)) (fun _ => ?_)
      refine x_aload_n (pc' := 56) rfl rfl rfl ?_
      refine x_aload_n (pc' := 57) rfl rfl rfl ?_
      refine x_get (pc' := 60) rfl rfl rfl (hT2.1) rfl ?_
      refine x_eqi e6 ?_
      refine x_cV1i (d := 3) (pc' := 63) rfl rfl sX3_76 gX3_isFull (hT2.1) ⟨Nat.le_of_ble_eq_true rfl, Nat.le_of_ble_eq_true rfl⟩ (Nat.le_of_ble_eq_true rfl) ⟨Nat.le_of_ble_eq_true rfl, Nat.le_of_ble_eq_true rfl⟩ ?_
      refine w_isFull hT2 hn2 hn9 hfu2 hfu9 (u1.trans hκ') u2 hκ5 hle.1 hpn (fun d2 => ⟨_, rfl, ?_⟩) (fun d2 => ⟨_, rfl, ?_⟩)
      · rw [if_pos ⟨d1, d2⟩] at hv
        refine x_if_eq (tgt := 70) (pc' := 66) rfl rfl rfl (fun c63 => absurd c63 ((by decide))) (fun _ => ?_)
        refine x_iconst (pc' := 67) rfl rfl iconst_1 ?_
        refine x_goto (tgt := 71) rfl rfl ?_
        refine x_istore_n (pc' := 72) (lv' := [(3, _), (2, _), (0, _), (1, _)]) rfl rfl (Nat.le_of_ble_eq_true rfl) rfl ?_
        refine x_aload_n (pc' := 73) rfl rfl rfl ?_
        refine x_get (pc' := 76) rfl rfl rfl (hT2.1) rfl ?_
        refine x_eqi e6 ?_
        refine x_istore_n (pc' := 77) (lv' := [(2, _), (3, _), (0, _), (1, _)]) rfl rfl (Nat.le_of_ble_eq_true rfl) rfl ?_
        refine x_goto (tgt := 24) rfl rfl ?_
        exact ih _ _ _ _ _ _ _ (by omega) (by omega) hpn hle.1 hla.1 hv hT2 hV2 hF3
      · rw [if_neg (fun q => d2 q.2)] at hv
        subst hv
        refine x_if_eq (tgt := 70) (pc' := 66) rfl rfl rfl (fun _ => ?_) (fun c63 => absurd ((by decide)) c63)
        refine x_iconst (pc' := 71) rfl rfl iconst_0 ?_
        refine x_istore_n (pc' := 72) (lv' := [(3, _), (2, _), (0, _), (1, _)]) rfl rfl (Nat.le_of_ble_eq_true rfl) rfl ?_
        refine x_aload_n (pc' := 73) rfl rfl rfl ?_
        refine x_get (pc' := 76) rfl rfl rfl (hT2.1) rfl ?_
        refine x_istore_n (pc' := 77) (lv' := [(2, _), (3, _), (0, _), (1, _)]) rfl rfl (Nat.le_of_ble_eq_true rfl) rfl ?_
        refine x_goto (tgt := 24) rfl rfl ?_
        refine x_iload_n (pc' := 25) rfl rfl rfl ?_
        refine x_if_eq (tgt := 80) (pc' := 28) rfl rfl rfl (fun _ => ?_) (fun c25 => absurd ((by decide)) c25)
        exact K _ _ _ _ hT2 hV2 hF3
    · rw [if_neg d1]
      rw [if_neg (fun q => d1 q.1)] at hv
      subst hv
      refine x_if_eq (tgt := 70) (pc' := 55) rfl rfl rfl (fun _ => ?_) (fun q => absurd (by decide) q)
      refine x_iconst (pc' := 71) rfl rfl iconst_0 ?_
      refine x_istore_n (pc' := 72) (lv' := [(3, _), (2, _), (0, _), (1, _)]) rfl rfl (Nat.le_of_ble_eq_true rfl) rfl ?_
      refine x_aload_n (pc' := 73) rfl rfl rfl ?_
      refine x_get (pc' := 76) rfl rfl rfl (hT2.1) rfl ?_
      refine x_istore_n (pc' := 77) (lv' := [(2, _), (3, _), (0, _), (1, _)]) rfl rfl (Nat.le_of_ble_eq_true rfl) rfl ?_
      refine x_goto (tgt := 24) rfl rfl ?_
      refine x_iload_n (pc' := 25) rfl rfl rfl ?_
      refine x_if_eq (tgt := 80) (pc' := 28) rfl rfl rfl (fun _ => ?_) (fun c25 => absurd ((by decide)) c25)
      exact K _ _ _ _ hT2 hV2 hF3
theorem w_makeMove (hT : x_t z f t T) (hn : T.2.2.2 0 = nI n) (hn9 : n ≤ 9) (hfu : T.2.2.2 1 = nI fu) (hfu9 : fu < 2 ^ 20) (hln : T.2.2.2 2 = nI ln) (hln9 : ln < 2 ^ 31) (hκ : T.1 = fun i => nI (κ i)) (hκ5 : ∀ i, κ i ≤ 5) (hβ : T.2.1 = fun i => nI (β i)) (hβ5 : ∀ i, β i ≤ 100) (hb : b < n) (htu : T.2.2.2 3 = nI tu) (htu1 : tu ≤ 1) (hπ : T.2.2.1 = fun i => nI (π i)) (hπ5 : ∀ i, π i < 2 ^ 30)
    (h : ∀ (f' : x_H) (T' : x_T), x_t z f' t T' → q_Fin T T' (q_mv κ n fu ln β b) π tu → x_fr (x_ot t) f f' → post none f') : Y E 4 mX3_makeMove [.ref t, .int (nI b)] z f 0 0 post := by
  refine Y.intro gX3_makeMove (lv := [(0, .ref t), (1, .int (nI b))]) rfl (Nat.le_of_ble_eq_true rfl) ?_
  have hcl : (nI b).toNatClampNeg = b := nI_clamp (by omega)
  have hbb := hβ5 b
  have hK : ∀ (g : x_H) (Tg : x_T) (v2 v3 : Int32), x_t z g t Tg → q_V T Tg (q_mv κ n fu ln β b).1 (q_mv κ n fu ln β b).2.1 (q_mv κ n fu ln β b).2.2.1 (q_mv κ n fu ln β b).2.2.2 → x_fr (x_ot t) f g → X E (x_rm 4 0 0) mX3_makeMove (x_QM E z 0 0 post) 80 [(2, .int v2), (3, .int v3), (0, .ref t), (1, .int (nI b))] [] z g 0 0 := by
    intro g Tg v2 v3 hTg hVg hFg
    have hok : (∀ i, (q_mv κ n fu ln β b).1 i ≤ 100) ∧ (∀ p, (q_mv κ n fu ln β b).2.2.2 = some p → p < n) := by
      unfold q_mv
      split
      · exact q_hands_ok (by decide) (by decide) 60 β b 0 0 none hb hβ5 (fun p hp => by cases hp)
      · exact ⟨hβ5, fun p hp => by cases hp⟩
    generalize q_mv κ n fu ln β b = v at *
    obtain ⟨r1, r2, r3, r4, r5, r6, r7⟩ := id hVg
    have hn' : Tg.2.2.2 0 = nI n := (r4 0 (by decide) (by decide) (by decide)).trans hn
    have htu' : Tg.2.2.2 3 = nI tu := (r4 3 (by decide) (by decide) (by decide)).trans htu
    refine x_aload_n (pc' := 81) rfl rfl rfl ?_
    refine x_aload_n (pc' := 82) rfl rfl rfl ?_
    refine x_cV0i (d := 3) (pc' := 85) rfl rfl sX3_79 gX3_takeSingle (hTg.1) ⟨Nat.le_of_ble_eq_true rfl, Nat.le_of_ble_eq_true rfl⟩ (Nat.le_of_ble_eq_true rfl) ⟨Nat.le_of_ble_eq_true rfl, Nat.le_of_ble_eq_true rfl⟩ ?_
    refine w_takeSingle hTg hn' hn9 r2 hok.1 r6 hok.2 htu' htu1 (r3.trans hπ) hπ5 (fun f1 hT1 hF1 => ⟨_, rfl, ?_⟩)
    by_cases d1 : q_tk1 v.1 (π tu) v.2.2.2 = true
    · rw [if_pos d1]
      refine x_if_eq (tgt := 92) (pc' := 88) rfl rfl rfl (fun q => absurd q (by decide)) (fun _ => ?_)
      refine x_iconst (pc' := 89) rfl rfl iconst_1 ?_
      refine x_goto (tgt := 93) rfl rfl ?_
      refine x_put (pc' := 96) rfl rfl rfl (hT1.1) (Nat.le_of_ble_eq_true rfl) rfl rfl rfl rfl (fun f1 e1 => ?_)
      have hT2 := hT1.num 8 e1 (x_tFs8 _ _ _)
      have hF2 := hF1.up e1 (x_ot_in (by omega) (by omega))
      refine x_aload_n (pc' := 97) rfl rfl rfl ?_
      refine x_iconst (pc' := 98) rfl rfl iconst_1 ?_
      refine x_aload_n (pc' := 99) rfl rfl rfl ?_
      refine x_get (pc' := 102) rfl rfl rfl (hT2.1) rfl ?_
      refine x_eqi htu' ?_
      refine x_isub (pc' := 103) rfl rfl ?_
      refine x_eqi (show (1 : Int32) - nI tu = nI (1 - tu) from pk_sub (a := 1) (b := tu) htu1) ?_
      refine x_put (pc' := 106) rfl rfl rfl (hT2.1) (Nat.le_of_ble_eq_true rfl) rfl rfl rfl rfl (fun f2 e2 => ?_)
      have hT3 := hT2.num 3 e2 (x_tFs3 _ _ _)
      have hF3 := hF2.up e2 (x_ot_in (by omega) (by omega))
      refine x_aload_n (pc' := 107) rfl rfl rfl ?_
      refine x_dup (pc' := 108) rfl rfl rfl ?_
      refine x_get (pc' := 111) rfl rfl rfl (hT3.1) rfl ?_
      refine x_iconst (pc' := 112) rfl rfl iconst_1 ?_
      refine x_iadd (pc' := 113) rfl rfl ?_
      refine x_put (pc' := 116) rfl rfl rfl (hT3.1) (Nat.le_of_ble_eq_true rfl) rfl rfl rfl rfl (fun f3 e3 => ?_)
      have hT4 := hT3.num 4 e3 (x_tFs4 _ _ _)
      have hF4 := hF3.up e3 (x_ot_in (by omega) (by omega))
      exact x_return rfl rfl (Nat.le_of_ble_eq_true rfl) (Nat.le_of_ble_eq_true rfl) (h _ _ hT4 ⟨r1, rfl, rfl, r4 0 (by decide) (by decide) (by decide), r4 1 (by decide) (by decide) (by decide), r4 2 (by decide) (by decide) (by decide), rfl, congrArg (· + 1) (r4 4 (by decide) (by decide) (by decide)), r5, r6, r7, (if_pos d1).symm⟩ (hFg.trans hF4))
    · rw [if_neg d1]
      refine x_if_eq (tgt := 92) (pc' := 88) rfl rfl rfl (fun _ => ?_) (fun q => absurd (by decide) q)
      refine x_iconst (pc' := 93) rfl rfl iconst_0 ?_
      refine x_put (pc' := 96) rfl rfl rfl (hT1.1) (Nat.le_of_ble_eq_true rfl) rfl rfl rfl rfl (fun f4 e4 => ?_)
      have hT2 := hT1.num 8 e4 (x_tFs8 _ _ _)
      have hF2 := hF1.up e4 (x_ot_in (by omega) (by omega))
      refine x_aload_n (pc' := 97) rfl rfl rfl ?_
      refine x_iconst (pc' := 98) rfl rfl iconst_1 ?_
      refine x_aload_n (pc' := 99) rfl rfl rfl ?_
      refine x_get (pc' := 102) rfl rfl rfl (hT2.1) rfl ?_
      refine x_eqi htu' ?_
      refine x_isub (pc' := 103) rfl rfl ?_
      refine x_eqi (show (1 : Int32) - nI tu = nI (1 - tu) from pk_sub (a := 1) (b := tu) htu1) ?_
      refine x_put (pc' := 106) rfl rfl rfl (hT2.1) (Nat.le_of_ble_eq_true rfl) rfl rfl rfl rfl (fun f5 e5 => ?_)
      have hT3 := hT2.num 3 e5 (x_tFs3 _ _ _)
      have hF3 := hF2.up e5 (x_ot_in (by omega) (by omega))
      refine x_aload_n (pc' := 107) rfl rfl rfl ?_
      refine x_dup (pc' := 108) rfl rfl rfl ?_
      refine x_get (pc' := 111) rfl rfl rfl (hT3.1) rfl ?_
      refine x_iconst (pc' := 112) rfl rfl iconst_1 ?_
      refine x_iadd (pc' := 113) rfl rfl ?_
      refine x_put (pc' := 116) rfl rfl rfl (hT3.1) (Nat.le_of_ble_eq_true rfl) rfl rfl rfl rfl (fun f6 e6 => ?_)
      have hT4 := hT3.num 4 e6 (x_tFs4 _ _ _)
      have hF4 := hF3.up e6 (x_ot_in (by omega) (by omega))
      exact x_return rfl rfl (Nat.le_of_ble_eq_true rfl) (Nat.le_of_ble_eq_true rfl) (h _ _ hT4 ⟨r1, rfl, rfl, r4 0 (by decide) (by decide) (by decide), r4 1 (by decide) (by decide) (by decide), r4 2 (by decide) (by decide) (by decide), rfl, congrArg (· + 1) (r4 4 (by decide) (by decide) (by decide)), r5, r6, r7, (if_neg d1).symm⟩ (hFg.trans hF4))
  refine x_aload_n (pc' := 1) rfl rfl rfl ?_
  refine x_iconst (pc' := 2) rfl rfl iconst_0 ?_
  refine x_put (pc' := 5) rfl rfl rfl (hT.1) (Nat.le_of_ble_eq_true rfl) rfl rfl rfl rfl (fun f1 e1 => ?_)
  have hT1 := hT.num 5 e1 (x_tFs5 _ _ _)
  have hF1 := (x_fr.rf (P := x_ot t)).up e1 (x_ot_in (by omega) (by omega))
  refine x_aload_n (pc' := 6) rfl rfl rfl ?_
  refine x_bipush (pc' := 8) rfl rfl bipush_m9 ?_
  refine x_put (pc' := 11) rfl rfl rfl (hT1.1) (Nat.le_of_ble_eq_true rfl) rfl rfl rfl rfl (fun f2 e2 => ?_)
  have hT2 := hT1.num 6 e2 (x_tFs6 _ _ _)
  have hF2 := hF1.up e2 (x_ot_in (by omega) (by omega))
  refine x_aload_n (pc' := 12) rfl rfl rfl ?_
  refine x_iconst (pc' := 13) rfl rfl iconst_0 ?_
  refine x_put (pc' := 16) rfl rfl rfl (hT2.1) (Nat.le_of_ble_eq_true rfl) rfl rfl rfl rfl (fun f3 e3 => ?_)
  have hT3 := hT2.num 7 e3 (x_tFs7 _ _ _)
  have hF3 := hF2.up e3 (x_ot_in (by omega) (by omega))
  refine x_iload_n (pc' := 17) rfl rfl rfl ?_
  refine x_istore_n (pc' := 18) (lv' := [(2, _), (0, _), (1, _)]) rfl rfl (Nat.le_of_ble_eq_true rfl) rfl ?_
  refine x_aload_n (pc' := 19) rfl rfl rfl ?_
  refine x_iload_n (pc' := 20) rfl rfl rfl ?_
  refine x_cV1i (d := 2) (pc' := 23) rfl rfl sX3_70 gX3_canMove (hT3.1) ⟨Nat.le_of_ble_eq_true rfl, Nat.le_of_ble_eq_true rfl⟩ (Nat.le_of_ble_eq_true rfl) ⟨Nat.le_of_ble_eq_true rfl, Nat.le_of_ble_eq_true rfl⟩ ?_
  have hV3 : q_V T (T.1, T.2.1, T.2.2.1, upd (upd (upd T.2.2.2 5 0) 6 (-9)) 7 0) β 0 0 none := ⟨rfl, hβ, rfl, fun j a1 a2 a3 => (pk_un a3).trans ((pk_un a2).trans (pk_un a1)), rfl, rfl, rfl⟩
  refine w_canMove hT3 (fun d => ⟨_, rfl, ?_⟩) (fun d => ⟨_, rfl, ?_⟩)
  · have d2 : 2 ≤ n := Nat.not_lt.mp (fun q => nI_ge (a := n) (b := 2) q (by decide) (by have h2 : (2 : Int32) ≤ T.2.2.2 0 := d.1; rw [hn] at h2; exact h2))
    have d3 : 0 < β b := Nat.pos_of_ne_zero (fun q => by have h2 : (0 : Int32) < T.2.1 (nI b).toNatClampNeg := d.2.2; rw [show T.2.1 (nI b).toNatClampNeg = nI (β b) from by rw [hcl, hβ], q] at h2; exact absurd h2 (by decide))
    have em : q_mv κ n fu ln β b = q_hands κ n fu ln 60 β b 0 0 none := by unfold q_mv; rw [if_pos ⟨d2, d3⟩]
    refine x_istore_n (pc' := 24) (lv' := [(3, _), (2, _), (0, _), (1, _)]) rfl rfl (Nat.le_of_ble_eq_true rfl) rfl ?_
    refine x_lvp [1, 0, 2, 3] rfl ?_
    exact w_mvL (T := T) (f := f) hn hn9 hfu hfu9 hln hln9 hκ hκ5 _ hK 60 β b 0 0 none _ _ rfl (by omega) hb hβ5 (fun p hp => by cases hp) em.symm hT3 hV3 hF3
  · have em : q_mv κ n fu ln β b = (β, 0, 0, none) := by
      unfold q_mv
      rw [if_neg]
      intro q
      refine d ⟨?_, t_has_nI hn hn9 hb, ?_⟩
      · show (2 : Int32) ≤ T.2.2.2 0
        rw [hn]
        exact nI_le (a := 2) (b := n) q.1 (by omega)
      · show (0 : Int32) < T.2.1 (nI b).toNatClampNeg
        rw [hcl, hβ]
        exact nI_lt (a := 0) (b := β b) q.2 (by omega)
    refine x_istore_n (pc' := 24) (lv' := [(3, _), (2, _), (0, _), (1, _)]) rfl rfl (Nat.le_of_ble_eq_true rfl) rfl ?_
    refine x_iload_n (pc' := 25) rfl rfl rfl ?_
    refine x_if_eq (tgt := 80) (pc' := 28) rfl rfl rfl (fun _ => ?_) (fun c25 => absurd ((by decide)) c25)
    refine x_lvp [1, 0, 2, 3] rfl ?_
    refine hK _ _ _ _ hT3 ?_ hF3
    rw [em]
    exact hV3
end MAKE
