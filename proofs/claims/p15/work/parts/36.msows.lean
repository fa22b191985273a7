/-! The reference makes a move. -/
theorem q_N.trans {M M1 M2 : x_N} {β β' : Nat → Nat} {l l' : Option Nat} (h1 : q_N M M1 β l) (h2 : q_N M1 M2 β' l') : q_N M M2 β' l' := ⟨h2.1, fun j hj => (h2.2.1 j hj).trans (h1.2.1 j hj), h2.2.2.1.trans h1.2.2.1, fun i a b c => (h2.2.2.2.1 i a b c).trans (h1.2.2.2.1 i a b c), h2.2.2.2.2⟩
theorem nI_iff_lt {a b : Nat} (ha : a < 2 ^ 31) (hb : b < 2 ^ 31) : nI a < nI b ↔ a < b := nI_ltI ha hb
section MSOWS
variable {E : x_E} {z : Nat} {f : x_H} {M : x_N} {post : Option Value → x_H → Prop} {n fu ln b tu : Nat} {κ β π : Nat → Nat} {l : Option Nat}
theorem m_swL {b0 : Nat} (hn : M.1 3 = nI n) (hn9 : n ≤ 9) (hfu : M.1 4 = nI fu) (hfu9 : fu < 2 ^ 20) (hln : M.1 5 = nI ln) (hln9 : ln < 2 ^ 31) (hκ : M.2.1 0 = fun i => nI (κ i)) (hκ5 : ∀ i, κ i ≤ 5) (vf : (Nat → Nat) × Nat × Nat × Option Nat)
    (K : ∀ (g : x_H) (Mg : x_N) (v2 : Int32), x_Mdl z g Mg → q_N M Mg vf.1 vf.2.2.2 → Mg.1 14 = nI vf.2.1 → Mg.1 16 = nI vf.2.2.1 → x_fr (fun q => q < 59) f g → X E (x_rm 3 0 0) mX6_sows (x_QM E z 0 0 post) 77 [(2, .int v2), (0, .ref 59), (1, .int (nI b0))] [] z g 0 0) :
    ∀ (k : Nat) (β : Nat → Nat) (hs s sown : Nat) (l : Option Nat) (g : x_H) (Mg : x_N), hs + k = 60 → s ≤ 100 * hs → sown ≤ 100 → (0 < sown → ∃ p, l = some p ∧ p < n) → (∀ i, β i ≤ 100) → (∀ p, l = some p → p < n) → (if 0 < sown ∧ q_full κ β fu (l.getD 0) then q_hands κ n fu ln k β (l.getD 0) hs s l else (β, hs, s, l)) = vf → x_Mdl z g Mg → q_N M Mg β l → Mg.1 14 = nI hs → Mg.1 16 = nI s → x_fr (fun q => q < 59) f g → X E (x_rm 3 0 0) mX6_sows (x_QM E z 0 0 post) 27 [(2, .int (nI sown)), (0, .ref 59), (1, .int (nI b0))] [] z g 0 0 := by
  intro k
  induction k with
  | zero =>
    intro β hs s sown l g Mg hk hs2 hsn hp hβ hl hv hM hN h14 h16 hF
    have hs60 : hs = 60 := by omega
    subst hs60
    have hv0 : (β, 60, s, l) = vf := by
      rw [← hv]
      split <;> rfl
    subst hv0
    by_cases d1 : 0 < sown
    ·
      refine x_iload_n (pc' := 28) rfl rfl rfl ?_
      refine x_if_le (tgt := 77) (pc' := 31) rfl rfl rfl (fun c28 => absurd c28 (Int32.not_le.mpr (nI_lt (a := 0) (b := sown) d1 (by omega)))) (fun _ => ?_)
      refine x_aload_n (pc' := 32) rfl rfl rfl ?_
      refine x_get (pc' := 35) rfl rfl rfl (hM.1) rfl ?_
      refine x_eqi h14 ?_
      refine x_bipush (pc' := 37) rfl rfl bipush_60 ?_
      refine x_icmp_ge (tgt := 77) (pc' := 40) rfl rfl rfl (fun _ => ?_) (fun c37 => absurd ((by decide : (60 : Int32) ≤ nI 60)) c37)
      exact K g Mg _ hM hN h14 h16 hF
    · have h0 : sown = 0 := by omega
      subst h0
      refine x_iload_n (pc' := 28) rfl rfl rfl ?_
      refine x_if_le (tgt := 77) (pc' := 31) rfl rfl rfl (fun _ => ?_) (fun c28 => absurd ((by decide : nI 0 ≤ 0)) c28)
      exact K g Mg _ hM hN h14 h16 hF
  | succ k ih =>
    intro β hs s sown l g Mg hk hs2 hsn hp hβ hl hv hM hN h14 h16 hF
    obtain ⟨r1, r2, r3, r4, r5⟩ := id hN
    have hn' : Mg.1 3 = nI n := (r4 3 (by decide) (by decide) (by decide)).trans hn
    have hfu' : Mg.1 4 = nI fu := (r4 4 (by decide) (by decide) (by decide)).trans hfu
    have hln' : Mg.1 5 = nI ln := (r4 5 (by decide) (by decide) (by decide)).trans hln
    have hκ' : Mg.2.1 0 = fun i => nI (κ i) := (r2 0 (by decide)).trans hκ
    by_cases d1 : 0 < sown
    · obtain ⟨p, hpe, hpn⟩ := hp d1
      have hgd : l.getD 0 = p := by rw [hpe]; rfl
      rw [hgd] at hv
      have e15 : Mg.1 15 = nI p := by rw [r5, hpe]; rfl
      have hcl : (nI p).toNatClampNeg = p := nI_clamp (by omega)
      have hv9 : vp_in (nI p) 9 := vp_in_nI (by omega) (by decide)
      have eβ : Mg.2.1 1 (nI p).toNatClampNeg = nI (β p) := by rw [hcl, r1]
      have eκ : Mg.2.1 0 (nI p).toNatClampNeg = nI (κ p) := by rw [hcl, hκ']
      have b1 := hβ p
      have b2 := hκ5 p
      have hqf : q_from (κ p) fu < 2 ^ 31 := by
        unfold q_from
        repeat' split
        all_goals omega
      have hle := q_hand_le (κ := κ) (fu := fu) (n := n) (ln := ln) (b := p) (l := l) (C := 100) (by decide) hβ
      have hla := q_hand_l (κ := κ) (fu := fu) (ln := ln) hpn hβ hl
      refine x_iload_n (pc' := 28) rfl rfl rfl ?_
      refine x_if_le (tgt := 77) (pc' := 31) rfl rfl rfl (fun c28 => absurd c28 (Int32.not_le.mpr (nI_lt (a := 0) (b := sown) d1 (by omega)))) (fun _ => ?_)
      refine x_aload_n (pc' := 32) rfl rfl rfl ?_
      refine x_get (pc' := 35) rfl rfl rfl (hM.1) rfl ?_
      refine x_eqi h14 ?_
      refine x_bipush (pc' := 37) rfl rfl bipush_60 ?_
      refine x_icmp_ge (tgt := 77) (pc' := 40) rfl rfl rfl (fun c37 => absurd c37 (nI_ge (a := hs) (b := 60) (by omega) (by decide))) (fun _ => ?_)
      refine x_aload_n (pc' := 41) rfl rfl rfl ?_
      refine x_get (pc' := 44) rfl rfl rfl (hM.1) rfl ?_
      refine x_aload_n (pc' := 45) rfl rfl rfl ?_
      refine x_get (pc' := 48) rfl rfl rfl (hM.1) rfl ?_
      refine x_eqi e15 ?_
      refine x_iaload (pc' := 49) rfl rfl (hM.2.1 1 (by decide)) (hv9) ?_
      refine x_eqi eβ ?_
      refine x_aload_n (pc' := 50) rfl rfl rfl ?_
      refine x_aload_n (pc' := 51) rfl rfl rfl ?_
      refine x_get (pc' := 54) rfl rfl rfl (hM.1) rfl ?_
      refine x_aload_n (pc' := 55) rfl rfl rfl ?_
      refine x_get (pc' := 58) rfl rfl rfl (hM.1) rfl ?_
      refine x_eqi e15 ?_
      refine x_iaload (pc' := 59) rfl rfl (hM.2.1 0 (by decide)) (hv9) ?_
      refine x_eqi eκ ?_
      refine x_cV1i (d := 1) (pc' := 62) rfl rfl sX6_93 gX6_soundsFrom (hM.1) ⟨Nat.le_of_ble_eq_true rfl, Nat.le_of_ble_eq_true rfl⟩ (Nat.le_of_ble_eq_true rfl) ⟨Nat.le_of_ble_eq_true rfl, Nat.le_of_ble_eq_true rfl⟩ ?_
      refine m_sounds1 hM hfu' hfu9 b2 ⟨_, rfl, ?_⟩
      by_cases d2 : q_full κ β fu p
      · rw [if_pos ⟨d1, d2⟩] at hv
        rw [if_neg d2.1]
        refine x_icmp_lt (tgt := 77) (pc' := 65) rfl rfl rfl (fun q => absurd q (nI_nlt d2.2 (by omega))) (fun _ => ?_)
        refine x_aload_n (pc' := 66) rfl rfl rfl ?_
        refine x_aload_n (pc' := 67) rfl rfl rfl ?_
        refine x_get (pc' := 70) rfl rfl rfl (hM.1) rfl ?_
        refine x_eqi e15 ?_
        refine x_cV1i (d := 2) (pc' := 73) rfl rfl sX6_90 gX6_sowsHand (hM.1) ⟨Nat.le_of_ble_eq_true rfl, Nat.le_of_ble_eq_true rfl⟩ (Nat.le_of_ble_eq_true rfl) ⟨Nat.le_of_ble_eq_true rfl, Nat.le_of_ble_eq_true rfl⟩ ?_
        refine m_sowsHand hM hn' hn9 hfu' hfu9 hln' hln9 hκ' hκ5 r1 hβ hpn r5 hl h14 h16 (fun f2 M2 hM2 hN2 g14 g16 hF2 => ⟨_, rfl, ?_⟩)
        refine x_istore_n (pc' := 74) (lv' := [(2, _), (0, _), (1, _)]) rfl rfl (Nat.le_of_ble_eq_true rfl) rfl ?_
        refine x_goto (tgt := 27) rfl rfl ?_
        exact ih _ _ _ _ _ _ _ (by omega) (by have := hle.2; omega) hle.2 hla.2 hle.1 hla.1 hv hM2 (hN.trans hN2) g14 g16 (hF.trans hF2)
      · rw [if_neg (fun q => d2 q.2)] at hv
        subst hv
        refine x_icmp_lt (tgt := 77) (pc' := 65) rfl rfl rfl (fun _ => ?_) (fun q => absurd ?_ q)
        · exact K g Mg _ hM hN h14 h16 hF
        · by_cases d3 : κ p = 2
          · rw [if_pos d3]
            exact nI_lt (a := β p) (b := 1000) (by omega) (by decide)
          · rw [if_neg d3]
            exact nI_lt (Nat.not_le.mp (fun q => d2 ⟨d3, q⟩)) hqf
    · have h0 : sown = 0 := by omega
      subst h0
      rw [if_neg (fun q => d1 q.1)] at hv
      subst hv
      refine x_iload_n (pc' := 28) rfl rfl rfl ?_
      refine x_if_le (tgt := 77) (pc' := 31) rfl rfl rfl (fun _ => ?_) (fun c28 => absurd ((by decide : nI 0 ≤ 0)) c28)
      exact K g Mg _ hM hN h14 h16 hF
/-- what sows leaves: a is whether it is aside -/
def q_Fm (M M' : x_N) (v : (Nat → Nat) × Nat × Nat × Option Nat) (π : Nat → Nat) (tu : Nat) (a : Nat) : Prop :=
  M'.2.1 1 = (fun i => nI (q_b1 v.1 (if a = 1 then 0 else π tu) v.2.2.2 i)) ∧ M'.2.1 2 = (fun i => nI (if a = 1 then π i else q_p1 v.1 π tu v.2.2.2 i)) ∧ (∀ j, j ≠ 1 → j ≠ 2 → M'.2.1 j = M.2.1 j) ∧ M'.2.2 = M.2.2 ∧ (∀ i, i ≠ 14 → i ≠ 15 → i ≠ 16 → i ≠ 17 → M'.1 i = M.1 i) ∧ M'.1 14 = nI v.2.1 ∧ M'.1 15 = q_lI v.2.2.2 ∧ M'.1 16 = nI v.2.2.1 ∧ M'.1 17 = (if q_tk1 v.1 (if a = 1 then 0 else π tu) v.2.2.2 = true then 1 else 0)
theorem q_tk1_no {β : Nat → Nat} {pt : Nat} {l : Option Nat} (h : q_tk1 β pt l = false) : q_b1 β pt l = β := by
  unfold q_b1
  rw [h]
  rfl
theorem q_p1_no {β π : Nat → Nat} {tu : Nat} {l : Option Nat} (h : q_tk1 β (π tu) l = false) : q_p1 β π tu l = π := by
  unfold q_p1
  rw [h]
  rfl
theorem m_sows {a : Nat} (hM : x_Mdl z f M) (hn : M.1 3 = nI n) (hn9 : n ≤ 9) (hfu : M.1 4 = nI fu) (hfu9 : fu < 2 ^ 20) (hln : M.1 5 = nI ln) (hln9 : ln < 2 ^ 31) (hκ : M.2.1 0 = fun i => nI (κ i)) (hκ5 : ∀ i, κ i ≤ 5) (hβ : M.2.1 1 = fun i => nI (β i)) (hβ5 : ∀ i, β i ≤ 100) (hb : b < n) (h2n : 2 ≤ n) (hb0 : 0 < β b) (htu : M.1 7 = nI tu) (htu1 : tu ≤ 1) (hπ : M.2.1 2 = fun i => nI (π i)) (hπ5 : ∀ i, π i < 2 ^ 30) (ha : M.1 18 = nI a) (ha1 : a ≤ 1)
    (h : ∀ (f' : x_H) (M' : x_N), x_Mdl z f' M' → q_Fm M M' (q_mv κ n fu ln β b) π tu a → x_fr (fun q => q < 59) f f' → post none f') : Y E 3 mX6_sows [.ref 59, .int (nI b)] z f 0 0 post := by
  refine Y.intro gX6_sows (lv := [(0, .ref 59), (1, .int (nI b))]) rfl (Nat.le_of_ble_eq_true rfl) ?_
  have em : q_mv κ n fu ln β b = q_hands κ n fu ln 60 β b 0 0 none := by unfold q_mv; rw [if_pos ⟨h2n, hb0⟩]
  have hok := q_hands_ok (κ := κ) (n := n) (fu := fu) (ln := ln) (C := 100) (by decide) (by decide) 60 β b 0 0 none hb hβ5 (fun p hp => by cases hp)
  have hle := q_hand_le (κ := κ) (fu := fu) (n := n) (ln := ln) (b := b) (l := none) (C := 100) (by decide) hβ5
  have hla := q_hand_l (κ := κ) (fu := fu) (ln := ln) (l := none) hb hβ5 (fun p hp => by cases hp)
  have hv1 : q_hands κ n fu ln 60 β b 0 0 none = (if 0 < (q_hand κ n fu ln β b none).2.1 ∧ q_full κ (q_hand κ n fu ln β b none).1 fu ((q_hand κ n fu ln β b none).2.2.getD 0) then q_hands κ n fu ln 59 (q_hand κ n fu ln β b none).1 ((q_hand κ n fu ln β b none).2.2.getD 0) (0 + 1) (0 + (q_hand κ n fu ln β b none).2.1) (q_hand κ n fu ln β b none).2.2 else ((q_hand κ n fu ln β b none).1, 0 + 1, 0 + (q_hand κ n fu ln β b none).2.1, (q_hand κ n fu ln β b none).2.2)) := rfl
  rw [← em] at hok hv1
  generalize q_mv κ n fu ln β b = v at *
  have hclt : (nI tu).toNatClampNeg = tu := nI_clamp (by omega)
  have hvt : vp_in (nI tu) 2 := vp_in_nI (by omega) (by decide)
  have p1 := hπ5 tu
  refine x_aload_n (pc' := 1) rfl rfl rfl ?_
  refine x_iconst (pc' := 2) rfl rfl iconst_0 ?_
  refine x_put (pc' := 5) rfl rfl rfl (hM.1) (Nat.le_of_ble_eq_true rfl) rfl rfl rfl rfl (fun f1 e1 => ?_)
  have hM1 := hM.num 14 e1 (x_mFs14 _ _)
  have hF1 := (x_fr.rf (P := fun q => q < 59)).up e1 (by decide)
  refine x_aload_n (pc' := 6) rfl rfl rfl ?_
  refine x_bipush (pc' := 8) rfl rfl bipush_m9 ?_
  refine x_put (pc' := 11) rfl rfl rfl (hM1.1) (Nat.le_of_ble_eq_true rfl) rfl rfl rfl rfl (fun f2 e2 => ?_)
  have hM2 := hM1.num 15 e2 (x_mFs15 _ _)
  have hF2 := hF1.up e2 (by decide)
  refine x_aload_n (pc' := 12) rfl rfl rfl ?_
  refine x_iconst (pc' := 13) rfl rfl iconst_0 ?_
  refine x_put (pc' := 16) rfl rfl rfl (hM2.1) (Nat.le_of_ble_eq_true rfl) rfl rfl rfl rfl (fun f3 e3 => ?_)
  have hM3 := hM2.num 16 e3 (x_mFs16 _ _)
  have hF3 := hF2.up e3 (by decide)
  refine x_aload_n (pc' := 17) rfl rfl rfl ?_
  refine x_iconst (pc' := 18) rfl rfl iconst_0 ?_
  refine x_put (pc' := 21) rfl rfl rfl (hM3.1) (Nat.le_of_ble_eq_true rfl) rfl rfl rfl rfl (fun f4 e4 => ?_)
  have hM4 := hM3.num 17 e4 (x_mFs17 _ _)
  have hF4 := hF3.up e4 (by decide)
  refine x_aload_n (pc' := 22) rfl rfl rfl ?_
  refine x_iload_n (pc' := 23) rfl rfl rfl ?_
  refine x_cV1i (d := 2) (pc' := 26) rfl rfl sX6_90 gX6_sowsHand (hM4.1) ⟨Nat.le_of_ble_eq_true rfl, Nat.le_of_ble_eq_true rfl⟩ (Nat.le_of_ble_eq_true rfl) ⟨Nat.le_of_ble_eq_true rfl, Nat.le_of_ble_eq_true rfl⟩ ?_
  refine m_sowsHand (hs := 0) (s0 := 0) (l := none) hM4 hn hn9 hfu hfu9 hln hln9 hκ hκ5 hβ hβ5 hb rfl (fun p hp => by cases hp) rfl rfl (fun f5 M5 hM5 hN5 g14 g16 hF5 => ⟨_, rfl, ?_⟩)
  refine x_istore_n (pc' := 27) (lv' := [(2, _), (0, _), (1, _)]) rfl rfl (Nat.le_of_ble_eq_true rfl) rfl ?_
  refine x_lvp [0, 1, 2] rfl ?_
  refine m_swL (M := (upd (upd (upd (upd M.1 14 0) 15 (-9)) 16 0) 17 0, M.2.1, M.2.2)) (f := f) hn hn9 hfu hfu9 hln hln9 hκ hκ5 v ?_ 59 _ (0 + 1) (0 + (q_hand κ n fu ln β b none).2.1) _ _ f5 M5 rfl (by have := hle.2; omega) hle.2 hla.2 hle.1 hla.1 hv1.symm hM5 hN5 g14 g16 (hF4.trans hF5)
  intro g Mg v2 hMg hNg k14 k16 hFg
  obtain ⟨r1, r2, r3, r4, r5⟩ := id hNg
  have n18 : Mg.1 18 = nI a := (r4 18 (by decide) (by decide) (by decide)).trans ha
  have n7 : Mg.1 7 = nI tu := (r4 7 (by decide) (by decide) (by decide)).trans htu
  have n17 : Mg.1 17 = 0 := r4 17 (by decide) (by decide) (by decide)
  have eπ : Mg.2.1 2 = fun i => nI (π i) := (r2 2 (by decide)).trans hπ
  have eπt : Mg.2.1 2 (nI tu).toNatClampNeg = nI (π tu) := by rw [hclt, eπ]
  have hno : q_tk1 v.1 (if a = 1 then 0 else π tu) v.2.2.2 = false → post none g := by
    intro hq
    refine h g Mg hMg ⟨?_, ?_, fun j j1 j2 => r2 j j1, r3, fun i i1 i2 i3 i4 => ?_, k14, r5, k16, ?_⟩ hFg
    · rw [q_tk1_no hq]
      exact r1
    · rw [eπ]
      by_cases d : a = 1
      · simp only [if_pos d]
      · rw [if_neg d] at hq
        simp only [if_neg d]
        rw [q_p1_no hq]
    · refine (r4 i i1 i2 i3).trans ?_
      show upd (upd (upd (upd M.1 14 0) 15 (-9)) 16 0) 17 0 i = M.1 i
      rw [pk_un i4, pk_un i3, pk_un i2, pk_un i1]
    · rw [hq]
      exact n17
  rcases hlc : v.2.2.2 with _ | p
  · rw [hlc] at hno r5
    refine x_aload_n (pc' := 78) rfl rfl rfl ?_
    refine x_get (pc' := 81) rfl rfl rfl (hMg.1) rfl ?_
    refine x_eqi (show Mg.1 15 = -9 from r5) ?_
    refine x_bipush (pc' := 83) rfl rfl bipush_m9 ?_
    refine x_icmp_eq (tgt := 160) (pc' := 86) rfl rfl rfl (fun _ => ?_) (fun c83 => absurd (rfl) c83)
    exact x_return rfl rfl (Nat.le_of_ble_eq_true rfl) (Nat.le_of_ble_eq_true rfl) (hno rfl)
  · have hp := hok.2 p hlc
    have hcl : (nI p).toNatClampNeg = p := nI_clamp (by omega)
    have hv9 : vp_in (nI p) 9 := vp_in_nI (by omega) (by decide)
    have eβ : Mg.2.1 1 (nI p).toNatClampNeg = nI (v.1 p) := by rw [hcl, r1]
    have b1 := hok.1 p
    have e15 : Mg.1 15 = nI p := by rw [r5, hlc]; rfl
    have hyes : ∀ (f' : x_H) (M' : x_N), q_tk1 v.1 (if a = 1 then 0 else π tu) (some p) = true → x_Mdl z f' M' → M'.1 = upd Mg.1 17 1 → M'.2.1 = x_ua (x_ua Mg.2.1 1 (fun i => nI (q_up v.1 p 0 i))) 2 (upd (Mg.2.1 2) tu (nI (π tu) + (if a = 1 then 0 else 1))) → M'.2.2 = Mg.2.2 → x_fr (fun q => q < 59) g f' → post none f' := by
      intro f' M' hq hM' m1 m2 m3 hF'
      refine h f' M' hM' ⟨?_, ?_, fun j j1 j2 => ?_, m3.trans r3, fun i i1 i2 i3 i4 => ?_, ?_, ?_, ?_, ?_⟩ (hFg.trans hF')
      · rw [m2, hlc]
        unfold q_b1
        rw [hq]
        rfl
      · rw [m2, hlc]
        show upd (Mg.2.1 2) tu (nI (π tu) + (if a = 1 then 0 else 1)) = _
        rw [eπ]
        by_cases d : a = 1
        · simp only [if_pos d]
          rw [show nI (π tu) + 0 = nI (π tu) from Int32.add_zero _, q_up_I]
          funext i
          unfold q_up
          by_cases di : i = tu
          · rw [if_pos di, di]
          · rw [if_neg di]
        · simp only [if_neg d] at hq ⊢
          rw [nI_1, q_up_I]
          unfold q_p1
          rw [hq]
          rfl
      · rw [m2]
        show (if j = 2 then _ else if j = 1 then _ else Mg.2.1 j) = _
        rw [if_neg j2, if_neg j1]
        exact r2 j j1
      · rw [m1, pk_un i4]
        refine (r4 i i1 i2 i3).trans ?_
        show upd (upd (upd (upd M.1 14 0) 15 (-9)) 16 0) 17 0 i = M.1 i
        rw [pk_un i4, pk_un i3, pk_un i2, pk_un i1]
      · rw [m1, pk_un (by decide)]
        exact k14
      · rw [m1, pk_un (by decide)]
        exact r5
      · rw [m1, pk_un (by decide)]
        exact k16
      · rw [m1, hlc, hq, pk_us]
        rfl
    rw [hlc] at hno
    refine x_aload_n (pc' := 78) rfl rfl rfl ?_
    refine x_get (pc' := 81) rfl rfl rfl (hMg.1) rfl ?_
    refine x_eqi e15 ?_
    refine x_bipush (pc' := 83) rfl rfl bipush_m9 ?_
    refine x_icmp_eq (tgt := 160) (pc' := 86) rfl rfl rfl (fun c83 => absurd c83 ((fun q => nI_pos (n := p) (by omega) (by rw [q]; decide)))) (fun _ => ?_)
    refine x_aload_n (pc' := 87) rfl rfl rfl ?_
    refine x_get (pc' := 90) rfl rfl rfl (hMg.1) rfl ?_
    refine x_aload_n (pc' := 91) rfl rfl rfl ?_
    refine x_get (pc' := 94) rfl rfl rfl (hMg.1) rfl ?_
    refine x_eqi e15 ?_
    refine x_iaload (pc' := 95) rfl rfl (hMg.2.1 1 (by decide)) (hv9) ?_
    refine x_eqi eβ ?_
    refine x_iconst (pc' := 96) rfl rfl iconst_1 ?_
    by_cases d1 : v.1 p = 1
    · refine x_icmp_ne (tgt := 160) (pc' := 99) rfl rfl rfl (fun q => absurd (show nI (v.1 p) = 1 by rw [d1]; decide) q) (fun _ => ?_)
      refine x_aload_n (pc' := 100) rfl rfl rfl ?_
      refine x_get (pc' := 103) rfl rfl rfl (hMg.1) rfl ?_
      refine x_eqi n18 ?_
      by_cases d2 : a = 1
      · refine x_if_ne (tgt := 121) (pc' := 106) rfl rfl rfl (fun _ => ?_) (fun q => absurd (show nI a = 0 from q) (by rw [d2]; decide))
        have hq : q_tk1 v.1 (if a = 1 then 0 else π tu) (some p) = true := by simp [q_tk1, d1, d2]
        refine x_aload_n (pc' := 122) rfl rfl rfl ?_
        refine x_get (pc' := 125) rfl rfl rfl (hMg.1) rfl ?_
        refine x_aload_n (pc' := 126) rfl rfl rfl ?_
        refine x_get (pc' := 129) rfl rfl rfl (hMg.1) rfl ?_
        refine x_eqi e15 ?_
        refine x_iconst (pc' := 130) rfl rfl iconst_0 ?_
        refine x_iastore (pc' := 131) rfl rfl (hMg.2.1 1 (by decide)) (hv9) (fun f5 e5 => ?_)
        have hM6 := hMg.arr 1 (by decide) e5
        have hF6 := (x_fr.rf (P := fun q => q < 59)).up e5 (by decide)
        rw [hcl, r1, show (0 : Int32) = nI 0 from rfl, q_up_I] at hM6
        refine x_aload_n (pc' := 132) rfl rfl rfl ?_
        refine x_iconst (pc' := 133) rfl rfl iconst_1 ?_
        refine x_put (pc' := 136) rfl rfl rfl (hM6.1) (Nat.le_of_ble_eq_true rfl) rfl rfl rfl rfl (fun f6 e6 => ?_)
        have hM7 := hM6.num 17 e6 (x_mFs17 _ _)
        have hF7 := hF6.up e6 (by decide)
        refine x_aload_n (pc' := 137) rfl rfl rfl ?_
        refine x_get (pc' := 140) rfl rfl rfl (hM7.1) rfl ?_
        refine x_aload_n (pc' := 141) rfl rfl rfl ?_
        refine x_get (pc' := 144) rfl rfl rfl (hM7.1) rfl ?_
        refine x_eqi n7 ?_
        refine x_dup2 (pc' := 145) rfl rfl rfl rfl ?_
        refine x_iaload (pc' := 146) rfl rfl (hM7.2.1 2 (by decide)) (hvt) ?_
        refine x_eqi eπt ?_
        refine x_aload_n (pc' := 147) rfl rfl rfl ?_
        refine x_get (pc' := 150) rfl rfl rfl (hM7.1) rfl ?_
        refine x_eqi n18 ?_
        refine x_if_eq (tgt := 157) (pc' := 153) rfl rfl rfl (fun c150 => absurd c150 ((by rw [d2]; decide))) (fun _ => ?_)
        refine x_iconst (pc' := 154) rfl rfl iconst_0 ?_
        refine x_goto (tgt := 158) rfl rfl ?_
        refine x_iadd (pc' := 159) rfl rfl ?_
        refine x_iastore (pc' := 160) rfl rfl (hM7.2.1 2 (by decide)) (hvt) (fun f7 e7 => ?_)
        have hM8 := hM7.arr 2 (by decide) e7
        have hF8 := hF7.up e7 (by decide)
        rw [hclt] at hM8
        exact x_return rfl rfl (Nat.le_of_ble_eq_true rfl) (Nat.le_of_ble_eq_true rfl) (hyes _ _ hq hM8 rfl (by rw [if_pos d2]; rfl) rfl hF8)
      · have d20 : a = 0 := by omega
        refine x_if_ne (tgt := 121) (pc' := 106) rfl rfl rfl (fun q => absurd (show nI a = 0 by rw [d20]; rfl) q) (fun _ => ?_)
        refine x_aload_n (pc' := 107) rfl rfl rfl ?_
        refine x_get (pc' := 110) rfl rfl rfl (hMg.1) rfl ?_
        refine x_aload_n (pc' := 111) rfl rfl rfl ?_
        refine x_get (pc' := 114) rfl rfl rfl (hMg.1) rfl ?_
        refine x_eqi n7 ?_
        refine x_iaload (pc' := 115) rfl rfl (hMg.2.1 2 (by decide)) (hvt) ?_
        refine x_eqi eπt ?_
        refine x_sipush (pc' := 118) rfl rfl sipush_999 ?_
        by_cases d3 : π tu < 999
        · refine x_icmp_ge (tgt := 160) (pc' := 121) rfl rfl rfl (fun q => absurd q (nI_ge (b := 999) d3 (by decide))) (fun _ => ?_)
          have hq : q_tk1 v.1 (if a = 1 then 0 else π tu) (some p) = true := by simp [q_tk1, d1, d2, d3]
          refine x_aload_n (pc' := 122) rfl rfl rfl ?_
          refine x_get (pc' := 125) rfl rfl rfl (hMg.1) rfl ?_
          refine x_aload_n (pc' := 126) rfl rfl rfl ?_
          refine x_get (pc' := 129) rfl rfl rfl (hMg.1) rfl ?_
          refine x_eqi e15 ?_
          refine x_iconst (pc' := 130) rfl rfl iconst_0 ?_
          refine x_iastore (pc' := 131) rfl rfl (hMg.2.1 1 (by decide)) (hv9) (fun f8 e8 => ?_)
          have hM6 := hMg.arr 1 (by decide) e8
          have hF6 := (x_fr.rf (P := fun q => q < 59)).up e8 (by decide)
          rw [hcl, r1, show (0 : Int32) = nI 0 from rfl, q_up_I] at hM6
          refine x_aload_n (pc' := 132) rfl rfl rfl ?_
          refine x_iconst (pc' := 133) rfl rfl iconst_1 ?_
          refine x_put (pc' := 136) rfl rfl rfl (hM6.1) (Nat.le_of_ble_eq_true rfl) rfl rfl rfl rfl (fun f9 e9 => ?_)
          have hM7 := hM6.num 17 e9 (x_mFs17 _ _)
          have hF7 := hF6.up e9 (by decide)
          refine x_aload_n (pc' := 137) rfl rfl rfl ?_
          refine x_get (pc' := 140) rfl rfl rfl (hM7.1) rfl ?_
          refine x_aload_n (pc' := 141) rfl rfl rfl ?_
          refine x_get (pc' := 144) rfl rfl rfl (hM7.1) rfl ?_
          refine x_eqi n7 ?_
          refine x_dup2 (pc' := 145) rfl rfl rfl rfl ?_
          refine x_iaload (pc' := 146) rfl rfl (hM7.2.1 2 (by decide)) (hvt) ?_
          refine x_eqi eπt ?_
          refine x_aload_n (pc' := 147) rfl rfl rfl ?_
          refine x_get (pc' := 150) rfl rfl rfl (hM7.1) rfl ?_
          refine x_eqi n18 ?_
          refine x_if_eq (tgt := 157) (pc' := 153) rfl rfl rfl (fun _ => ?_) (fun c150 => absurd ((by rw [d20]; rfl)) c150)
          refine x_iconst (pc' := 158) rfl rfl iconst_1 ?_
          refine x_iadd (pc' := 159) rfl rfl ?_
          refine x_iastore (pc' := 160) rfl rfl (hM7.2.1 2 (by decide)) (hvt) (fun f10 e10 => ?_)
          have hM8 := hM7.arr 2 (by decide) e10
          have hF8 := hF7.up e10 (by decide)
          rw [hclt] at hM8
          exact x_return rfl rfl (Nat.le_of_ble_eq_true rfl) (Nat.le_of_ble_eq_true rfl) (hyes _ _ hq hM8 rfl (by rw [if_neg d2]; rfl) rfl hF8)
        · refine x_icmp_ge (tgt := 160) (pc' := 121) rfl rfl rfl (fun _ => ?_) (fun q => absurd (nI_le (a := 999) (b := π tu) (by omega) (by omega)) q)
          exact x_return rfl rfl (Nat.le_of_ble_eq_true rfl) (Nat.le_of_ble_eq_true rfl) (hno (by simp [q_tk1, d2, d3]))
    · refine x_icmp_ne (tgt := 160) (pc' := 99) rfl rfl rfl (fun _ => ?_) (fun q => absurd ((nI_eq (a := v.1 p) (b := 1) (by omega) (by decide)).mp q) d1)
      exact x_return rfl rfl (Nat.le_of_ble_eq_true rfl) (Nat.le_of_ble_eq_true rfl) (hno (by simp [q_tk1, d1]))
theorem m_moves (hM : x_Mdl z f M) (hn : M.1 3 = nI n) (hn9 : n ≤ 9) (hfu : M.1 4 = nI fu) (hfu9 : fu < 2 ^ 20) (hln : M.1 5 = nI ln) (hln9 : ln < 2 ^ 31) (hκ : M.2.1 0 = fun i => nI (κ i)) (hκ5 : ∀ i, κ i ≤ 5) (hβ : M.2.1 1 = fun i => nI (β i)) (hβ5 : ∀ i, β i ≤ 100) (hb : b < n) (h2n : 2 ≤ n) (hb0 : 0 < β b) (htu : M.1 7 = nI tu) (htu1 : tu ≤ 1) (hπ : M.2.1 2 = fun i => nI (π i)) (hπ5 : ∀ i, π i < 2 ^ 30) (ha : M.1 18 = 0)
    (h : ∀ (f' : x_H) (M' : x_N) (M1 : x_N), x_Mdl z f' M' → q_Fm M M1 (q_mv κ n fu ln β b) π tu 0 → M' = (upd M1.1 7 (nI (1 - tu)), M1.2.1, M1.2.2) → x_fr (fun q => q < 59) f f' → post none f') : Y E 4 mX6_moves [.ref 59, .int (nI b)] z f 0 0 post := by
  refine Y.intro gX6_moves (lv := [(0, .ref 59), (1, .int (nI b))]) rfl (Nat.le_of_ble_eq_true rfl) ?_
  refine x_aload_n (pc' := 1) rfl rfl rfl ?_
  refine x_iload_n (pc' := 2) rfl rfl rfl ?_
  refine x_cV1v (d := 3) (pc' := 5) rfl rfl sX6_106 gX6_sows (hM.1) ⟨Nat.le_of_ble_eq_true rfl, Nat.le_of_ble_eq_true rfl⟩ (Nat.le_of_ble_eq_true rfl) ⟨Nat.le_of_ble_eq_true rfl, Nat.le_of_ble_eq_true rfl⟩ ?_
  refine m_sows (a := 0) hM hn hn9 hfu hfu9 hln hln9 hκ hκ5 hβ hβ5 hb h2n hb0 htu htu1 hπ hπ5 ha (by decide) (fun f1 M1 hM1 hG1 hF1 => ⟨rfl, ?_⟩)
  refine x_aload_n (pc' := 6) rfl rfl rfl ?_
  refine x_iconst (pc' := 7) rfl rfl iconst_1 ?_
  refine x_aload_n (pc' := 8) rfl rfl rfl ?_
  refine x_get (pc' := 11) rfl rfl rfl (hM1.1) rfl ?_
  refine x_eqi (show M1.1 7 = nI tu from (hG1.2.2.2.2.1 7 (by decide) (by decide) (by decide) (by decide)).trans htu) ?_
  refine x_isub (pc' := 12) rfl rfl ?_
  refine x_eqi (show (1 : Int32) - nI tu = nI (1 - tu) from pk_sub (a := 1) (b := tu) htu1) ?_
  refine x_put (pc' := 15) rfl rfl rfl (hM1.1) (Nat.le_of_ble_eq_true rfl) rfl rfl rfl rfl (fun f1 e1 => ?_)
  have hM2 := hM1.num 7 e1 (x_mFs7 _ _)
  have hF2 := hF1.up e1 (by decide)
  exact x_return rfl rfl (Nat.le_of_ble_eq_true rfl) (Nat.le_of_ble_eq_true rfl) (h _ _ M1 hM2 hG1 rfl hF2)
end MSOWS
