/-! The law: the script, the calls, the end. -/
def lw_has (E : x_E) (L : Nat) (xs : Nat → Int32) (args : Array Value) (s : State) : Prop := args = #[Value.ref E.2.2.2.2] ∧ va_X E.2.2.2.2 L xs s s.heap ∧ E.2.2.2.2 < s.heap.size ∧ E.2.2.2.1 = s.heap.size
/-- the law's end, where the script is there -/
def x_QL (E : x_E) (L : Nat) (xs : Nat → Int32) : List Frame → Array Value → State → State → Prop := fun below args s t => lw_has E L xs args s → lw_Z below args s t
section LAW
variable {E : x_E} {R : Room} {me : x_M} {pc pc' : Nat} {lv : x_L} {st : List Value} {z : Nat} {f : x_H} {cl sl L n : Nat} {xs : Nat → Int32}
theorem x_sld {i : Int32} (hc : x_at me pc = some (.iaload, 1)) (hp : pc + 1 = pc') (hi : vp_in i L) (k : X E R me (x_QL E L xs) pc' lv (.int (xs i.toNatClampNeg) :: st) z f cl sl) : X E R me (x_QL E L xs) pc lv (.int i :: .retAddr n :: st) z f cl sl := by
  subst hp
  intro p e s m args below meth c H locs ls cx hz hP hS hl
  by_cases hh : lw_has E L xs args s
  · obtain ⟨h1, h2, h3, h4⟩ := id hh
    exact va_sld cx.1 cx.2.1 h2 h3 (by show ¬ E.2.2.2.1 ≤ E.2.2.2.2; omega) hS hi (x_dec_at cx.2.2.2.2.2.2.2.2.2.2.1 hc) (k p e s m args below meth c H locs ls cx hz hP hS hl)
  · intro T hT hX
    exact ⟨_, Steps.refl _, fun h => absurd h hh⟩
theorem x_slen (hc : x_at me pc = some (.arraylength, 1)) (hp : pc + 1 = pc') (k : X E R me (x_QL E L xs) pc' lv (.int (nI L) :: st) z f cl sl) : X E R me (x_QL E L xs) pc lv (.retAddr n :: st) z f cl sl := by
  subst hp
  intro p e s m args below meth c H locs ls cx hz hP hS hl
  by_cases hh : lw_has E L xs args s
  · obtain ⟨h1, h2, h3, h4⟩ := id hh
    exact va_slen cx.1 cx.2.1 h2 h3 (by show ¬ E.2.2.2.1 ≤ E.2.2.2.2; omega) hS (x_dec_at cx.2.2.2.2.2.2.2.2.2.2.1 hc) (k p e s m args below meth c H locs ls cx hz hP hS hl)
  · intro T hT hX
    exact ⟨_, Steps.refl _, fun h => absurd h hh⟩
theorem x_lend (hc : x_at mL_law pc = some (.ireturn, 1)) (h1 : cl ≤ 600000) (h2 : sl ≤ 7302250) : X E room_1 mL_law (x_QL E L xs) pc lv [.int 1] z f cl sl := by
  intro p e s m args below meth c H locs ls cx hz hP hS hl
  obtain ⟨hx, hb, hr, hml, hown, hts, hlk, hK, hbs, hin, hd, hI⟩ := id cx
  by_cases hh : lw_has E L xs args s
  · obtain ⟨g1, g2, g3, g4⟩ := id hh
    subst g1
    intro T hT hX
    have hw := (va_forget (fun q hq => by have h9 : E.2.2.2.1 ≤ q.base := hS.2.2 q hq; omega) (W.widen h1 h2 (lw_ret (H := H) (ls := ls) (pc := pc) (below := below) (l := E.1) (e := e) hx hb hr hlk (x_dec_at hd hc)))) T hT hX
    obtain ⟨t, a1, b1⟩ := hw
    exact ⟨t, a1, fun _ => b1⟩
  · intro T hT hX
    exact ⟨_, Steps.refl _, fun h => absurd h hh⟩
variable {i : Nat} {S : x_S} {M : x_N} {A : q_A}
/-- the loop goes on -/
abbrev k_next (E : x_E) (L : Nat) (xs : Nat → Int32) (i : Nat) : Prop := ∀ (f' : x_H) (S' : x_S) (M' : x_N) (A' : q_A), x_Sys 73 f' S' → x_Mdl 73 f' M' → c_is S' A' → r_is M' A' → a_ok A' → X E room_1 mL_law (x_QL E L xs) 831 [(3, .int (nI i)), (2, .ref 59), (1, .ref 0), (0, .retAddr 0)] [] 73 f' 73 34115
theorem kc_letter (hi : i + 3 ≤ L) (hL : L ≤ 1536) (hS : x_Sys 73 f S) (hM : x_Mdl 73 f M) (hc : c_is S A) (hr : r_is M A) (ho : a_ok A) (K : k_next E L xs i) : X E room_1 mL_law (x_QL E L xs) 32 [(3, .int (nI i)), (2, .ref 59), (1, .ref 0), (0, .retAddr 0)] [.int (nI 0)] 73 f 73 34115 := by
  refine x_tableIn (tgt := 164) rfl (by decide) (by decide) rfl rfl ?_
  refine x_aload_n (pc' := 165) rfl rfl rfl ?_
  refine x_aload_ns (pc' := 166) rfl rfl rfl ?_
  refine x_iload_n (pc' := 167) rfl rfl rfl ?_
  refine x_iconst (pc' := 168) rfl rfl iconst_1 ?_
  refine x_iadd (pc' := 169) rfl rfl ?_
  refine x_eqi (show nI i + 1 = nI (i + 1) from nI_add i 1) ?_
  refine x_sld (pc' := 170) rfl rfl (vp_in_nI (n := i + 1) (N := L) (by omega) (by omega)) ?_
  refine x_cV1i (d := 9) (pc' := 173) rfl rfl sL_13 gX5_letter (hS.1) ⟨Nat.le_of_ble_eq_true rfl, Nat.le_of_ble_eq_true rfl⟩ (Nat.le_of_ble_eq_true rfl) ⟨Nat.le_of_ble_eq_true rfl, Nat.le_of_ble_eq_true rfl⟩ ?_
  refine c_letter hS hc ho (fun f1 S1 hS1 hc1 hF1 => ⟨_, rfl, ?_⟩)
  have hM1 := hM.fr hF1
  refine x_pop (pc' := 174) rfl rfl rfl ?_
  refine x_aload_n (pc' := 175) rfl rfl rfl ?_
  refine x_aload_ns (pc' := 176) rfl rfl rfl ?_
  refine x_iload_n (pc' := 177) rfl rfl rfl ?_
  refine x_iconst (pc' := 178) rfl rfl iconst_1 ?_
  refine x_iadd (pc' := 179) rfl rfl ?_
  refine x_eqi (show nI i + 1 = nI (i + 1) from nI_add i 1) ?_
  refine x_sld (pc' := 180) rfl rfl (vp_in_nI (n := i + 1) (N := L) (by omega) (by omega)) ?_
  refine x_cV1i (d := 9) (pc' := 183) rfl rfl sL_17 gX6_letter (hM1.1) ⟨Nat.le_of_ble_eq_true rfl, Nat.le_of_ble_eq_true rfl⟩ (Nat.le_of_ble_eq_true rfl) ⟨Nat.le_of_ble_eq_true rfl, Nat.le_of_ble_eq_true rfl⟩ ?_
  refine r_letter hM1 hr ho (fun f2 M2 hM2 hr2 hF2 => ⟨_, rfl, ?_⟩)
  have hS2 := hS1.fr hF2
  refine x_pop (pc' := 184) rfl rfl rfl ?_
  refine x_goto (tgt := 831) rfl rfl ?_
  exact K _ _ _ _ hS2 hM2 hc1 hr2 (ok_letter ho)
theorem kc_game (hi : i + 3 ≤ L) (hL : L ≤ 1536) (hS : x_Sys 73 f S) (hM : x_Mdl 73 f M) (hc : c_is S A) (hr : r_is M A) (ho : a_ok A) (K : k_next E L xs i) : X E room_1 mL_law (x_QL E L xs) 32 [(3, .int (nI i)), (2, .ref 59), (1, .ref 0), (0, .retAddr 0)] [.int (nI 1)] 73 f 73 34115 := by
  refine x_tableIn (tgt := 187) rfl (by decide) (by decide) rfl rfl ?_
  refine x_aload_n (pc' := 188) rfl rfl rfl ?_
  refine x_cV0i (d := 9) (pc' := 191) rfl rfl sL_18 gX5_game (hS.1) ⟨Nat.le_of_ble_eq_true rfl, Nat.le_of_ble_eq_true rfl⟩ (Nat.le_of_ble_eq_true rfl) ⟨Nat.le_of_ble_eq_true rfl, Nat.le_of_ble_eq_true rfl⟩ ?_
  refine c_game hS hc ho (fun f1 S1 hS1 hc1 hF1 => ⟨_, rfl, ?_⟩)
  have hM1 := hM.fr hF1
  refine x_pop (pc' := 192) rfl rfl rfl ?_
  refine x_aload_n (pc' := 193) rfl rfl rfl ?_
  refine x_cV0i (d := 9) (pc' := 196) rfl rfl sL_22 gX6_game (hM1.1) ⟨Nat.le_of_ble_eq_true rfl, Nat.le_of_ble_eq_true rfl⟩ (Nat.le_of_ble_eq_true rfl) ⟨Nat.le_of_ble_eq_true rfl, Nat.le_of_ble_eq_true rfl⟩ ?_
  refine r_game hM1 hr ho (fun f2 M2 hM2 hr2 hF2 => ⟨_, rfl, ?_⟩)
  have hS2 := hS1.fr hF2
  refine x_pop (pc' := 197) rfl rfl rfl ?_
  refine x_goto (tgt := 831) rfl rfl ?_
  exact K _ _ _ _ hS2 hM2 hc1 hr2 (ok_game ho)
theorem kc_bowl (hi : i + 3 ≤ L) (hL : L ≤ 1536) (hS : x_Sys 73 f S) (hM : x_Mdl 73 f M) (hc : c_is S A) (hr : r_is M A) (ho : a_ok A) (K : k_next E L xs i) : X E room_1 mL_law (x_QL E L xs) 32 [(3, .int (nI i)), (2, .ref 59), (1, .ref 0), (0, .retAddr 0)] [.int (nI 2)] 73 f 73 34115 := by
  refine x_tableIn (tgt := 200) rfl (by decide) (by decide) rfl rfl ?_
  refine x_aload_n (pc' := 201) rfl rfl rfl ?_
  refine x_aload_ns (pc' := 202) rfl rfl rfl ?_
  refine x_iload_n (pc' := 203) rfl rfl rfl ?_
  refine x_iconst (pc' := 204) rfl rfl iconst_1 ?_
  refine x_iadd (pc' := 205) rfl rfl ?_
  refine x_eqi (show nI i + 1 = nI (i + 1) from nI_add i 1) ?_
  refine x_sld (pc' := 206) rfl rfl (vp_in_nI (n := i + 1) (N := L) (by omega) (by omega)) ?_
  refine x_aload_ns (pc' := 207) rfl rfl rfl ?_
  refine x_iload_n (pc' := 208) rfl rfl rfl ?_
  refine x_iconst (pc' := 209) rfl rfl iconst_2 ?_
  refine x_iadd (pc' := 210) rfl rfl ?_
  refine x_eqi (show nI i + 2 = nI (i + 2) from nI_add i 2) ?_
  refine x_sld (pc' := 211) rfl rfl (vp_in_nI (n := i + 2) (N := L) (by omega) (by omega)) ?_
  refine x_cV2i (d := 9) (pc' := 214) rfl rfl sL_23 gX5_bowl (hS.1) ⟨Nat.le_of_ble_eq_true rfl, Nat.le_of_ble_eq_true rfl⟩ (Nat.le_of_ble_eq_true rfl) ⟨Nat.le_of_ble_eq_true rfl, Nat.le_of_ble_eq_true rfl⟩ ?_
  refine c_bowl hS hc ho (fun f1 S1 hS1 hc1 hF1 => ⟨_, rfl, ?_⟩)
  have hM1 := hM.fr hF1
  refine x_pop (pc' := 215) rfl rfl rfl ?_
  refine x_aload_n (pc' := 216) rfl rfl rfl ?_
  refine x_aload_ns (pc' := 217) rfl rfl rfl ?_
  refine x_iload_n (pc' := 218) rfl rfl rfl ?_
  refine x_iconst (pc' := 219) rfl rfl iconst_1 ?_
  refine x_iadd (pc' := 220) rfl rfl ?_
  refine x_eqi (show nI i + 1 = nI (i + 1) from nI_add i 1) ?_
  refine x_sld (pc' := 221) rfl rfl (vp_in_nI (n := i + 1) (N := L) (by omega) (by omega)) ?_
  refine x_aload_ns (pc' := 222) rfl rfl rfl ?_
  refine x_iload_n (pc' := 223) rfl rfl rfl ?_
  refine x_iconst (pc' := 224) rfl rfl iconst_2 ?_
  refine x_iadd (pc' := 225) rfl rfl ?_
  refine x_eqi (show nI i + 2 = nI (i + 2) from nI_add i 2) ?_
  refine x_sld (pc' := 226) rfl rfl (vp_in_nI (n := i + 2) (N := L) (by omega) (by omega)) ?_
  refine x_cV2i (d := 9) (pc' := 229) rfl rfl sL_27 gX6_bowl (hM1.1) ⟨Nat.le_of_ble_eq_true rfl, Nat.le_of_ble_eq_true rfl⟩ (Nat.le_of_ble_eq_true rfl) ⟨Nat.le_of_ble_eq_true rfl, Nat.le_of_ble_eq_true rfl⟩ ?_
  refine r_bowlQ hM1 hr ho (fun f2 M2 hM2 hr2 hF2 => ⟨_, rfl, ?_⟩)
  have hS2 := hS1.fr hF2
  refine x_pop (pc' := 230) rfl rfl rfl ?_
  refine x_goto (tgt := 831) rfl rfl ?_
  exact K _ _ _ _ hS2 hM2 hc1 hr2 (ok_bowl ho)
theorem kc_put (hi : i + 3 ≤ L) (hL : L ≤ 1536) (hS : x_Sys 73 f S) (hM : x_Mdl 73 f M) (hc : c_is S A) (hr : r_is M A) (ho : a_ok A) (K : k_next E L xs i) : X E room_1 mL_law (x_QL E L xs) 32 [(3, .int (nI i)), (2, .ref 59), (1, .ref 0), (0, .retAddr 0)] [.int (nI 3)] 73 f 73 34115 := by
  refine x_tableIn (tgt := 233) rfl (by decide) (by decide) rfl rfl ?_
  refine x_aload_n (pc' := 234) rfl rfl rfl ?_
  refine x_aload_ns (pc' := 235) rfl rfl rfl ?_
  refine x_iload_n (pc' := 236) rfl rfl rfl ?_
  refine x_iconst (pc' := 237) rfl rfl iconst_1 ?_
  refine x_iadd (pc' := 238) rfl rfl ?_
  refine x_eqi (show nI i + 1 = nI (i + 1) from nI_add i 1) ?_
  refine x_sld (pc' := 239) rfl rfl (vp_in_nI (n := i + 1) (N := L) (by omega) (by omega)) ?_
  refine x_aload_ns (pc' := 240) rfl rfl rfl ?_
  refine x_iload_n (pc' := 241) rfl rfl rfl ?_
  refine x_iconst (pc' := 242) rfl rfl iconst_2 ?_
  refine x_iadd (pc' := 243) rfl rfl ?_
  refine x_eqi (show nI i + 2 = nI (i + 2) from nI_add i 2) ?_
  refine x_sld (pc' := 244) rfl rfl (vp_in_nI (n := i + 2) (N := L) (by omega) (by omega)) ?_
  refine x_cV2i (d := 9) (pc' := 247) rfl rfl sL_28 gX5_put (hS.1) ⟨Nat.le_of_ble_eq_true rfl, Nat.le_of_ble_eq_true rfl⟩ (Nat.le_of_ble_eq_true rfl) ⟨Nat.le_of_ble_eq_true rfl, Nat.le_of_ble_eq_true rfl⟩ ?_
  refine c_put hS hc ho (fun f1 S1 hS1 hc1 hF1 => ⟨_, rfl, ?_⟩)
  have hM1 := hM.fr hF1
  refine x_pop (pc' := 248) rfl rfl rfl ?_
  refine x_aload_n (pc' := 249) rfl rfl rfl ?_
  refine x_aload_ns (pc' := 250) rfl rfl rfl ?_
  refine x_iload_n (pc' := 251) rfl rfl rfl ?_
  refine x_iconst (pc' := 252) rfl rfl iconst_1 ?_
  refine x_iadd (pc' := 253) rfl rfl ?_
  refine x_eqi (show nI i + 1 = nI (i + 1) from nI_add i 1) ?_
  refine x_sld (pc' := 254) rfl rfl (vp_in_nI (n := i + 1) (N := L) (by omega) (by omega)) ?_
  refine x_aload_ns (pc' := 255) rfl rfl rfl ?_
  refine x_iload_n (pc' := 256) rfl rfl rfl ?_
  refine x_iconst (pc' := 257) rfl rfl iconst_2 ?_
  refine x_iadd (pc' := 258) rfl rfl ?_
  refine x_eqi (show nI i + 2 = nI (i + 2) from nI_add i 2) ?_
  refine x_sld (pc' := 259) rfl rfl (vp_in_nI (n := i + 2) (N := L) (by omega) (by omega)) ?_
  refine x_cV2i (d := 9) (pc' := 262) rfl rfl sL_31 gX6_put (hM1.1) ⟨Nat.le_of_ble_eq_true rfl, Nat.le_of_ble_eq_true rfl⟩ (Nat.le_of_ble_eq_true rfl) ⟨Nat.le_of_ble_eq_true rfl, Nat.le_of_ble_eq_true rfl⟩ ?_
  refine r_put hM1 hr ho (fun f2 M2 hM2 hr2 hF2 => ⟨_, rfl, ?_⟩)
  have hS2 := hS1.fr hF2
  refine x_pop (pc' := 263) rfl rfl rfl ?_
  refine x_goto (tgt := 831) rfl rfl ?_
  exact K _ _ _ _ hS2 hM2 hc1 hr2 (ok_put ho)
theorem kc_set (hi : i + 3 ≤ L) (hL : L ≤ 1536) (hS : x_Sys 73 f S) (hM : x_Mdl 73 f M) (hc : c_is S A) (hr : r_is M A) (ho : a_ok A) (K : k_next E L xs i) : X E room_1 mL_law (x_QL E L xs) 32 [(3, .int (nI i)), (2, .ref 59), (1, .ref 0), (0, .retAddr 0)] [.int (nI 4)] 73 f 73 34115 := by
  refine x_tableIn (tgt := 266) rfl (by decide) (by decide) rfl rfl ?_
  refine x_aload_n (pc' := 267) rfl rfl rfl ?_
  refine x_aload_ns (pc' := 268) rfl rfl rfl ?_
  refine x_iload_n (pc' := 269) rfl rfl rfl ?_
  refine x_iconst (pc' := 270) rfl rfl iconst_1 ?_
  refine x_iadd (pc' := 271) rfl rfl ?_
  refine x_eqi (show nI i + 1 = nI (i + 1) from nI_add i 1) ?_
  refine x_sld (pc' := 272) rfl rfl (vp_in_nI (n := i + 1) (N := L) (by omega) (by omega)) ?_
  refine x_aload_ns (pc' := 273) rfl rfl rfl ?_
  refine x_iload_n (pc' := 274) rfl rfl rfl ?_
  refine x_iconst (pc' := 275) rfl rfl iconst_2 ?_
  refine x_iadd (pc' := 276) rfl rfl ?_
  refine x_eqi (show nI i + 2 = nI (i + 2) from nI_add i 2) ?_
  refine x_sld (pc' := 277) rfl rfl (vp_in_nI (n := i + 2) (N := L) (by omega) (by omega)) ?_
  refine x_cV2i (d := 9) (pc' := 280) rfl rfl sL_32 gX5_set (hS.1) ⟨Nat.le_of_ble_eq_true rfl, Nat.le_of_ble_eq_true rfl⟩ (Nat.le_of_ble_eq_true rfl) ⟨Nat.le_of_ble_eq_true rfl, Nat.le_of_ble_eq_true rfl⟩ ?_
  refine c_set hS hc (fun f1 S1 hS1 hc1 hF1 => ⟨_, rfl, ?_⟩)
  have hM1 := hM.fr hF1
  refine x_pop (pc' := 281) rfl rfl rfl ?_
  refine x_aload_n (pc' := 282) rfl rfl rfl ?_
  refine x_aload_ns (pc' := 283) rfl rfl rfl ?_
  refine x_iload_n (pc' := 284) rfl rfl rfl ?_
  refine x_iconst (pc' := 285) rfl rfl iconst_1 ?_
  refine x_iadd (pc' := 286) rfl rfl ?_
  refine x_eqi (show nI i + 1 = nI (i + 1) from nI_add i 1) ?_
  refine x_sld (pc' := 287) rfl rfl (vp_in_nI (n := i + 1) (N := L) (by omega) (by omega)) ?_
  refine x_aload_ns (pc' := 288) rfl rfl rfl ?_
  refine x_iload_n (pc' := 289) rfl rfl rfl ?_
  refine x_iconst (pc' := 290) rfl rfl iconst_2 ?_
  refine x_iadd (pc' := 291) rfl rfl ?_
  refine x_eqi (show nI i + 2 = nI (i + 2) from nI_add i 2) ?_
  refine x_sld (pc' := 292) rfl rfl (vp_in_nI (n := i + 2) (N := L) (by omega) (by omega)) ?_
  refine x_cV2i (d := 9) (pc' := 295) rfl rfl sL_35 gX6_set (hM1.1) ⟨Nat.le_of_ble_eq_true rfl, Nat.le_of_ble_eq_true rfl⟩ (Nat.le_of_ble_eq_true rfl) ⟨Nat.le_of_ble_eq_true rfl, Nat.le_of_ble_eq_true rfl⟩ ?_
  refine r_set hM1 hr (fun f2 M2 hM2 hr2 hF2 => ⟨_, rfl, ?_⟩)
  have hS2 := hS1.fr hF2
  refine x_pop (pc' := 296) rfl rfl rfl ?_
  refine x_goto (tgt := 831) rfl rfl ?_
  exact K _ _ _ _ hS2 hM2 hc1 hr2 (ok_set ho)
theorem kc_move (hi : i + 3 ≤ L) (hL : L ≤ 1536) (hS : x_Sys 73 f S) (hM : x_Mdl 73 f M) (hc : c_is S A) (hr : r_is M A) (ho : a_ok A) (K : k_next E L xs i) : X E room_1 mL_law (x_QL E L xs) 32 [(3, .int (nI i)), (2, .ref 59), (1, .ref 0), (0, .retAddr 0)] [.int (nI 5)] 73 f 73 34115 := by
  refine x_tableIn (tgt := 299) rfl (by decide) (by decide) rfl rfl ?_
  refine x_aload_n (pc' := 300) rfl rfl rfl ?_
  refine x_aload_ns (pc' := 301) rfl rfl rfl ?_
  refine x_iload_n (pc' := 302) rfl rfl rfl ?_
  refine x_iconst (pc' := 303) rfl rfl iconst_1 ?_
  refine x_iadd (pc' := 304) rfl rfl ?_
  refine x_eqi (show nI i + 1 = nI (i + 1) from nI_add i 1) ?_
  refine x_sld (pc' := 305) rfl rfl (vp_in_nI (n := i + 1) (N := L) (by omega) (by omega)) ?_
  refine x_cV1i (d := 9) (pc' := 308) rfl rfl sL_36 gX5_move (hS.1) ⟨Nat.le_of_ble_eq_true rfl, Nat.le_of_ble_eq_true rfl⟩ (Nat.le_of_ble_eq_true rfl) ⟨Nat.le_of_ble_eq_true rfl, Nat.le_of_ble_eq_true rfl⟩ ?_
  refine c_move hS hc ho (fun f1 S1 hS1 hc1 hF1 => ⟨_, rfl, ?_⟩)
  have hM1 := hM.fr hF1
  refine x_pop (pc' := 309) rfl rfl rfl ?_
  refine x_aload_n (pc' := 310) rfl rfl rfl ?_
  refine x_aload_ns (pc' := 311) rfl rfl rfl ?_
  refine x_iload_n (pc' := 312) rfl rfl rfl ?_
  refine x_iconst (pc' := 313) rfl rfl iconst_1 ?_
  refine x_iadd (pc' := 314) rfl rfl ?_
  refine x_eqi (show nI i + 1 = nI (i + 1) from nI_add i 1) ?_
  refine x_sld (pc' := 315) rfl rfl (vp_in_nI (n := i + 1) (N := L) (by omega) (by omega)) ?_
  refine x_cV1i (d := 9) (pc' := 318) rfl rfl sL_39 gX6_move (hM1.1) ⟨Nat.le_of_ble_eq_true rfl, Nat.le_of_ble_eq_true rfl⟩ (Nat.le_of_ble_eq_true rfl) ⟨Nat.le_of_ble_eq_true rfl, Nat.le_of_ble_eq_true rfl⟩ ?_
  refine r_move hM1 hr ho (fun f2 M2 hM2 hr2 hF2 => ⟨_, rfl, ?_⟩)
  have hS2 := hS1.fr hF2
  refine x_pop (pc' := 319) rfl rfl rfl ?_
  refine x_goto (tgt := 831) rfl rfl ?_
  exact K _ _ _ _ hS2 hM2 hc1 hr2 (ok_move ho)
theorem kc_by (hi : i + 3 ≤ L) (hL : L ≤ 1536) (hS : x_Sys 73 f S) (hM : x_Mdl 73 f M) (hc : c_is S A) (hr : r_is M A) (ho : a_ok A) (K : k_next E L xs i) : X E room_1 mL_law (x_QL E L xs) 32 [(3, .int (nI i)), (2, .ref 59), (1, .ref 0), (0, .retAddr 0)] [.int (nI 6)] 73 f 73 34115 := by
  refine x_tableIn (tgt := 322) rfl (by decide) (by decide) rfl rfl ?_
  refine x_aload_n (pc' := 323) rfl rfl rfl ?_
  refine x_aload_ns (pc' := 324) rfl rfl rfl ?_
  refine x_iload_n (pc' := 325) rfl rfl rfl ?_
  refine x_iconst (pc' := 326) rfl rfl iconst_1 ?_
  refine x_iadd (pc' := 327) rfl rfl ?_
  refine x_eqi (show nI i + 1 = nI (i + 1) from nI_add i 1) ?_
  refine x_sld (pc' := 328) rfl rfl (vp_in_nI (n := i + 1) (N := L) (by omega) (by omega)) ?_
  refine x_aload_ns (pc' := 329) rfl rfl rfl ?_
  refine x_iload_n (pc' := 330) rfl rfl rfl ?_
  refine x_iconst (pc' := 331) rfl rfl iconst_2 ?_
  refine x_iadd (pc' := 332) rfl rfl ?_
  refine x_eqi (show nI i + 2 = nI (i + 2) from nI_add i 2) ?_
  refine x_sld (pc' := 333) rfl rfl (vp_in_nI (n := i + 2) (N := L) (by omega) (by omega)) ?_
  refine x_cV2i (d := 9) (pc' := 336) rfl rfl sL_40 gX5_by (hS.1) ⟨Nat.le_of_ble_eq_true rfl, Nat.le_of_ble_eq_true rfl⟩ (Nat.le_of_ble_eq_true rfl) ⟨Nat.le_of_ble_eq_true rfl, Nat.le_of_ble_eq_true rfl⟩ ?_
  refine c_by hS hc ho (fun f1 S1 hS1 hc1 hF1 => ⟨_, rfl, ?_⟩)
  have hM1 := hM.fr hF1
  refine x_pop (pc' := 337) rfl rfl rfl ?_
  refine x_aload_n (pc' := 338) rfl rfl rfl ?_
  refine x_aload_ns (pc' := 339) rfl rfl rfl ?_
  refine x_iload_n (pc' := 340) rfl rfl rfl ?_
  refine x_iconst (pc' := 341) rfl rfl iconst_1 ?_
  refine x_iadd (pc' := 342) rfl rfl ?_
  refine x_eqi (show nI i + 1 = nI (i + 1) from nI_add i 1) ?_
  refine x_sld (pc' := 343) rfl rfl (vp_in_nI (n := i + 1) (N := L) (by omega) (by omega)) ?_
  refine x_aload_ns (pc' := 344) rfl rfl rfl ?_
  refine x_iload_n (pc' := 345) rfl rfl rfl ?_
  refine x_iconst (pc' := 346) rfl rfl iconst_2 ?_
  refine x_iadd (pc' := 347) rfl rfl ?_
  refine x_eqi (show nI i + 2 = nI (i + 2) from nI_add i 2) ?_
  refine x_sld (pc' := 348) rfl rfl (vp_in_nI (n := i + 2) (N := L) (by omega) (by omega)) ?_
  refine x_cV2i (d := 9) (pc' := 351) rfl rfl sL_43 gX6_by (hM1.1) ⟨Nat.le_of_ble_eq_true rfl, Nat.le_of_ble_eq_true rfl⟩ (Nat.le_of_ble_eq_true rfl) ⟨Nat.le_of_ble_eq_true rfl, Nat.le_of_ble_eq_true rfl⟩ ?_
  refine r_by hM1 hr ho (fun f2 M2 hM2 hr2 hF2 => ⟨_, rfl, ?_⟩)
  have hS2 := hS1.fr hF2
  refine x_pop (pc' := 352) rfl rfl rfl ?_
  refine x_goto (tgt := 831) rfl rfl ?_
  exact K _ _ _ _ hS2 hM2 hc1 hr2 (ok_by ho)
theorem kc_behind (hi : i + 3 ≤ L) (hL : L ≤ 1536) (hS : x_Sys 73 f S) (hM : x_Mdl 73 f M) (hc : c_is S A) (hr : r_is M A) (ho : a_ok A) (K : k_next E L xs i) : X E room_1 mL_law (x_QL E L xs) 32 [(3, .int (nI i)), (2, .ref 59), (1, .ref 0), (0, .retAddr 0)] [.int (nI 7)] 73 f 73 34115 := by
  refine x_tableIn (tgt := 355) rfl (by decide) (by decide) rfl rfl ?_
  refine x_aload_n (pc' := 356) rfl rfl rfl ?_
  refine x_aload_ns (pc' := 357) rfl rfl rfl ?_
  refine x_iload_n (pc' := 358) rfl rfl rfl ?_
  refine x_iconst (pc' := 359) rfl rfl iconst_1 ?_
  refine x_iadd (pc' := 360) rfl rfl ?_
  refine x_eqi (show nI i + 1 = nI (i + 1) from nI_add i 1) ?_
  refine x_sld (pc' := 361) rfl rfl (vp_in_nI (n := i + 1) (N := L) (by omega) (by omega)) ?_
  refine x_aload_ns (pc' := 362) rfl rfl rfl ?_
  refine x_iload_n (pc' := 363) rfl rfl rfl ?_
  refine x_iconst (pc' := 364) rfl rfl iconst_2 ?_
  refine x_iadd (pc' := 365) rfl rfl ?_
  refine x_eqi (show nI i + 2 = nI (i + 2) from nI_add i 2) ?_
  refine x_sld (pc' := 366) rfl rfl (vp_in_nI (n := i + 2) (N := L) (by omega) (by omega)) ?_
  refine x_cV2i (d := 9) (pc' := 369) rfl rfl sL_44 gX5_behind (hS.1) ⟨Nat.le_of_ble_eq_true rfl, Nat.le_of_ble_eq_true rfl⟩ (Nat.le_of_ble_eq_true rfl) ⟨Nat.le_of_ble_eq_true rfl, Nat.le_of_ble_eq_true rfl⟩ ?_
  refine c_behind hS hc ho (fun f1 S1 hS1 hc1 hF1 => ⟨_, rfl, ?_⟩)
  have hM1 := hM.fr hF1
  refine x_pop (pc' := 370) rfl rfl rfl ?_
  refine x_aload_n (pc' := 371) rfl rfl rfl ?_
  refine x_aload_ns (pc' := 372) rfl rfl rfl ?_
  refine x_iload_n (pc' := 373) rfl rfl rfl ?_
  refine x_iconst (pc' := 374) rfl rfl iconst_1 ?_
  refine x_iadd (pc' := 375) rfl rfl ?_
  refine x_eqi (show nI i + 1 = nI (i + 1) from nI_add i 1) ?_
  refine x_sld (pc' := 376) rfl rfl (vp_in_nI (n := i + 1) (N := L) (by omega) (by omega)) ?_
  refine x_aload_ns (pc' := 377) rfl rfl rfl ?_
  refine x_iload_n (pc' := 378) rfl rfl rfl ?_
  refine x_iconst (pc' := 379) rfl rfl iconst_2 ?_
  refine x_iadd (pc' := 380) rfl rfl ?_
  refine x_eqi (show nI i + 2 = nI (i + 2) from nI_add i 2) ?_
  refine x_sld (pc' := 381) rfl rfl (vp_in_nI (n := i + 2) (N := L) (by omega) (by omega)) ?_
  refine x_cV2i (d := 9) (pc' := 384) rfl rfl sL_47 gX6_behind (hM1.1) ⟨Nat.le_of_ble_eq_true rfl, Nat.le_of_ble_eq_true rfl⟩ (Nat.le_of_ble_eq_true rfl) ⟨Nat.le_of_ble_eq_true rfl, Nat.le_of_ble_eq_true rfl⟩ ?_
  refine r_behind hM1 hr ho (fun f2 M2 hM2 hr2 hF2 => ⟨_, rfl, ?_⟩)
  have hS2 := hS1.fr hF2
  refine x_pop (pc' := 385) rfl rfl rfl ?_
  refine x_goto (tgt := 831) rfl rfl ?_
  exact K _ _ _ _ hS2 hM2 hc1 hr2 (ok_behind ho)
theorem kc_empties (hi : i + 3 ≤ L) (hL : L ≤ 1536) (hS : x_Sys 73 f S) (hM : x_Mdl 73 f M) (hc : c_is S A) (hr : r_is M A) (ho : a_ok A) (K : k_next E L xs i) : X E room_1 mL_law (x_QL E L xs) 32 [(3, .int (nI i)), (2, .ref 59), (1, .ref 0), (0, .retAddr 0)] [.int (nI 8)] 73 f 73 34115 := by
  refine x_tableIn (tgt := 388) rfl (by decide) (by decide) rfl rfl ?_
  refine x_aload_n (pc' := 389) rfl rfl rfl ?_
  refine x_aload_ns (pc' := 390) rfl rfl rfl ?_
  refine x_iload_n (pc' := 391) rfl rfl rfl ?_
  refine x_iconst (pc' := 392) rfl rfl iconst_1 ?_
  refine x_iadd (pc' := 393) rfl rfl ?_
  refine x_eqi (show nI i + 1 = nI (i + 1) from nI_add i 1) ?_
  refine x_sld (pc' := 394) rfl rfl (vp_in_nI (n := i + 1) (N := L) (by omega) (by omega)) ?_
  refine x_cV1i (d := 9) (pc' := 397) rfl rfl sL_48 gX5_empties (hS.1) ⟨Nat.le_of_ble_eq_true rfl, Nat.le_of_ble_eq_true rfl⟩ (Nat.le_of_ble_eq_true rfl) ⟨Nat.le_of_ble_eq_true rfl, Nat.le_of_ble_eq_true rfl⟩ ?_
  refine c_empties hS hc ho (fun f1 S1 hS1 hc1 hF1 => ⟨_, rfl, ?_⟩)
  have hM1 := hM.fr hF1
  refine x_pop (pc' := 398) rfl rfl rfl ?_
  refine x_aload_n (pc' := 399) rfl rfl rfl ?_
  refine x_aload_ns (pc' := 400) rfl rfl rfl ?_
  refine x_iload_n (pc' := 401) rfl rfl rfl ?_
  refine x_iconst (pc' := 402) rfl rfl iconst_1 ?_
  refine x_iadd (pc' := 403) rfl rfl ?_
  refine x_eqi (show nI i + 1 = nI (i + 1) from nI_add i 1) ?_
  refine x_sld (pc' := 404) rfl rfl (vp_in_nI (n := i + 1) (N := L) (by omega) (by omega)) ?_
  refine x_cV1i (d := 9) (pc' := 407) rfl rfl sL_51 gX6_empties (hM1.1) ⟨Nat.le_of_ble_eq_true rfl, Nat.le_of_ble_eq_true rfl⟩ (Nat.le_of_ble_eq_true rfl) ⟨Nat.le_of_ble_eq_true rfl, Nat.le_of_ble_eq_true rfl⟩ ?_
  refine r_empties hM1 hr ho (fun f2 M2 hM2 hr2 hF2 => ⟨_, rfl, ?_⟩)
  have hS2 := hS1.fr hF2
  refine x_pop (pc' := 408) rfl rfl rfl ?_
  refine x_goto (tgt := 831) rfl rfl ?_
  exact K _ _ _ _ hS2 hM2 hc1 hr2 (ok_empties ho)
theorem kc_longest (hi : i + 3 ≤ L) (hL : L ≤ 1536) (hS : x_Sys 73 f S) (hM : x_Mdl 73 f M) (hc : c_is S A) (hr : r_is M A) (ho : a_ok A) (K : k_next E L xs i) : X E room_1 mL_law (x_QL E L xs) 32 [(3, .int (nI i)), (2, .ref 59), (1, .ref 0), (0, .retAddr 0)] [.int (nI 9)] 73 f 73 34115 := by
  refine x_tableIn (tgt := 411) rfl (by decide) (by decide) rfl rfl ?_
  refine x_aload_n (pc' := 412) rfl rfl rfl ?_
  refine x_cV0i (d := 9) (pc' := 415) rfl rfl sL_52 gX5_longest (hS.1) ⟨Nat.le_of_ble_eq_true rfl, Nat.le_of_ble_eq_true rfl⟩ (Nat.le_of_ble_eq_true rfl) ⟨Nat.le_of_ble_eq_true rfl, Nat.le_of_ble_eq_true rfl⟩ ?_
  refine c_longest hS hc ho (fun f1 S1 hS1 hc1 hF1 => ⟨_, rfl, ?_⟩)
  have hM1 := hM.fr hF1
  refine x_pop (pc' := 416) rfl rfl rfl ?_
  refine x_aload_n (pc' := 417) rfl rfl rfl ?_
  refine x_cV0i (d := 9) (pc' := 420) rfl rfl sL_55 gX6_longest (hM1.1) ⟨Nat.le_of_ble_eq_true rfl, Nat.le_of_ble_eq_true rfl⟩ (Nat.le_of_ble_eq_true rfl) ⟨Nat.le_of_ble_eq_true rfl, Nat.le_of_ble_eq_true rfl⟩ ?_
  refine r_longest hM1 hr ho (fun f2 M2 hM2 hr2 hF2 => ⟨_, rfl, ?_⟩)
  have hS2 := hS1.fr hF2
  refine x_pop (pc' := 421) rfl rfl rfl ?_
  refine x_goto (tgt := 831) rfl rfl ?_
  exact K _ _ _ _ hS2 hM2 hc1 hr2 ho
theorem kc_best (hi : i + 3 ≤ L) (hL : L ≤ 1536) (hS : x_Sys 73 f S) (hM : x_Mdl 73 f M) (hc : c_is S A) (hr : r_is M A) (ho : a_ok A) (K : k_next E L xs i) : X E room_1 mL_law (x_QL E L xs) 32 [(3, .int (nI i)), (2, .ref 59), (1, .ref 0), (0, .retAddr 0)] [.int (nI 10)] 73 f 73 34115 := by
  refine x_tableIn (tgt := 424) rfl (by decide) (by decide) rfl rfl ?_
  refine x_aload_n (pc' := 425) rfl rfl rfl ?_
  refine x_aload_ns (pc' := 426) rfl rfl rfl ?_
  refine x_iload_n (pc' := 427) rfl rfl rfl ?_
  refine x_iconst (pc' := 428) rfl rfl iconst_1 ?_
  refine x_iadd (pc' := 429) rfl rfl ?_
  refine x_eqi (show nI i + 1 = nI (i + 1) from nI_add i 1) ?_
  refine x_sld (pc' := 430) rfl rfl (vp_in_nI (n := i + 1) (N := L) (by omega) (by omega)) ?_
  refine x_cV1i (d := 13) (pc' := 433) rfl rfl sL_56 gX5_best (hS.1) ⟨Nat.le_of_ble_eq_true rfl, Nat.le_of_ble_eq_true rfl⟩ (Nat.le_of_ble_eq_true rfl) ⟨Nat.le_of_ble_eq_true rfl, Nat.le_of_ble_eq_true rfl⟩ ?_
  refine c_best hS hc ho (fun f1 S1 hS1 hc1 hF1 => ⟨_, rfl, ?_⟩)
  have hM1 := hM.fr hF1
  refine x_pop (pc' := 434) rfl rfl rfl ?_
  refine x_aload_n (pc' := 435) rfl rfl rfl ?_
  refine x_aload_ns (pc' := 436) rfl rfl rfl ?_
  refine x_iload_n (pc' := 437) rfl rfl rfl ?_
  refine x_iconst (pc' := 438) rfl rfl iconst_1 ?_
  refine x_iadd (pc' := 439) rfl rfl ?_
  refine x_eqi (show nI i + 1 = nI (i + 1) from nI_add i 1) ?_
  refine x_sld (pc' := 440) rfl rfl (vp_in_nI (n := i + 1) (N := L) (by omega) (by omega)) ?_
  refine x_cV1i (d := 12) (pc' := 443) rfl rfl sL_59 gX6_best (hM1.1) ⟨Nat.le_of_ble_eq_true rfl, Nat.le_of_ble_eq_true rfl⟩ (Nat.le_of_ble_eq_true rfl) ⟨Nat.le_of_ble_eq_true rfl, Nat.le_of_ble_eq_true rfl⟩ ?_
  refine r_best hM1 hr ho (fun f2 M2 hM2 hr2 hF2 => ⟨_, rfl, ?_⟩)
  have hS2 := hS1.fr hF2
  refine x_pop (pc' := 444) rfl rfl rfl ?_
  refine x_goto (tgt := 831) rfl rfl ?_
  exact K _ _ _ _ hS2 hM2 hc1 (by rw [st_best] at hr2; exact hr2) (ok_best ho)
theorem kc_worth (hi : i + 3 ≤ L) (hL : L ≤ 1536) (hS : x_Sys 73 f S) (hM : x_Mdl 73 f M) (hc : c_is S A) (hr : r_is M A) (ho : a_ok A) (K : k_next E L xs i) : X E room_1 mL_law (x_QL E L xs) 32 [(3, .int (nI i)), (2, .ref 59), (1, .ref 0), (0, .retAddr 0)] [.int (nI 11)] 73 f 73 34115 := by
  refine x_tableIn (tgt := 447) rfl (by decide) (by decide) rfl rfl ?_
  refine x_aload_n (pc' := 448) rfl rfl rfl ?_
  refine x_aload_ns (pc' := 449) rfl rfl rfl ?_
  refine x_iload_n (pc' := 450) rfl rfl rfl ?_
  refine x_iconst (pc' := 451) rfl rfl iconst_1 ?_
  refine x_iadd (pc' := 452) rfl rfl ?_
  refine x_eqi (show nI i + 1 = nI (i + 1) from nI_add i 1) ?_
  refine x_sld (pc' := 453) rfl rfl (vp_in_nI (n := i + 1) (N := L) (by omega) (by omega)) ?_
  refine x_cV1i (d := 13) (pc' := 456) rfl rfl sL_60 gX5_worth (hS.1) ⟨Nat.le_of_ble_eq_true rfl, Nat.le_of_ble_eq_true rfl⟩ (Nat.le_of_ble_eq_true rfl) ⟨Nat.le_of_ble_eq_true rfl, Nat.le_of_ble_eq_true rfl⟩ ?_
  refine c_worth hS hc ho (fun f1 S1 hS1 hc1 hF1 => ⟨_, rfl, ?_⟩)
  have hM1 := hM.fr hF1
  refine x_pop (pc' := 457) rfl rfl rfl ?_
  refine x_aload_n (pc' := 458) rfl rfl rfl ?_
  refine x_aload_ns (pc' := 459) rfl rfl rfl ?_
  refine x_iload_n (pc' := 460) rfl rfl rfl ?_
  refine x_iconst (pc' := 461) rfl rfl iconst_1 ?_
  refine x_iadd (pc' := 462) rfl rfl ?_
  refine x_eqi (show nI i + 1 = nI (i + 1) from nI_add i 1) ?_
  refine x_sld (pc' := 463) rfl rfl (vp_in_nI (n := i + 1) (N := L) (by omega) (by omega)) ?_
  refine x_cV1i (d := 12) (pc' := 466) rfl rfl sL_63 gX6_worth (hM1.1) ⟨Nat.le_of_ble_eq_true rfl, Nat.le_of_ble_eq_true rfl⟩ (Nat.le_of_ble_eq_true rfl) ⟨Nat.le_of_ble_eq_true rfl, Nat.le_of_ble_eq_true rfl⟩ ?_
  refine r_worth hM1 hr ho (fun f2 M2 hM2 hr2 hF2 => ⟨_, rfl, ?_⟩)
  have hS2 := hS1.fr hF2
  refine x_pop (pc' := 467) rfl rfl rfl ?_
  refine x_goto (tgt := 831) rfl rfl ?_
  exact K _ _ _ _ hS2 hM2 hc1 (by rw [st_worth] at hr2; exact hr2) (ok_worth ho)
theorem kc_lost (hi : i + 3 ≤ L) (hL : L ≤ 1536) (hS : x_Sys 73 f S) (hM : x_Mdl 73 f M) (hc : c_is S A) (hr : r_is M A) (ho : a_ok A) (K : k_next E L xs i) : X E room_1 mL_law (x_QL E L xs) 32 [(3, .int (nI i)), (2, .ref 59), (1, .ref 0), (0, .retAddr 0)] [.int (nI 12)] 73 f 73 34115 := by
  refine x_tableIn (tgt := 470) rfl (by decide) (by decide) rfl rfl ?_
  refine x_aload_n (pc' := 471) rfl rfl rfl ?_
  refine x_cV0i (d := 9) (pc' := 474) rfl rfl sL_64 gX5_lost (hS.1) ⟨Nat.le_of_ble_eq_true rfl, Nat.le_of_ble_eq_true rfl⟩ (Nat.le_of_ble_eq_true rfl) ⟨Nat.le_of_ble_eq_true rfl, Nat.le_of_ble_eq_true rfl⟩ ?_
  refine c_lostS hS hc ho (fun f1 S1 hS1 hc1 hF1 => ⟨_, rfl, ?_⟩)
  have hM1 := hM.fr hF1
  refine x_pop (pc' := 475) rfl rfl rfl ?_
  refine x_aload_n (pc' := 476) rfl rfl rfl ?_
  refine x_cV0i (d := 9) (pc' := 479) rfl rfl sL_67 gX6_lost (hM1.1) ⟨Nat.le_of_ble_eq_true rfl, Nat.le_of_ble_eq_true rfl⟩ (Nat.le_of_ble_eq_true rfl) ⟨Nat.le_of_ble_eq_true rfl, Nat.le_of_ble_eq_true rfl⟩ ?_
  refine r_lost hM1 hr ho (fun f2 M2 hM2 hr2 hF2 => ⟨_, rfl, ?_⟩)
  have hS2 := hS1.fr hF2
  refine x_pop (pc' := 480) rfl rfl rfl ?_
  refine x_goto (tgt := 831) rfl rfl ?_
  exact K _ _ _ _ hS2 hM2 hc1 hr2 ho
theorem kc_back (hi : i + 3 ≤ L) (hL : L ≤ 1536) (hS : x_Sys 73 f S) (hM : x_Mdl 73 f M) (hc : c_is S A) (hr : r_is M A) (ho : a_ok A) (K : k_next E L xs i) : X E room_1 mL_law (x_QL E L xs) 32 [(3, .int (nI i)), (2, .ref 59), (1, .ref 0), (0, .retAddr 0)] [.int (nI 13)] 73 f 73 34115 := by
  refine x_tableIn (tgt := 483) rfl (by decide) (by decide) rfl rfl ?_
  refine x_aload_n (pc' := 484) rfl rfl rfl ?_
  refine x_aload_ns (pc' := 485) rfl rfl rfl ?_
  refine x_iload_n (pc' := 486) rfl rfl rfl ?_
  refine x_iconst (pc' := 487) rfl rfl iconst_1 ?_
  refine x_iadd (pc' := 488) rfl rfl ?_
  refine x_eqi (show nI i + 1 = nI (i + 1) from nI_add i 1) ?_
  refine x_sld (pc' := 489) rfl rfl (vp_in_nI (n := i + 1) (N := L) (by omega) (by omega)) ?_
  refine x_cV1i (d := 9) (pc' := 492) rfl rfl sL_68 gX5_back (hS.1) ⟨Nat.le_of_ble_eq_true rfl, Nat.le_of_ble_eq_true rfl⟩ (Nat.le_of_ble_eq_true rfl) ⟨Nat.le_of_ble_eq_true rfl, Nat.le_of_ble_eq_true rfl⟩ ?_
  refine c_back hS hc ho (fun f1 S1 hS1 hc1 hF1 => ⟨_, rfl, ?_⟩)
  have hM1 := hM.fr hF1
  refine x_pop (pc' := 493) rfl rfl rfl ?_
  refine x_aload_n (pc' := 494) rfl rfl rfl ?_
  refine x_aload_ns (pc' := 495) rfl rfl rfl ?_
  refine x_iload_n (pc' := 496) rfl rfl rfl ?_
  refine x_iconst (pc' := 497) rfl rfl iconst_1 ?_
  refine x_iadd (pc' := 498) rfl rfl ?_
  refine x_eqi (show nI i + 1 = nI (i + 1) from nI_add i 1) ?_
  refine x_sld (pc' := 499) rfl rfl (vp_in_nI (n := i + 1) (N := L) (by omega) (by omega)) ?_
  refine x_cV1i (d := 9) (pc' := 502) rfl rfl sL_71 gX6_back (hM1.1) ⟨Nat.le_of_ble_eq_true rfl, Nat.le_of_ble_eq_true rfl⟩ (Nat.le_of_ble_eq_true rfl) ⟨Nat.le_of_ble_eq_true rfl, Nat.le_of_ble_eq_true rfl⟩ ?_
  refine r_back hM1 hr ho (fun f2 M2 hM2 hr2 hF2 => ⟨_, rfl, ?_⟩)
  have hS2 := hS1.fr hF2
  refine x_pop (pc' := 503) rfl rfl rfl ?_
  refine x_goto (tgt := 831) rfl rfl ?_
  exact K _ _ _ _ hS2 hM2 hc1 (by rw [st_back] at hr2; exact hr2) (ok_back ho)
theorem kc_loop (hi : i + 3 ≤ L) (hL : L ≤ 1536) (hS : x_Sys 73 f S) (hM : x_Mdl 73 f M) (hc : c_is S A) (hr : r_is M A) (ho : a_ok A) (K : k_next E L xs i) : X E room_1 mL_law (x_QL E L xs) 32 [(3, .int (nI i)), (2, .ref 59), (1, .ref 0), (0, .retAddr 0)] [.int (nI 14)] 73 f 73 34115 := by
  refine x_tableIn (tgt := 506) rfl (by decide) (by decide) rfl rfl ?_
  refine x_aload_n (pc' := 507) rfl rfl rfl ?_
  refine x_aload_ns (pc' := 508) rfl rfl rfl ?_
  refine x_iload_n (pc' := 509) rfl rfl rfl ?_
  refine x_iconst (pc' := 510) rfl rfl iconst_1 ?_
  refine x_iadd (pc' := 511) rfl rfl ?_
  refine x_eqi (show nI i + 1 = nI (i + 1) from nI_add i 1) ?_
  refine x_sld (pc' := 512) rfl rfl (vp_in_nI (n := i + 1) (N := L) (by omega) (by omega)) ?_
  refine x_aload_ns (pc' := 513) rfl rfl rfl ?_
  refine x_iload_n (pc' := 514) rfl rfl rfl ?_
  refine x_iconst (pc' := 515) rfl rfl iconst_2 ?_
  refine x_iadd (pc' := 516) rfl rfl ?_
  refine x_eqi (show nI i + 2 = nI (i + 2) from nI_add i 2) ?_
  refine x_sld (pc' := 517) rfl rfl (vp_in_nI (n := i + 2) (N := L) (by omega) (by omega)) ?_
  refine x_cV2i (d := 9) (pc' := 520) rfl rfl sL_72 gX5_loop (hS.1) ⟨Nat.le_of_ble_eq_true rfl, Nat.le_of_ble_eq_true rfl⟩ (Nat.le_of_ble_eq_true rfl) ⟨Nat.le_of_ble_eq_true rfl, Nat.le_of_ble_eq_true rfl⟩ ?_
  refine c_loop hS hc ho (fun f1 S1 r1 hS1 hc1 hF1 => ⟨_, rfl, ?_⟩)
  have hM1 := hM.fr hF1
  refine x_pop (pc' := 521) rfl rfl rfl ?_
  refine x_aload_n (pc' := 522) rfl rfl rfl ?_
  refine x_aload_ns (pc' := 523) rfl rfl rfl ?_
  refine x_iload_n (pc' := 524) rfl rfl rfl ?_
  refine x_iconst (pc' := 525) rfl rfl iconst_1 ?_
  refine x_iadd (pc' := 526) rfl rfl ?_
  refine x_eqi (show nI i + 1 = nI (i + 1) from nI_add i 1) ?_
  refine x_sld (pc' := 527) rfl rfl (vp_in_nI (n := i + 1) (N := L) (by omega) (by omega)) ?_
  refine x_aload_ns (pc' := 528) rfl rfl rfl ?_
  refine x_iload_n (pc' := 529) rfl rfl rfl ?_
  refine x_iconst (pc' := 530) rfl rfl iconst_2 ?_
  refine x_iadd (pc' := 531) rfl rfl ?_
  refine x_eqi (show nI i + 2 = nI (i + 2) from nI_add i 2) ?_
  refine x_sld (pc' := 532) rfl rfl (vp_in_nI (n := i + 2) (N := L) (by omega) (by omega)) ?_
  refine x_cV2i (d := 9) (pc' := 535) rfl rfl sL_75 gX6_loop (hM1.1) ⟨Nat.le_of_ble_eq_true rfl, Nat.le_of_ble_eq_true rfl⟩ (Nat.le_of_ble_eq_true rfl) ⟨Nat.le_of_ble_eq_true rfl, Nat.le_of_ble_eq_true rfl⟩ ?_
  refine r_loop hM1 hr ho (fun f2 M2 r2 hM2 hr2 hF2 => ⟨_, rfl, ?_⟩)
  have hS2 := hS1.fr hF2
  refine x_pop (pc' := 536) rfl rfl rfl ?_
  refine x_goto (tgt := 831) rfl rfl ?_
  exact K _ _ _ _ hS2 hM2 hc1 hr2 (ok_loop ho)
theorem kc_toEmpty (hi : i + 3 ≤ L) (hL : L ≤ 1536) (hS : x_Sys 73 f S) (hM : x_Mdl 73 f M) (hc : c_is S A) (hr : r_is M A) (ho : a_ok A) (K : k_next E L xs i) : X E room_1 mL_law (x_QL E L xs) 32 [(3, .int (nI i)), (2, .ref 59), (1, .ref 0), (0, .retAddr 0)] [.int (nI 15)] 73 f 73 34115 := by
  refine x_tableIn (tgt := 539) rfl (by decide) (by decide) rfl rfl ?_
  refine x_aload_n (pc' := 540) rfl rfl rfl ?_
  refine x_aload_ns (pc' := 541) rfl rfl rfl ?_
  refine x_iload_n (pc' := 542) rfl rfl rfl ?_
  refine x_iconst (pc' := 543) rfl rfl iconst_1 ?_
  refine x_iadd (pc' := 544) rfl rfl ?_
  refine x_eqi (show nI i + 1 = nI (i + 1) from nI_add i 1) ?_
  refine x_sld (pc' := 545) rfl rfl (vp_in_nI (n := i + 1) (N := L) (by omega) (by omega)) ?_
  refine x_aload_ns (pc' := 546) rfl rfl rfl ?_
  refine x_iload_n (pc' := 547) rfl rfl rfl ?_
  refine x_iconst (pc' := 548) rfl rfl iconst_2 ?_
  refine x_iadd (pc' := 549) rfl rfl ?_
  refine x_eqi (show nI i + 2 = nI (i + 2) from nI_add i 2) ?_
  refine x_sld (pc' := 550) rfl rfl (vp_in_nI (n := i + 2) (N := L) (by omega) (by omega)) ?_
  refine x_cV2i (d := 9) (pc' := 553) rfl rfl sL_76 gX5_toEmpty (hS.1) ⟨Nat.le_of_ble_eq_true rfl, Nat.le_of_ble_eq_true rfl⟩ (Nat.le_of_ble_eq_true rfl) ⟨Nat.le_of_ble_eq_true rfl, Nat.le_of_ble_eq_true rfl⟩ ?_
  refine c_toEmpty hS hc ho (fun f1 S1 hS1 hc1 hF1 => ⟨_, rfl, ?_⟩)
  have hM1 := hM.fr hF1
  refine x_pop (pc' := 554) rfl rfl rfl ?_
  refine x_aload_n (pc' := 555) rfl rfl rfl ?_
  refine x_aload_ns (pc' := 556) rfl rfl rfl ?_
  refine x_iload_n (pc' := 557) rfl rfl rfl ?_
  refine x_iconst (pc' := 558) rfl rfl iconst_1 ?_
  refine x_iadd (pc' := 559) rfl rfl ?_
  refine x_eqi (show nI i + 1 = nI (i + 1) from nI_add i 1) ?_
  refine x_sld (pc' := 560) rfl rfl (vp_in_nI (n := i + 1) (N := L) (by omega) (by omega)) ?_
  refine x_aload_ns (pc' := 561) rfl rfl rfl ?_
  refine x_iload_n (pc' := 562) rfl rfl rfl ?_
  refine x_iconst (pc' := 563) rfl rfl iconst_2 ?_
  refine x_iadd (pc' := 564) rfl rfl ?_
  refine x_eqi (show nI i + 2 = nI (i + 2) from nI_add i 2) ?_
  refine x_sld (pc' := 565) rfl rfl (vp_in_nI (n := i + 2) (N := L) (by omega) (by omega)) ?_
  refine x_cV2i (d := 12) (pc' := 568) rfl rfl sL_79 gX6_toEmpty (hM1.1) ⟨Nat.le_of_ble_eq_true rfl, Nat.le_of_ble_eq_true rfl⟩ (Nat.le_of_ble_eq_true rfl) ⟨Nat.le_of_ble_eq_true rfl, Nat.le_of_ble_eq_true rfl⟩ ?_
  refine r_toEmpty hM1 hr ho (fun f2 M2 hM2 hr2 hF2 => ⟨_, rfl, ?_⟩)
  have hS2 := hS1.fr hF2
  refine x_pop (pc' := 569) rfl rfl rfl ?_
  refine x_goto (tgt := 831) rfl rfl ?_
  exact K _ _ _ _ hS2 hM2 hc1 (by rw [st_toEmpty] at hr2; exact hr2) (ok_toEmpty ho)
theorem kc_price (hi : i + 3 ≤ L) (hL : L ≤ 1536) (hS : x_Sys 73 f S) (hM : x_Mdl 73 f M) (hc : c_is S A) (hr : r_is M A) (ho : a_ok A) (K : k_next E L xs i) : X E room_1 mL_law (x_QL E L xs) 32 [(3, .int (nI i)), (2, .ref 59), (1, .ref 0), (0, .retAddr 0)] [.int (nI 16)] 73 f 73 34115 := by
  refine x_tableIn (tgt := 572) rfl (by decide) (by decide) rfl rfl ?_
  refine x_aload_n (pc' := 573) rfl rfl rfl ?_
  refine x_aload_ns (pc' := 574) rfl rfl rfl ?_
  refine x_iload_n (pc' := 575) rfl rfl rfl ?_
  refine x_iconst (pc' := 576) rfl rfl iconst_1 ?_
  refine x_iadd (pc' := 577) rfl rfl ?_
  refine x_eqi (show nI i + 1 = nI (i + 1) from nI_add i 1) ?_
  refine x_sld (pc' := 578) rfl rfl (vp_in_nI (n := i + 1) (N := L) (by omega) (by omega)) ?_
  refine x_cV1i (d := 14) (pc' := 581) rfl rfl sL_80 gX5_price (hS.1) ⟨Nat.le_of_ble_eq_true rfl, Nat.le_of_ble_eq_true rfl⟩ (Nat.le_of_ble_eq_true rfl) ⟨Nat.le_of_ble_eq_true rfl, Nat.le_of_ble_eq_true rfl⟩ ?_
  refine c_price hS hc ho (fun f1 S1 hS1 hc1 hF1 => ⟨_, rfl, ?_⟩)
  have hM1 := hM.fr hF1
  refine x_pop (pc' := 582) rfl rfl rfl ?_
  refine x_aload_n (pc' := 583) rfl rfl rfl ?_
  refine x_aload_ns (pc' := 584) rfl rfl rfl ?_
  refine x_iload_n (pc' := 585) rfl rfl rfl ?_
  refine x_iconst (pc' := 586) rfl rfl iconst_1 ?_
  refine x_iadd (pc' := 587) rfl rfl ?_
  refine x_eqi (show nI i + 1 = nI (i + 1) from nI_add i 1) ?_
  refine x_sld (pc' := 588) rfl rfl (vp_in_nI (n := i + 1) (N := L) (by omega) (by omega)) ?_
  refine x_cV1i (d := 14) (pc' := 591) rfl rfl sL_83 gX6_price (hM1.1) ⟨Nat.le_of_ble_eq_true rfl, Nat.le_of_ble_eq_true rfl⟩ (Nat.le_of_ble_eq_true rfl) ⟨Nat.le_of_ble_eq_true rfl, Nat.le_of_ble_eq_true rfl⟩ ?_
  refine r_price hM1 hr ho (fun f2 M2 hM2 hr2 hF2 => ⟨_, rfl, ?_⟩)
  have hS2 := hS1.fr hF2
  refine x_pop (pc' := 592) rfl rfl rfl ?_
  refine x_goto (tgt := 831) rfl rfl ?_
  exact K _ _ _ _ hS2 hM2 hc1 (by rw [st_price] at hr2; exact hr2) (ok_price ho)
theorem kc_sold (hi : i + 3 ≤ L) (hL : L ≤ 1536) (hS : x_Sys 73 f S) (hM : x_Mdl 73 f M) (hc : c_is S A) (hr : r_is M A) (ho : a_ok A) (K : k_next E L xs i) : X E room_1 mL_law (x_QL E L xs) 32 [(3, .int (nI i)), (2, .ref 59), (1, .ref 0), (0, .retAddr 0)] [.int (nI 17)] 73 f 73 34115 := by
  refine x_tableIn (tgt := 595) rfl (by decide) (by decide) rfl rfl ?_
  refine x_aload_n (pc' := 596) rfl rfl rfl ?_
  refine x_aload_ns (pc' := 597) rfl rfl rfl ?_
  refine x_iload_n (pc' := 598) rfl rfl rfl ?_
  refine x_iconst (pc' := 599) rfl rfl iconst_1 ?_
  refine x_iadd (pc' := 600) rfl rfl ?_
  refine x_eqi (show nI i + 1 = nI (i + 1) from nI_add i 1) ?_
  refine x_sld (pc' := 601) rfl rfl (vp_in_nI (n := i + 1) (N := L) (by omega) (by omega)) ?_
  refine x_cV1i (d := 14) (pc' := 604) rfl rfl sL_84 gX5_sold (hS.1) ⟨Nat.le_of_ble_eq_true rfl, Nat.le_of_ble_eq_true rfl⟩ (Nat.le_of_ble_eq_true rfl) ⟨Nat.le_of_ble_eq_true rfl, Nat.le_of_ble_eq_true rfl⟩ ?_
  refine c_sold hS hc ho (fun f1 S1 hS1 hc1 hF1 => ⟨_, rfl, ?_⟩)
  have hM1 := hM.fr hF1
  refine x_pop (pc' := 605) rfl rfl rfl ?_
  refine x_aload_n (pc' := 606) rfl rfl rfl ?_
  refine x_aload_ns (pc' := 607) rfl rfl rfl ?_
  refine x_iload_n (pc' := 608) rfl rfl rfl ?_
  refine x_iconst (pc' := 609) rfl rfl iconst_1 ?_
  refine x_iadd (pc' := 610) rfl rfl ?_
  refine x_eqi (show nI i + 1 = nI (i + 1) from nI_add i 1) ?_
  refine x_sld (pc' := 611) rfl rfl (vp_in_nI (n := i + 1) (N := L) (by omega) (by omega)) ?_
  refine x_cV1i (d := 14) (pc' := 614) rfl rfl sL_87 gX6_sold (hM1.1) ⟨Nat.le_of_ble_eq_true rfl, Nat.le_of_ble_eq_true rfl⟩ (Nat.le_of_ble_eq_true rfl) ⟨Nat.le_of_ble_eq_true rfl, Nat.le_of_ble_eq_true rfl⟩ ?_
  refine r_sold hM1 hr ho (fun f2 M2 hM2 hr2 hF2 => ⟨_, rfl, ?_⟩)
  have hS2 := hS1.fr hF2
  refine x_pop (pc' := 615) rfl rfl rfl ?_
  refine x_goto (tgt := 831) rfl rfl ?_
  exact K _ _ _ _ hS2 hM2 hc1 (by rw [st_sold] at hr2; exact hr2) (ok_sold ho)
theorem kc_change (hi : i + 3 ≤ L) (hL : L ≤ 1536) (hS : x_Sys 73 f S) (hM : x_Mdl 73 f M) (hc : c_is S A) (hr : r_is M A) (ho : a_ok A) (K : k_next E L xs i) : X E room_1 mL_law (x_QL E L xs) 32 [(3, .int (nI i)), (2, .ref 59), (1, .ref 0), (0, .retAddr 0)] [.int (nI 18)] 73 f 73 34115 := by
  refine x_tableIn (tgt := 618) rfl (by decide) (by decide) rfl rfl ?_
  refine x_aload_n (pc' := 619) rfl rfl rfl ?_
  refine x_cV0i (d := 14) (pc' := 622) rfl rfl sL_88 gX5_change (hS.1) ⟨Nat.le_of_ble_eq_true rfl, Nat.le_of_ble_eq_true rfl⟩ (Nat.le_of_ble_eq_true rfl) ⟨Nat.le_of_ble_eq_true rfl, Nat.le_of_ble_eq_true rfl⟩ ?_
  refine c_change hS hc ho (fun f1 S1 hS1 hc1 hF1 => ⟨_, rfl, ?_⟩)
  have hM1 := hM.fr hF1
  refine x_pop (pc' := 623) rfl rfl rfl ?_
  refine x_aload_n (pc' := 624) rfl rfl rfl ?_
  refine x_cV0i (d := 14) (pc' := 627) rfl rfl sL_91 gX6_change (hM1.1) ⟨Nat.le_of_ble_eq_true rfl, Nat.le_of_ble_eq_true rfl⟩ (Nat.le_of_ble_eq_true rfl) ⟨Nat.le_of_ble_eq_true rfl, Nat.le_of_ble_eq_true rfl⟩ ?_
  refine r_change hM1 hr ho (fun f2 M2 hM2 hr2 hF2 => ⟨_, rfl, ?_⟩)
  have hS2 := hS1.fr hF2
  refine x_pop (pc' := 628) rfl rfl rfl ?_
  refine x_goto (tgt := 831) rfl rfl ?_
  exact K _ _ _ _ hS2 hM2 hc1 hr2 ho
theorem kc_fair (hi : i + 3 ≤ L) (hL : L ≤ 1536) (hS : x_Sys 73 f S) (hM : x_Mdl 73 f M) (hc : c_is S A) (hr : r_is M A) (ho : a_ok A) (K : k_next E L xs i) : X E room_1 mL_law (x_QL E L xs) 32 [(3, .int (nI i)), (2, .ref 59), (1, .ref 0), (0, .retAddr 0)] [.int (nI 19)] 73 f 73 34115 := by
  refine x_tableIn (tgt := 631) rfl (by decide) (by decide) rfl rfl ?_
  refine x_aload_n (pc' := 632) rfl rfl rfl ?_
  refine x_cV0i (d := 14) (pc' := 635) rfl rfl sL_92 gX5_fair (hS.1) ⟨Nat.le_of_ble_eq_true rfl, Nat.le_of_ble_eq_true rfl⟩ (Nat.le_of_ble_eq_true rfl) ⟨Nat.le_of_ble_eq_true rfl, Nat.le_of_ble_eq_true rfl⟩ ?_
  refine c_fair hS hc ho (fun f1 S1 hS1 hc1 hF1 => ⟨_, rfl, ?_⟩)
  have hM1 := hM.fr hF1
  refine x_pop (pc' := 636) rfl rfl rfl ?_
  refine x_aload_n (pc' := 637) rfl rfl rfl ?_
  refine x_cV0i (d := 14) (pc' := 640) rfl rfl sL_95 gX6_fair (hM1.1) ⟨Nat.le_of_ble_eq_true rfl, Nat.le_of_ble_eq_true rfl⟩ (Nat.le_of_ble_eq_true rfl) ⟨Nat.le_of_ble_eq_true rfl, Nat.le_of_ble_eq_true rfl⟩ ?_
  refine r_fair hM1 hr ho (fun f2 M2 hM2 hr2 hF2 => ⟨_, rfl, ?_⟩)
  have hS2 := hS1.fr hF2
  refine x_pop (pc' := 641) rfl rfl rfl ?_
  refine x_goto (tgt := 831) rfl rfl ?_
  exact K _ _ _ _ hS2 hM2 hc1 hr2 ho
theorem kc_sounds (hi : i + 3 ≤ L) (hL : L ≤ 1536) (hS : x_Sys 73 f S) (hM : x_Mdl 73 f M) (hc : c_is S A) (hr : r_is M A) (ho : a_ok A) (K : k_next E L xs i) : X E room_1 mL_law (x_QL E L xs) 32 [(3, .int (nI i)), (2, .ref 59), (1, .ref 0), (0, .retAddr 0)] [.int (nI 20)] 73 f 73 34115 := by
  refine x_tableIn (tgt := 644) rfl (by decide) (by decide) rfl rfl ?_
  refine x_aload_n (pc' := 645) rfl rfl rfl ?_
  refine x_aload_ns (pc' := 646) rfl rfl rfl ?_
  refine x_iload_n (pc' := 647) rfl rfl rfl ?_
  refine x_iconst (pc' := 648) rfl rfl iconst_1 ?_
  refine x_iadd (pc' := 649) rfl rfl ?_
  refine x_eqi (show nI i + 1 = nI (i + 1) from nI_add i 1) ?_
  refine x_sld (pc' := 650) rfl rfl (vp_in_nI (n := i + 1) (N := L) (by omega) (by omega)) ?_
  refine x_cV1i (d := 9) (pc' := 653) rfl rfl sL_96 gX5_sounds (hS.1) ⟨Nat.le_of_ble_eq_true rfl, Nat.le_of_ble_eq_true rfl⟩ (Nat.le_of_ble_eq_true rfl) ⟨Nat.le_of_ble_eq_true rfl, Nat.le_of_ble_eq_true rfl⟩ ?_
  refine c_sounds hS hc ho (fun f1 S1 hS1 hc1 hF1 => ⟨_, rfl, ?_⟩)
  have hM1 := hM.fr hF1
  refine x_pop (pc' := 654) rfl rfl rfl ?_
  refine x_aload_n (pc' := 655) rfl rfl rfl ?_
  refine x_aload_ns (pc' := 656) rfl rfl rfl ?_
  refine x_iload_n (pc' := 657) rfl rfl rfl ?_
  refine x_iconst (pc' := 658) rfl rfl iconst_1 ?_
  refine x_iadd (pc' := 659) rfl rfl ?_
  refine x_eqi (show nI i + 1 = nI (i + 1) from nI_add i 1) ?_
  refine x_sld (pc' := 660) rfl rfl (vp_in_nI (n := i + 1) (N := L) (by omega) (by omega)) ?_
  refine x_cV1i (d := 9) (pc' := 663) rfl rfl sL_99 gX6_sounds (hM1.1) ⟨Nat.le_of_ble_eq_true rfl, Nat.le_of_ble_eq_true rfl⟩ (Nat.le_of_ble_eq_true rfl) ⟨Nat.le_of_ble_eq_true rfl, Nat.le_of_ble_eq_true rfl⟩ ?_
  refine r_sounds hM1 hr ho (fun f2 M2 hM2 hr2 hF2 => ⟨_, rfl, ?_⟩)
  have hS2 := hS1.fr hF2
  refine x_pop (pc' := 664) rfl rfl rfl ?_
  refine x_goto (tgt := 831) rfl rfl ?_
  exact K _ _ _ _ hS2 hM2 hc1 hr2 (ok_sounds ho)
theorem kc_next (hi : i + 3 ≤ L) (hL : L ≤ 1536) (hS : x_Sys 73 f S) (hM : x_Mdl 73 f M) (hc : c_is S A) (hr : r_is M A) (ho : a_ok A) (K : k_next E L xs i) : X E room_1 mL_law (x_QL E L xs) 32 [(3, .int (nI i)), (2, .ref 59), (1, .ref 0), (0, .retAddr 0)] [.int (nI 21)] 73 f 73 34115 := by
  refine x_tableIn (tgt := 667) rfl (by decide) (by decide) rfl rfl ?_
  refine x_aload_n (pc' := 668) rfl rfl rfl ?_
  refine x_aload_ns (pc' := 669) rfl rfl rfl ?_
  refine x_iload_n (pc' := 670) rfl rfl rfl ?_
  refine x_iconst (pc' := 671) rfl rfl iconst_1 ?_
  refine x_iadd (pc' := 672) rfl rfl ?_
  refine x_eqi (show nI i + 1 = nI (i + 1) from nI_add i 1) ?_
  refine x_sld (pc' := 673) rfl rfl (vp_in_nI (n := i + 1) (N := L) (by omega) (by omega)) ?_
  refine x_cV1i (d := 9) (pc' := 676) rfl rfl sL_100 gX5_next (hS.1) ⟨Nat.le_of_ble_eq_true rfl, Nat.le_of_ble_eq_true rfl⟩ (Nat.le_of_ble_eq_true rfl) ⟨Nat.le_of_ble_eq_true rfl, Nat.le_of_ble_eq_true rfl⟩ ?_
  refine c_next hS hc ho (fun f1 S1 hS1 hc1 hF1 => ⟨_, rfl, ?_⟩)
  have hM1 := hM.fr hF1
  refine x_pop (pc' := 677) rfl rfl rfl ?_
  refine x_aload_n (pc' := 678) rfl rfl rfl ?_
  refine x_aload_ns (pc' := 679) rfl rfl rfl ?_
  refine x_iload_n (pc' := 680) rfl rfl rfl ?_
  refine x_iconst (pc' := 681) rfl rfl iconst_1 ?_
  refine x_iadd (pc' := 682) rfl rfl ?_
  refine x_eqi (show nI i + 1 = nI (i + 1) from nI_add i 1) ?_
  refine x_sld (pc' := 683) rfl rfl (vp_in_nI (n := i + 1) (N := L) (by omega) (by omega)) ?_
  refine x_cV1i (d := 9) (pc' := 686) rfl rfl sL_103 gX6_next (hM1.1) ⟨Nat.le_of_ble_eq_true rfl, Nat.le_of_ble_eq_true rfl⟩ (Nat.le_of_ble_eq_true rfl) ⟨Nat.le_of_ble_eq_true rfl, Nat.le_of_ble_eq_true rfl⟩ ?_
  refine r_next hM1 hr ho (fun f2 M2 hM2 hr2 hF2 => ⟨_, rfl, ?_⟩)
  have hS2 := hS1.fr hF2
  refine x_pop (pc' := 687) rfl rfl rfl ?_
  refine x_goto (tgt := 831) rfl rfl ?_
  exact K _ _ _ _ hS2 hM2 hc1 (by rw [st_next] at hr2; exact hr2) (ok_next ho)
theorem kc_played (hi : i + 3 ≤ L) (hL : L ≤ 1536) (hS : x_Sys 73 f S) (hM : x_Mdl 73 f M) (hc : c_is S A) (hr : r_is M A) (ho : a_ok A) (K : k_next E L xs i) : X E room_1 mL_law (x_QL E L xs) 32 [(3, .int (nI i)), (2, .ref 59), (1, .ref 0), (0, .retAddr 0)] [.int (nI 22)] 73 f 73 34115 := by
  refine x_tableIn (tgt := 690) rfl (by decide) (by decide) rfl rfl ?_
  refine x_aload_n (pc' := 691) rfl rfl rfl ?_
  refine x_aload_ns (pc' := 692) rfl rfl rfl ?_
  refine x_iload_n (pc' := 693) rfl rfl rfl ?_
  refine x_iconst (pc' := 694) rfl rfl iconst_1 ?_
  refine x_iadd (pc' := 695) rfl rfl ?_
  refine x_eqi (show nI i + 1 = nI (i + 1) from nI_add i 1) ?_
  refine x_sld (pc' := 696) rfl rfl (vp_in_nI (n := i + 1) (N := L) (by omega) (by omega)) ?_
  refine x_cV1i (d := 9) (pc' := 699) rfl rfl sL_104 gX5_played (hS.1) ⟨Nat.le_of_ble_eq_true rfl, Nat.le_of_ble_eq_true rfl⟩ (Nat.le_of_ble_eq_true rfl) ⟨Nat.le_of_ble_eq_true rfl, Nat.le_of_ble_eq_true rfl⟩ ?_
  refine c_played hS hc ho (fun f1 S1 hS1 hc1 hF1 => ⟨_, rfl, ?_⟩)
  have hM1 := hM.fr hF1
  refine x_pop (pc' := 700) rfl rfl rfl ?_
  refine x_aload_n (pc' := 701) rfl rfl rfl ?_
  refine x_aload_ns (pc' := 702) rfl rfl rfl ?_
  refine x_iload_n (pc' := 703) rfl rfl rfl ?_
  refine x_iconst (pc' := 704) rfl rfl iconst_1 ?_
  refine x_iadd (pc' := 705) rfl rfl ?_
  refine x_eqi (show nI i + 1 = nI (i + 1) from nI_add i 1) ?_
  refine x_sld (pc' := 706) rfl rfl (vp_in_nI (n := i + 1) (N := L) (by omega) (by omega)) ?_
  refine x_cV1i (d := 9) (pc' := 709) rfl rfl sL_107 gX6_played (hM1.1) ⟨Nat.le_of_ble_eq_true rfl, Nat.le_of_ble_eq_true rfl⟩ (Nat.le_of_ble_eq_true rfl) ⟨Nat.le_of_ble_eq_true rfl, Nat.le_of_ble_eq_true rfl⟩ ?_
  refine r_played hM1 hr ho (fun f2 M2 hM2 hr2 hF2 => ⟨_, rfl, ?_⟩)
  have hS2 := hS1.fr hF2
  refine x_pop (pc' := 710) rfl rfl rfl ?_
  refine x_goto (tgt := 831) rfl rfl ?_
  exact K _ _ _ _ hS2 hM2 hc1 hr2 (ok_played ho)
theorem kc_row (hi : i + 3 ≤ L) (hL : L ≤ 1536) (hS : x_Sys 73 f S) (hM : x_Mdl 73 f M) (hc : c_is S A) (hr : r_is M A) (ho : a_ok A) (K : k_next E L xs i) : X E room_1 mL_law (x_QL E L xs) 32 [(3, .int (nI i)), (2, .ref 59), (1, .ref 0), (0, .retAddr 0)] [.int (nI 23)] 73 f 73 34115 := by
  refine x_tableIn (tgt := 713) rfl (by decide) (by decide) rfl rfl ?_
  refine x_aload_n (pc' := 714) rfl rfl rfl ?_
  refine x_aload_ns (pc' := 715) rfl rfl rfl ?_
  refine x_iload_n (pc' := 716) rfl rfl rfl ?_
  refine x_iconst (pc' := 717) rfl rfl iconst_1 ?_
  refine x_iadd (pc' := 718) rfl rfl ?_
  refine x_eqi (show nI i + 1 = nI (i + 1) from nI_add i 1) ?_
  refine x_sld (pc' := 719) rfl rfl (vp_in_nI (n := i + 1) (N := L) (by omega) (by omega)) ?_
  refine x_cV1i (d := 9) (pc' := 722) rfl rfl sL_108 gX5_row (hS.1) ⟨Nat.le_of_ble_eq_true rfl, Nat.le_of_ble_eq_true rfl⟩ (Nat.le_of_ble_eq_true rfl) ⟨Nat.le_of_ble_eq_true rfl, Nat.le_of_ble_eq_true rfl⟩ ?_
  refine c_row hS hc ho (fun f1 S1 hS1 hc1 hF1 => ⟨_, rfl, ?_⟩)
  have hM1 := hM.fr hF1
  refine x_pop (pc' := 723) rfl rfl rfl ?_
  refine x_aload_n (pc' := 724) rfl rfl rfl ?_
  refine x_aload_ns (pc' := 725) rfl rfl rfl ?_
  refine x_iload_n (pc' := 726) rfl rfl rfl ?_
  refine x_iconst (pc' := 727) rfl rfl iconst_1 ?_
  refine x_iadd (pc' := 728) rfl rfl ?_
  refine x_eqi (show nI i + 1 = nI (i + 1) from nI_add i 1) ?_
  refine x_sld (pc' := 729) rfl rfl (vp_in_nI (n := i + 1) (N := L) (by omega) (by omega)) ?_
  refine x_cV1i (d := 9) (pc' := 732) rfl rfl sL_111 gX6_row (hM1.1) ⟨Nat.le_of_ble_eq_true rfl, Nat.le_of_ble_eq_true rfl⟩ (Nat.le_of_ble_eq_true rfl) ⟨Nat.le_of_ble_eq_true rfl, Nat.le_of_ble_eq_true rfl⟩ ?_
  refine r_row hM1 hr ho (fun f2 M2 hM2 hr2 hF2 => ⟨_, rfl, ?_⟩)
  have hS2 := hS1.fr hF2
  refine x_pop (pc' := 733) rfl rfl rfl ?_
  refine x_goto (tgt := 831) rfl rfl ?_
  exact K _ _ _ _ hS2 hM2 hc1 hr2 (ok_row ho)
theorem kc_judge (hi : i + 3 ≤ L) (hL : L ≤ 1536) (hS : x_Sys 73 f S) (hM : x_Mdl 73 f M) (hc : c_is S A) (hr : r_is M A) (ho : a_ok A) (K : k_next E L xs i) : X E room_1 mL_law (x_QL E L xs) 32 [(3, .int (nI i)), (2, .ref 59), (1, .ref 0), (0, .retAddr 0)] [.int (nI 24)] 73 f 73 34115 := by
  refine x_tableIn (tgt := 736) rfl (by decide) (by decide) rfl rfl ?_
  refine x_aload_n (pc' := 737) rfl rfl rfl ?_
  refine x_cV0i (d := 9) (pc' := 740) rfl rfl sL_112 gX5_judge (hS.1) ⟨Nat.le_of_ble_eq_true rfl, Nat.le_of_ble_eq_true rfl⟩ (Nat.le_of_ble_eq_true rfl) ⟨Nat.le_of_ble_eq_true rfl, Nat.le_of_ble_eq_true rfl⟩ ?_
  refine c_judge hS hc ho (fun f1 S1 hS1 hc1 hF1 => ⟨_, rfl, ?_⟩)
  have hM1 := hM.fr hF1
  refine x_pop (pc' := 741) rfl rfl rfl ?_
  refine x_aload_n (pc' := 742) rfl rfl rfl ?_
  refine x_cV0i (d := 9) (pc' := 745) rfl rfl sL_115 gX6_judge (hM1.1) ⟨Nat.le_of_ble_eq_true rfl, Nat.le_of_ble_eq_true rfl⟩ (Nat.le_of_ble_eq_true rfl) ⟨Nat.le_of_ble_eq_true rfl, Nat.le_of_ble_eq_true rfl⟩ ?_
  refine r_judge hM1 hr ho (fun f2 M2 hM2 hr2 hF2 => ⟨_, rfl, ?_⟩)
  have hS2 := hS1.fr hF2
  refine x_pop (pc' := 746) rfl rfl rfl ?_
  refine x_goto (tgt := 831) rfl rfl ?_
  exact K _ _ _ _ hS2 hM2 hc1 hr2 (ok_judge ho)
theorem kc_lots (hi : i + 3 ≤ L) (hL : L ≤ 1536) (hS : x_Sys 73 f S) (hM : x_Mdl 73 f M) (hc : c_is S A) (hr : r_is M A) (ho : a_ok A) (K : k_next E L xs i) : X E room_1 mL_law (x_QL E L xs) 32 [(3, .int (nI i)), (2, .ref 59), (1, .ref 0), (0, .retAddr 0)] [.int (nI 25)] 73 f 73 34115 := by
  refine x_tableIn (tgt := 749) rfl (by decide) (by decide) rfl rfl ?_
  refine x_aload_n (pc' := 750) rfl rfl rfl ?_
  refine x_aload_ns (pc' := 751) rfl rfl rfl ?_
  refine x_iload_n (pc' := 752) rfl rfl rfl ?_
  refine x_iconst (pc' := 753) rfl rfl iconst_1 ?_
  refine x_iadd (pc' := 754) rfl rfl ?_
  refine x_eqi (show nI i + 1 = nI (i + 1) from nI_add i 1) ?_
  refine x_sld (pc' := 755) rfl rfl (vp_in_nI (n := i + 1) (N := L) (by omega) (by omega)) ?_
  refine x_aload_ns (pc' := 756) rfl rfl rfl ?_
  refine x_iload_n (pc' := 757) rfl rfl rfl ?_
  refine x_iconst (pc' := 758) rfl rfl iconst_2 ?_
  refine x_iadd (pc' := 759) rfl rfl ?_
  refine x_eqi (show nI i + 2 = nI (i + 2) from nI_add i 2) ?_
  refine x_sld (pc' := 760) rfl rfl (vp_in_nI (n := i + 2) (N := L) (by omega) (by omega)) ?_
  refine x_cV2i (d := 9) (pc' := 763) rfl rfl sL_116 gX5_lots (hS.1) ⟨Nat.le_of_ble_eq_true rfl, Nat.le_of_ble_eq_true rfl⟩ (Nat.le_of_ble_eq_true rfl) ⟨Nat.le_of_ble_eq_true rfl, Nat.le_of_ble_eq_true rfl⟩ ?_
  refine c_lots hS hc ho (fun f1 S1 hS1 hc1 hF1 => ⟨_, rfl, ?_⟩)
  have hM1 := hM.fr hF1
  refine x_pop (pc' := 764) rfl rfl rfl ?_
  refine x_aload_n (pc' := 765) rfl rfl rfl ?_
  refine x_aload_ns (pc' := 766) rfl rfl rfl ?_
  refine x_iload_n (pc' := 767) rfl rfl rfl ?_
  refine x_iconst (pc' := 768) rfl rfl iconst_1 ?_
  refine x_iadd (pc' := 769) rfl rfl ?_
  refine x_eqi (show nI i + 1 = nI (i + 1) from nI_add i 1) ?_
  refine x_sld (pc' := 770) rfl rfl (vp_in_nI (n := i + 1) (N := L) (by omega) (by omega)) ?_
  refine x_aload_ns (pc' := 771) rfl rfl rfl ?_
  refine x_iload_n (pc' := 772) rfl rfl rfl ?_
  refine x_iconst (pc' := 773) rfl rfl iconst_2 ?_
  refine x_iadd (pc' := 774) rfl rfl ?_
  refine x_eqi (show nI i + 2 = nI (i + 2) from nI_add i 2) ?_
  refine x_sld (pc' := 775) rfl rfl (vp_in_nI (n := i + 2) (N := L) (by omega) (by omega)) ?_
  refine x_cV2i (d := 9) (pc' := 778) rfl rfl sL_119 gX6_lots (hM1.1) ⟨Nat.le_of_ble_eq_true rfl, Nat.le_of_ble_eq_true rfl⟩ (Nat.le_of_ble_eq_true rfl) ⟨Nat.le_of_ble_eq_true rfl, Nat.le_of_ble_eq_true rfl⟩ ?_
  refine r_lots hM1 hr ho (fun f2 M2 hM2 hr2 hF2 => ⟨_, rfl, ?_⟩)
  have hS2 := hS1.fr hF2
  refine x_pop (pc' := 779) rfl rfl rfl ?_
  refine x_goto (tgt := 831) rfl rfl ?_
  exact K _ _ _ _ hS2 hM2 hc1 hr2 (ok_lots ho)
theorem kc_image (hi : i + 3 ≤ L) (hL : L ≤ 1536) (hS : x_Sys 73 f S) (hM : x_Mdl 73 f M) (hc : c_is S A) (hr : r_is M A) (ho : a_ok A) (K : k_next E L xs i) : X E room_1 mL_law (x_QL E L xs) 32 [(3, .int (nI i)), (2, .ref 59), (1, .ref 0), (0, .retAddr 0)] [.int (nI 26)] 73 f 73 34115 := by
  refine x_tableIn (tgt := 782) rfl (by decide) (by decide) rfl rfl ?_
  refine x_aload_n (pc' := 783) rfl rfl rfl ?_
  refine x_cV0i (d := 9) (pc' := 786) rfl rfl sL_120 gX5_image (hS.1) ⟨Nat.le_of_ble_eq_true rfl, Nat.le_of_ble_eq_true rfl⟩ (Nat.le_of_ble_eq_true rfl) ⟨Nat.le_of_ble_eq_true rfl, Nat.le_of_ble_eq_true rfl⟩ ?_
  refine c_image hS hc (fun f1 S1 hS1 hc1 hF1 => ⟨_, rfl, ?_⟩)
  have hM1 := hM.fr hF1
  refine x_pop (pc' := 787) rfl rfl rfl ?_
  refine x_aload_n (pc' := 788) rfl rfl rfl ?_
  refine x_cV0i (d := 9) (pc' := 791) rfl rfl sL_123 gX6_image (hM1.1) ⟨Nat.le_of_ble_eq_true rfl, Nat.le_of_ble_eq_true rfl⟩ (Nat.le_of_ble_eq_true rfl) ⟨Nat.le_of_ble_eq_true rfl, Nat.le_of_ble_eq_true rfl⟩ ?_
  refine r_image hM1 hr (fun f2 M2 hM2 hr2 hF2 => ⟨_, rfl, ?_⟩)
  have hS2 := hS1.fr hF2
  refine x_pop (pc' := 792) rfl rfl rfl ?_
  refine x_goto (tgt := 831) rfl rfl ?_
  exact K _ _ _ _ hS2 hM2 hc1 hr2 (ok_image ho)
theorem kc_on (hi : i + 3 ≤ L) (hL : L ≤ 1536) (hS : x_Sys 73 f S) (hM : x_Mdl 73 f M) (hc : c_is S A) (hr : r_is M A) (ho : a_ok A) (K : k_next E L xs i) : X E room_1 mL_law (x_QL E L xs) 32 [(3, .int (nI i)), (2, .ref 59), (1, .ref 0), (0, .retAddr 0)] [.int (nI 27)] 73 f 73 34115 := by
  refine x_tableIn (tgt := 795) rfl (by decide) (by decide) rfl rfl ?_
  refine x_aload_n (pc' := 796) rfl rfl rfl ?_
  refine x_cV0i (d := 9) (pc' := 799) rfl rfl sL_124 gX5_on (hS.1) ⟨Nat.le_of_ble_eq_true rfl, Nat.le_of_ble_eq_true rfl⟩ (Nat.le_of_ble_eq_true rfl) ⟨Nat.le_of_ble_eq_true rfl, Nat.le_of_ble_eq_true rfl⟩ ?_
  refine c_on hS hc (fun f1 S1 hS1 hc1 hF1 => ⟨_, rfl, ?_⟩)
  have hM1 := hM.fr hF1
  refine x_pop (pc' := 800) rfl rfl rfl ?_
  refine x_aload_n (pc' := 801) rfl rfl rfl ?_
  refine x_cV0i (d := 9) (pc' := 804) rfl rfl sL_127 gX6_on (hM1.1) ⟨Nat.le_of_ble_eq_true rfl, Nat.le_of_ble_eq_true rfl⟩ (Nat.le_of_ble_eq_true rfl) ⟨Nat.le_of_ble_eq_true rfl, Nat.le_of_ble_eq_true rfl⟩ ?_
  refine r_on hM1 hr ho (fun f2 M2 hM2 hr2 hF2 => ⟨_, rfl, ?_⟩)
  have hS2 := hS1.fr hF2
  refine x_pop (pc' := 805) rfl rfl rfl ?_
  refine x_goto (tgt := 831) rfl rfl ?_
  exact K _ _ _ _ hS2 hM2 hc1 hr2 (ok_on ho)
theorem kc_count (hi : i + 3 ≤ L) (hL : L ≤ 1536) (hS : x_Sys 73 f S) (hM : x_Mdl 73 f M) (hc : c_is S A) (hr : r_is M A) (ho : a_ok A) (K : k_next E L xs i) : X E room_1 mL_law (x_QL E L xs) 32 [(3, .int (nI i)), (2, .ref 59), (1, .ref 0), (0, .retAddr 0)] [.int (nI 28)] 73 f 73 34115 := by
  refine x_tableIn (tgt := 808) rfl (by decide) (by decide) rfl rfl ?_
  refine x_aload_n (pc' := 809) rfl rfl rfl ?_
  refine x_aload_ns (pc' := 810) rfl rfl rfl ?_
  refine x_iload_n (pc' := 811) rfl rfl rfl ?_
  refine x_iconst (pc' := 812) rfl rfl iconst_1 ?_
  refine x_iadd (pc' := 813) rfl rfl ?_
  refine x_eqi (show nI i + 1 = nI (i + 1) from nI_add i 1) ?_
  refine x_sld (pc' := 814) rfl rfl (vp_in_nI (n := i + 1) (N := L) (by omega) (by omega)) ?_
  refine x_cV1i (d := 9) (pc' := 817) rfl rfl sL_128 gX5_count (hS.1) ⟨Nat.le_of_ble_eq_true rfl, Nat.le_of_ble_eq_true rfl⟩ (Nat.le_of_ble_eq_true rfl) ⟨Nat.le_of_ble_eq_true rfl, Nat.le_of_ble_eq_true rfl⟩ ?_
  refine c_count hS hc ho (fun f1 S1 hS1 hc1 hF1 => ⟨_, rfl, ?_⟩)
  have hM1 := hM.fr hF1
  refine x_aload_n (pc' := 818) rfl rfl rfl ?_
  refine x_aload_ns (pc' := 819) rfl rfl rfl ?_
  refine x_iload_n (pc' := 820) rfl rfl rfl ?_
  refine x_iconst (pc' := 821) rfl rfl iconst_1 ?_
  refine x_iadd (pc' := 822) rfl rfl ?_
  refine x_eqi (show nI i + 1 = nI (i + 1) from nI_add i 1) ?_
  refine x_sld (pc' := 823) rfl rfl (vp_in_nI (n := i + 1) (N := L) (by omega) (by omega)) ?_
  refine x_cV1i (d := 9) (pc' := 826) rfl rfl sL_131 gX6_count (hM1.1) ⟨Nat.le_of_ble_eq_true rfl, Nat.le_of_ble_eq_true rfl⟩ (Nat.le_of_ble_eq_true rfl) ⟨Nat.le_of_ble_eq_true rfl, Nat.le_of_ble_eq_true rfl⟩ ?_
  refine r_count hM1 hr ho (fun f2 M2 hM2 hr2 hF2 => ⟨_, rfl, ?_⟩)
  have hS2 := hS1.fr hF2
  refine x_icmp_eq (tgt := 831) (pc' := 829) rfl rfl rfl (fun _ => ?_) (fun c826 => absurd ((rfl)) c826)
  exact K _ _ _ _ hS2 hM2 hc1 hr2 ho
theorem k_out29 (K : X E room_1 mL_law (x_QL E L xs) 831 [(3, .int (nI i)), (2, .ref 59), (1, .ref 0), (0, .retAddr 0)] [] 73 f 73 34115) : X E room_1 mL_law (x_QL E L xs) 32 [(3, .int (nI i)), (2, .ref 59), (1, .ref 0), (0, .retAddr 0)] [.int (nI 29)] 73 f 73 34115 := by
  refine x_tableOut (tgt := 831) rfl ((by decide)) rfl ?_
  exact K
theorem k_out30 (K : X E room_1 mL_law (x_QL E L xs) 831 [(3, .int (nI i)), (2, .ref 59), (1, .ref 0), (0, .retAddr 0)] [] 73 f 73 34115) : X E room_1 mL_law (x_QL E L xs) 32 [(3, .int (nI i)), (2, .ref 59), (1, .ref 0), (0, .retAddr 0)] [.int (nI 30)] 73 f 73 34115 := by
  refine x_tableOut (tgt := 831) rfl ((by decide)) rfl ?_
  exact K
theorem k_out31 (K : X E room_1 mL_law (x_QL E L xs) 831 [(3, .int (nI i)), (2, .ref 59), (1, .ref 0), (0, .retAddr 0)] [] 73 f 73 34115) : X E room_1 mL_law (x_QL E L xs) 32 [(3, .int (nI i)), (2, .ref 59), (1, .ref 0), (0, .retAddr 0)] [.int (nI 31)] 73 f 73 34115 := by
  refine x_tableOut (tgt := 831) rfl ((by decide)) rfl ?_
  exact K
theorem k_end {i L : Nat} (h : L < i + 3) (hi : i ≤ 1600) : nI L - 3 < nI i := by
  by_cases d : 3 ≤ L
  · rw [show nI L - 3 = nI (L - 3) from pk_sub (b := 3) d]
    exact nI_lt (by omega) (by omega)
  · have h2 : L = 0 ∨ L = 1 ∨ L = 2 := by omega
    refine Int32.lt_of_lt_of_le ?_ (nI_pos' (by omega))
    rcases h2 with rfl | rfl | rfl <;> decide
theorem kw_loop (hL : L ≤ 1536) : ∀ (m i : Nat) (f : x_H) (S : x_S) (M : x_N) (A : q_A), i ≤ 1600 → L < i + 3 * m + 3 → x_Sys 73 f S → x_Mdl 73 f M → c_is S A → r_is M A → a_ok A → X E room_1 mL_law (x_QL E L xs) 18 [(3, .int (nI i)), (2, .ref 59), (1, .ref 0), (0, .retAddr 0)] [] 73 f 73 34115 := by
  intro m
  induction m with
  | zero =>
    intro i f S M A hi hm hS hM hc hr ho
    refine x_iload_n (pc' := 19) rfl rfl rfl ?_
    refine x_aload_ns (pc' := 20) rfl rfl rfl ?_
    refine x_slen (pc' := 21) rfl rfl ?_
    refine x_iconst (pc' := 22) rfl rfl iconst_3 ?_
    refine x_isub (pc' := 23) rfl rfl ?_
    refine x_icmp_gt (tgt := 837) (pc' := 26) rfl rfl rfl (fun _ => ?_) (fun c23 => absurd ((k_end (by omega) hi)) c23)
    refine x_iconst (pc' := 838) rfl rfl iconst_1 ?_
    exact x_lend rfl (Nat.le_of_ble_eq_true rfl) (Nat.le_of_ble_eq_true rfl)
  | succ m ih =>
    intro i f S M A hi hm hS hM hc hr ho
    by_cases d : L < i + 3
    ·
      refine x_iload_n (pc' := 19) rfl rfl rfl ?_
      refine x_aload_ns (pc' := 20) rfl rfl rfl ?_
      refine x_slen (pc' := 21) rfl rfl ?_
      refine x_iconst (pc' := 22) rfl rfl iconst_3 ?_
      refine x_isub (pc' := 23) rfl rfl ?_
      refine x_icmp_gt (tgt := 837) (pc' := 26) rfl rfl rfl (fun _ => ?_) (fun c23 => absurd ((k_end d hi)) c23)
      refine x_iconst (pc' := 838) rfl rfl iconst_1 ?_
      exact x_lend rfl (Nat.le_of_ble_eq_true rfl) (Nat.le_of_ble_eq_true rfl)
    · have K : k_next E L xs i := by
        intro f9 S9 M9 A9 b1 b2 b3 b4 b5
        refine x_iinc (pc' := 834) (lv' := [(3, _), (2, _), (1, _), (0, _)]) rfl rfl (Nat.le_of_ble_eq_true rfl) rfl (nI_add i 3) rfl ?_
        refine x_goto (tgt := 18) rfl rfl ?_
        exact ih (i + 3) f9 S9 M9 A9 (by omega) (by omega) b1 b2 b3 b4 b5
      refine x_iload_n (pc' := 19) rfl rfl rfl ?_
      refine x_aload_ns (pc' := 20) rfl rfl rfl ?_
      refine x_slen (pc' := 21) rfl rfl ?_
      refine x_iconst (pc' := 22) rfl rfl iconst_3 ?_
      refine x_isub (pc' := 23) rfl rfl ?_
      refine x_icmp_gt (tgt := 837) (pc' := 26) rfl rfl rfl (fun c23 => absurd c23 ((show ¬ nI L - 3 < nI i from by rw [show nI L - 3 = nI (L - 3) from pk_sub (b := 3) (by omega)]; exact nI_nlt (by omega) (by omega)))) (fun _ => ?_)
      refine x_aload_ns (pc' := 27) rfl rfl rfl ?_
      refine x_iload_n (pc' := 28) rfl rfl rfl ?_
      refine x_sld (pc' := 29) rfl rfl (vp_in_nI (n := i) (N := L) (by omega) (by omega)) ?_
      refine x_bipush (pc' := 31) rfl rfl bipush_31 ?_
      refine x_iand (pc' := 32) rfl rfl ?_
      obtain ⟨j, hj, ej⟩ := pk_andE (xs (nI i).toNatClampNeg) (m := 31) 5 (by decide)
      refine x_eqi ej ?_
      match j, hj with
      | 0, _ => exact kc_letter (by omega) hL hS hM hc hr ho K
      | 1, _ => exact kc_game (by omega) hL hS hM hc hr ho K
      | 2, _ => exact kc_bowl (by omega) hL hS hM hc hr ho K
      | 3, _ => exact kc_put (by omega) hL hS hM hc hr ho K
      | 4, _ => exact kc_set (by omega) hL hS hM hc hr ho K
      | 5, _ => exact kc_move (by omega) hL hS hM hc hr ho K
      | 6, _ => exact kc_by (by omega) hL hS hM hc hr ho K
      | 7, _ => exact kc_behind (by omega) hL hS hM hc hr ho K
      | 8, _ => exact kc_empties (by omega) hL hS hM hc hr ho K
      | 9, _ => exact kc_longest (by omega) hL hS hM hc hr ho K
      | 10, _ => exact kc_best (by omega) hL hS hM hc hr ho K
      | 11, _ => exact kc_worth (by omega) hL hS hM hc hr ho K
      | 12, _ => exact kc_lost (by omega) hL hS hM hc hr ho K
      | 13, _ => exact kc_back (by omega) hL hS hM hc hr ho K
      | 14, _ => exact kc_loop (by omega) hL hS hM hc hr ho K
      | 15, _ => exact kc_toEmpty (by omega) hL hS hM hc hr ho K
      | 16, _ => exact kc_price (by omega) hL hS hM hc hr ho K
      | 17, _ => exact kc_sold (by omega) hL hS hM hc hr ho K
      | 18, _ => exact kc_change (by omega) hL hS hM hc hr ho K
      | 19, _ => exact kc_fair (by omega) hL hS hM hc hr ho K
      | 20, _ => exact kc_sounds (by omega) hL hS hM hc hr ho K
      | 21, _ => exact kc_next (by omega) hL hS hM hc hr ho K
      | 22, _ => exact kc_played (by omega) hL hS hM hc hr ho K
      | 23, _ => exact kc_row (by omega) hL hS hM hc hr ho K
      | 24, _ => exact kc_judge (by omega) hL hS hM hc hr ho K
      | 25, _ => exact kc_lots (by omega) hL hS hM hc hr ho K
      | 26, _ => exact kc_image (by omega) hL hS hM hc hr ho K
      | 27, _ => exact kc_on (by omega) hL hS hM hc hr ho K
      | 28, _ => exact kc_count (by omega) hL hS hM hc hr ho K
      | 29, _ => exact k_out29 (K _ _ _ _ hS hM hc hr ho)
      | 30, _ => exact k_out30 (K _ _ _ _ hS hM hc hr ho)
      | 31, _ => exact k_out31 (K _ _ _ _ hS hM hc hr ho)
      | n + 32, h => exact absurd h (by omega)
def a_0 : q_A := ((((fun _ => 0), (fun _ => 0), (fun _ => 0), 0, 4, 0, 0), 0), none, (0, fun _ => 0), (0, fun _ => 0), fun _ => 0)
theorem a_0_ok : a_ok a_0 := ⟨⟨Nat.zero_le _, ⟨by decide, by decide⟩, Nat.zero_le _, Nat.zero_le _, fun _ => Nat.zero_le _, fun _ => Nat.zero_le _, fun _ => Nat.zero_le _, fun _ _ => ⟨rfl, rfl⟩, fun _ _ => rfl⟩, Nat.zero_le _, (fun g m e => by cases e), Nat.zero_le _, fun _ => Nat.zero_le _, Nat.zero_le _, fun _ => Nat.zero_le _⟩
theorem c_0 : c_is x_S0 a_0 := ⟨⟨rfl, rfl, rfl, rfl, rfl, rfl, rfl⟩, rfl, rfl, rfl, rfl, rfl, rfl, rfl⟩
theorem r_0 : r_is x_M0 a_0 := ⟨⟨rfl, rfl, rfl, rfl, rfl, rfl, rfl⟩, rfl, rfl, rfl, rfl, rfl, rfl, rfl, rfl⟩
theorem l_start (hL : L ≤ 1536) : X E room_1 mL_law (x_QL E L xs) 0 [(0, .retAddr 0)] [] 0 f 0 0 := by
  refine x_new (fs := [.null, .null, .int 0, .null, .null, .null, .null, .null, .null, .null, .int 0, .null]) (pc' := 3) rfl rfl rfl rfl (dfX5) rfl (Nat.le_of_ble_eq_true rfl) (Nat.le_of_ble_eq_true rfl) (fun f1 e1 => ?_)
  have oX := x_o.s e1 (Nat.lt_succ_self _)
  refine x_dup (pc' := 4) rfl rfl rfl ?_
  refine x_cI (d := 3) (mc := 58) (ms := 31720) (pc' := 7) rfl rfl sL_9 gX5_init ⟨Nat.le_of_ble_eq_true rfl, Nat.le_of_ble_eq_true rfl⟩ (Nat.le_of_ble_eq_true rfl) ⟨Nat.le_of_ble_eq_true rfl, Nat.le_of_ble_eq_true rfl⟩ ?_
  refine w_sysInit oX (fun f2 hS hF2 => ⟨rfl, ?_⟩)
  refine x_astore_n (pc' := 8) (lv' := [(1, _), (0, _)]) rfl rfl (Nat.le_of_ble_eq_true rfl) rfl ?_
  refine x_new (fs := [.int 0, .null, .null, .int 0, .int 0, .int 0, .null, .int 0, .int 0, .null, .null, .int 0, .null, .int 0, .int 0, .int 0, .int 0, .int 0, .int 0, .null, .int 0, .null, .int 0, .null, .null, .null, .null, .null, .int 0, .int 0, .int 0, .int 0]) (pc' := 11) rfl rfl rfl rfl (dfX6) rfl (Nat.le_of_ble_eq_true rfl) (Nat.le_of_ble_eq_true rfl) (fun f2 e2 => ?_)
  have oM := x_o.s e2 (show 59 < 60 by decide)
  have hS1 := (hS.zz (show 59 ≤ 60 by decide)).fr (x_fr.rf.up e2 (by decide))
  refine x_dup (pc' := 12) rfl rfl rfl ?_
  refine x_cI (d := 1) (mc := 13) (ms := 2351) (pc' := 15) rfl rfl sL_12 gX6_init ⟨Nat.le_of_ble_eq_true rfl, Nat.le_of_ble_eq_true rfl⟩ (Nat.le_of_ble_eq_true rfl) ⟨Nat.le_of_ble_eq_true rfl, Nat.le_of_ble_eq_true rfl⟩ ?_
  refine w_mdlInit oM (fun f4 hM hF4 => ⟨rfl, ?_⟩)
  have hS2 := (hS1.zz (show 60 ≤ 73 by decide)).fr hF4
  refine x_astore_n (pc' := 16) (lv' := [(2, _), (1, _), (0, _)]) rfl rfl (Nat.le_of_ble_eq_true rfl) rfl ?_
  refine x_iconst (pc' := 17) rfl rfl iconst_0 ?_
  refine x_istore_n (pc' := 18) (lv' := [(3, _), (2, _), (1, _), (0, _)]) rfl rfl (Nat.le_of_ble_eq_true rfl) rfl ?_
  exact kw_loop hL 512 0 _ _ _ a_0 (by decide) (by omega) hS2 hM c_0 r_0 a_0_ok
end LAW
set_option maxHeartbeats 4000000 in
theorem whole_start {p : Program} {e : Env} {s : State} {m : MethodId} {below : List Frame} {meth : Method} {c : Code} (l : Launch) (hflags : l.flags = flags0) {b L : Nat} {xs : Nat → Int32} (hL : L ≤ 1536) (C0 : lw_At p s m meth c b L xs) : W p l e room_1 s m #[Value.ref b] below meth c s.heap [] 0 0 (lw_Z below #[Value.ref b] s) (entryFrame m ([Value.ref b] : List Value).toArray 4) := by
  obtain ⟨hx, hb, hr, hml, hown, hts, hX, hbl, hlocks, hgv⟩ := id C0
  have htb : ∀ w ∈ x_tb, w.before #[Value.ref b] s = true := fun w hw => hts w (List.mem_filter.mp hw).1
  obtain ⟨c0, i0, hk0⟩ := u_known (C := RX0) (T := TX0) (N := 2) (n := 2) htb wsX0_in (htb _ insX0)
  obtain ⟨c1, i1, hk1⟩ := u_known (C := RX1) (T := TX1) (N := 8) (n := 8) htb wsX1_in (htb _ insX1)
  obtain ⟨c2, i2, hk2⟩ := u_known (C := RX2) (T := TX2) (N := 2) (n := 2) htb wsX2_in (htb _ insX2)
  obtain ⟨c3, i3, hk3⟩ := u_known (C := RX3) (T := TX3) (N := 12) (n := 12) htb wsX3_in (htb _ insX3)
  obtain ⟨c4, i4, hk4⟩ := u_known (C := RX4) (T := TX4) (N := 2) (n := 2) htb wsX4_in (htb _ insX4)
  obtain ⟨c5, i5, hk5⟩ := u_known (C := RX5) (T := TX5) (N := 12) (n := 12) htb wsX5_in (htb _ insX5)
  obtain ⟨c6, i6, hk6⟩ := u_known (C := RX6) (T := TX6) (N := 32) (n := 32) htb wsX6_in (htb _ insX6)
  obtain ⟨aI, kI, compI, a1, a2, a3⟩ := Cond.arrayClass_spec (type := .int) (htb _ x_acI)
  obtain ⟨aJ, kJ, compJ, b1, b2, b3⟩ := Cond.arrayClass_spec (type := .long) (htb _ x_acJ)
  obtain ⟨compT, aT, kT, t1, t2, t3, t4, t5⟩ := Cond.arrayOver_spec (n := RX3) (hts _ x_aoT)
  let dC : Nat → ClassId := fun k => if k = 0 then c0 else if k = 1 then c1 else if k = 2 then c2 else if k = 3 then c3 else if k = 4 then c4 else if k = 5 then c5 else c6
  let dI : Nat → Nat → Nat := fun k => if k = 0 then i0 else if k = 1 then i1 else if k = 2 then i2 else if k = 3 then i3 else if k = 4 then i4 else if k = 5 then i5 else i6
  let G : Nat → ClassId := fun k => if k = 0 then aI else if k = 1 then aJ else aT
  have hK : x_K (l, (dC, dI), G, s.heap.size, b) s := by
    refine ⟨⟨?_, ?_⟩, ?_, va_AO.of (hts _ x_aoT)⟩
    · intro k q hq
      match k, hq with
      | 0, hq => cases hq; exact hk0
      | 1, hq => cases hq; exact hk1
      | 2, hq => cases hq; exact hk2
      | 3, hq => cases hq; exact hk3
      | 4, hq => cases hq; exact hk4
      | 5, hq => cases hq; exact hk5
      | 6, hq => cases hq; exact hk6
      | n + 7, hq => simp [x_cl] at hq
    · intro k q hq
      match k, hq with
      | 0, hq => cases hq; exact ⟨fun n z => ⟨fun k h => (by cases h), kI, a2, compI, a3⟩, a1⟩
      | 1, hq => cases hq; exact ⟨fun n z => ⟨fun k h => (by cases h), kJ, b2, compJ, b3⟩, b1⟩
      | 2, hq => cases hq; exact ⟨fun n z => ⟨fun k h => (by cases h), kT, t3, compT, t4⟩, kT, compT, t3, t4, t1, t5⟩
      | n + 3, hq => simp [x_tys] at hq
    · intro w hw
      rcases x_nw_kind w hw with ⟨a, i, b, n, d, h2, rfl⟩ | ⟨a, i, x, h2, rfl⟩
      · exact va_Nw.of rfl (hts _ (x_nw_in _ hw))
      · exact va_Nw.of rfl (hts _ (x_nw_in _ hw))
  have hcx : x_cx (l, (dC, dI), G, s.heap.size, b) mL_law p s m #[Value.ref b] meth c := ⟨hx, hb, hr, hml, hown, htb, hlocks, hK, Nat.le_refl _, fun h => absurd h (by decide), decL_law, okL⟩
  rw [lg_entry_eq]
  have hl := lv_entry ([.ref b]) (n := 4) (Nat.le_of_ble_eq_true rfl)
  have hP : va_P (dC, dI) x_cl (x_w (l, (dC, dI), G, s.heap.size, b) 0 (fun _ => .inr (0, []))) s.heap := fun k q h => by simp [x_w] at h
  have hw := l_start (E := (l, (dC, dI), G, s.heap.size, b)) (L := L) (xs := xs) (f := fun _ => .inr (0, [])) hL p e s m #[Value.ref b] below meth c s.heap [] _ hcx rfl hP va_S.rf hl
  intro T hT hXs
  obtain ⟨t, g1, g2⟩ := hw T hT hXs
  exact ⟨t, g1, g2 ⟨rfl, hX, hbl, rfl⟩⟩
