/-! The law: the script, the calls, the end. -/
def lw_has (E : x_E) (L : Nat) (xs : Nat → Int32) (args : Array Value) (s : State) : Prop := args = #[Value.ref E.2.2.2.2] ∧ va_X E.2.2.2.2 L xs s s.heap ∧ E.2.2.2.2 < s.heap.size ∧ E.2.2.2.1 = s.heap.size
/-- the law's end, where the script is there -/
def x_QL (E : x_E) (L : Nat) (xs : Nat → Int32) : List Frame → Array Value → State → State → Prop := fun below args s t => lw_has E L xs args s → lw_Z below args s t
section LAW
variable {E : x_E} {R : Room} {me : x_M} {pc pc' : Nat} {lv : x_L} {st : List Value} {z : Nat} {f : x_H} {cl sl L n : Nat} {xs : Nat → Int32}
theorem x_sld {i : Int32} (hc : x_at me pc = some (.iaload, 1)) (hp : pc + 1 = pc') (hi : vp_in i L) (k : X E R me (x_QL E L xs) pc' lv (.int (xs i.toNatClampNeg) :: st) z f cl sl) : X E R me (x_QL E L xs) pc lv (.int i :: .retAddr n :: st) z f cl sl := by
  subst hp
  intro p e s m args below meth c H locs ls cx hz hP hS hl
  by_cases hh : lw_has E L xs args s
  · obtain ⟨h1, h2, h3, h4⟩ := id hh
    exact va_sld cx.1 cx.2.1 h2 h3 (by show ¬ E.2.2.2.1 ≤ E.2.2.2.2; omega) hS hi (x_dec_at cx.2.2.2.2.2.2.2.2.2.2.1 hc) (k p e s m args below meth c H locs ls cx hz hP hS hl)
  · intro T hT hX
    exact ⟨_, Steps.refl _, fun h => absurd h hh⟩
theorem x_slen (hc : x_at me pc = some (.arraylength, 1)) (hp : pc + 1 = pc') (k : X E R me (x_QL E L xs) pc' lv (.int (nI L) :: st) z f cl sl) : X E R me (x_QL E L xs) pc lv (.retAddr n :: st) z f cl sl := by
  subst hp
  intro p e s m args below meth c H locs ls cx hz hP hS hl
  by_cases hh : lw_has E L xs args s
  · obtain ⟨h1, h2, h3, h4⟩ := id hh
    exact va_slen cx.1 cx.2.1 h2 h3 (by show ¬ E.2.2.2.1 ≤ E.2.2.2.2; omega) hS (x_dec_at cx.2.2.2.2.2.2.2.2.2.2.1 hc) (k p e s m args below meth c H locs ls cx hz hP hS hl)
  · intro T hT hX
    exact ⟨_, Steps.refl _, fun h => absurd h hh⟩
theorem x_lend (hc : x_at mL_law pc = some (.ireturn, 1)) (h1 : cl ≤ 600000) (h2 : sl ≤ 7302250) : X E room_1 mL_law (x_QL E L xs) pc lv [.int 1] z f cl sl := by
  intro p e s m args below meth c H locs ls cx hz hP hS hl
  obtain ⟨hx, hb, hr, hml, hown, hts, hlk, hK, hbs, hin, hd, hI⟩ := id cx
  by_cases hh : lw_has E L xs args s
  · obtain ⟨g1, g2, g3, g4⟩ := id hh
    subst g1
    intro T hT hX
    have hw := (va_forget (fun q hq => by have h9 : E.2.2.2.1 ≤ q.base := hS.2.2 q hq; omega) (W.widen h1 h2 (lw_ret (H := H) (ls := ls) (pc := pc) (below := below) (l := E.1) (e := e) hx hb hr hlk (x_dec_at hd hc)))) T hT hX
    obtain ⟨t, a1, b1⟩ := hw
    exact ⟨t, a1, fun _ => b1⟩
  · intro T hT hX
    exact ⟨_, Steps.refl _, fun h => absurd h hh⟩
theorem l_letter (hS : x_Sys 73 f x_S0) (hM : x_Mdl 73 f x_M0) (K : ∀ f' : x_H, X E room_1 mL_law (x_QL E 3 xs) 831 [(3, .int 0), (2, .ref 59), (1, .ref 0), (0, .retAddr 0)] [] 73 f' 73 34115) : X E room_1 mL_law (x_QL E 3 xs) 32 [(3, .int 0), (2, .ref 59), (1, .ref 0), (0, .retAddr 0)] [.int (nI 0)] 73 f 73 34115 := by
  refine x_tableIn (tgt := 164) rfl (by decide) (by decide) rfl rfl ?_
  refine x_aload_n (pc' := 165) rfl rfl rfl ?_
  refine x_aload_ns (pc' := 166) rfl rfl rfl ?_
  refine x_iload_n (pc' := 167) rfl rfl rfl ?_
  refine x_iconst (pc' := 168) rfl rfl iconst_1 ?_
  refine x_iadd (pc' := 169) rfl rfl ?_
  refine x_sld (pc' := 170) rfl rfl (vp_in_nI (n := 1) (N := 3) (by decide) (by decide)) ?_
  refine x_cV1i (d := 9) (pc' := 173) rfl rfl sL_13 gX5_letter (hS.1) ⟨Nat.le_of_ble_eq_true rfl, Nat.le_of_ble_eq_true rfl⟩ (Nat.le_of_ble_eq_true rfl) ⟨Nat.le_of_ble_eq_true rfl, Nat.le_of_ble_eq_true rfl⟩ ?_
  refine f_letter hS (fun f1 hF1 => ⟨_, rfl, ?_⟩)
  have hM1 := hM.fr hF1
  refine x_aload_n (pc' := 174) rfl rfl rfl ?_
  refine x_aload_ns (pc' := 175) rfl rfl rfl ?_
  refine x_iload_n (pc' := 176) rfl rfl rfl ?_
  refine x_iconst (pc' := 177) rfl rfl iconst_1 ?_
  refine x_iadd (pc' := 178) rfl rfl ?_
  refine x_sld (pc' := 179) rfl rfl (vp_in_nI (n := 1) (N := 3) (by decide) (by decide)) ?_
  refine x_cV1i (d := 9) (pc' := 182) rfl rfl sL_17 gX6_letter (hM1.1) ⟨Nat.le_of_ble_eq_true rfl, Nat.le_of_ble_eq_true rfl⟩ (Nat.le_of_ble_eq_true rfl) ⟨Nat.le_of_ble_eq_true rfl, Nat.le_of_ble_eq_true rfl⟩ ?_
  refine m_letter hM1 (fun f2 => ⟨_, rfl, ?_⟩)
  refine x_icmp_eq (tgt := 831) (pc' := 185) rfl rfl rfl (fun _ => ?_) (fun c182 => absurd (rfl) c182)
  exact K _
theorem l_game (hS : x_Sys 73 f x_S0) (hM : x_Mdl 73 f x_M0) (K : ∀ f' : x_H, X E room_1 mL_law (x_QL E 3 xs) 831 [(3, .int 0), (2, .ref 59), (1, .ref 0), (0, .retAddr 0)] [] 73 f' 73 34115) : X E room_1 mL_law (x_QL E 3 xs) 32 [(3, .int 0), (2, .ref 59), (1, .ref 0), (0, .retAddr 0)] [.int (nI 1)] 73 f 73 34115 := by
  refine x_tableIn (tgt := 187) rfl (by decide) (by decide) rfl rfl ?_
  refine x_aload_n (pc' := 188) rfl rfl rfl ?_
  refine x_cV0i (d := 9) (pc' := 191) rfl rfl sL_18 gX5_game (hS.1) ⟨Nat.le_of_ble_eq_true rfl, Nat.le_of_ble_eq_true rfl⟩ (Nat.le_of_ble_eq_true rfl) ⟨Nat.le_of_ble_eq_true rfl, Nat.le_of_ble_eq_true rfl⟩ ?_
  refine f_game hS (fun f1 hF1 => ⟨_, rfl, ?_⟩)
  have hM1 := hM.fr hF1
  refine x_aload_n (pc' := 192) rfl rfl rfl ?_
  refine x_cV0i (d := 9) (pc' := 195) rfl rfl sL_22 gX6_game (hM1.1) ⟨Nat.le_of_ble_eq_true rfl, Nat.le_of_ble_eq_true rfl⟩ (Nat.le_of_ble_eq_true rfl) ⟨Nat.le_of_ble_eq_true rfl, Nat.le_of_ble_eq_true rfl⟩ ?_
  refine m_game hM1 (fun f2 => ⟨_, rfl, ?_⟩)
  refine x_icmp_eq (tgt := 831) (pc' := 198) rfl rfl rfl (fun _ => ?_) (fun c195 => absurd (rfl) c195)
  exact K _
theorem l_bowl (hS : x_Sys 73 f x_S0) (hM : x_Mdl 73 f x_M0) (K : ∀ f' : x_H, X E room_1 mL_law (x_QL E 3 xs) 831 [(3, .int 0), (2, .ref 59), (1, .ref 0), (0, .retAddr 0)] [] 73 f' 73 34115) : X E room_1 mL_law (x_QL E 3 xs) 32 [(3, .int 0), (2, .ref 59), (1, .ref 0), (0, .retAddr 0)] [.int (nI 2)] 73 f 73 34115 := by
  refine x_tableIn (tgt := 200) rfl (by decide) (by decide) rfl rfl ?_
  refine x_aload_n (pc' := 201) rfl rfl rfl ?_
  refine x_aload_ns (pc' := 202) rfl rfl rfl ?_
  refine x_iload_n (pc' := 203) rfl rfl rfl ?_
  refine x_iconst (pc' := 204) rfl rfl iconst_1 ?_
  refine x_iadd (pc' := 205) rfl rfl ?_
  refine x_sld (pc' := 206) rfl rfl (vp_in_nI (n := 1) (N := 3) (by decide) (by decide)) ?_
  refine x_aload_ns (pc' := 207) rfl rfl rfl ?_
  refine x_iload_n (pc' := 208) rfl rfl rfl ?_
  refine x_iconst (pc' := 209) rfl rfl iconst_2 ?_
  refine x_iadd (pc' := 210) rfl rfl ?_
  refine x_sld (pc' := 211) rfl rfl (vp_in_nI (n := 2) (N := 3) (by decide) (by decide)) ?_
  refine x_cV2i (d := 9) (pc' := 214) rfl rfl sL_23 gX5_bowl (hS.1) ⟨Nat.le_of_ble_eq_true rfl, Nat.le_of_ble_eq_true rfl⟩ (Nat.le_of_ble_eq_true rfl) ⟨Nat.le_of_ble_eq_true rfl, Nat.le_of_ble_eq_true rfl⟩ ?_
  refine f_bowl hS (fun f1 hF1 => ⟨_, rfl, ?_⟩)
  have hM1 := hM.fr hF1
  refine x_aload_n (pc' := 215) rfl rfl rfl ?_
  refine x_aload_ns (pc' := 216) rfl rfl rfl ?_
  refine x_iload_n (pc' := 217) rfl rfl rfl ?_
  refine x_iconst (pc' := 218) rfl rfl iconst_1 ?_
  refine x_iadd (pc' := 219) rfl rfl ?_
  refine x_sld (pc' := 220) rfl rfl (vp_in_nI (n := 1) (N := 3) (by decide) (by decide)) ?_
  refine x_aload_ns (pc' := 221) rfl rfl rfl ?_
  refine x_iload_n (pc' := 222) rfl rfl rfl ?_
  refine x_iconst (pc' := 223) rfl rfl iconst_2 ?_
  refine x_iadd (pc' := 224) rfl rfl ?_
  refine x_sld (pc' := 225) rfl rfl (vp_in_nI (n := 2) (N := 3) (by decide) (by decide)) ?_
  refine x_cV2i (d := 9) (pc' := 228) rfl rfl sL_27 gX6_bowl (hM1.1) ⟨Nat.le_of_ble_eq_true rfl, Nat.le_of_ble_eq_true rfl⟩ (Nat.le_of_ble_eq_true rfl) ⟨Nat.le_of_ble_eq_true rfl, Nat.le_of_ble_eq_true rfl⟩ ?_
  refine m_bowl hM1 (fun f2 => ⟨_, rfl, ?_⟩)
  refine x_icmp_eq (tgt := 831) (pc' := 231) rfl rfl rfl (fun _ => ?_) (fun c228 => absurd (rfl) c228)
  exact K _
theorem l_put (hS : x_Sys 73 f x_S0) (hM : x_Mdl 73 f x_M0) (K : ∀ f' : x_H, X E room_1 mL_law (x_QL E 3 xs) 831 [(3, .int 0), (2, .ref 59), (1, .ref 0), (0, .retAddr 0)] [] 73 f' 73 34115) : X E room_1 mL_law (x_QL E 3 xs) 32 [(3, .int 0), (2, .ref 59), (1, .ref 0), (0, .retAddr 0)] [.int (nI 3)] 73 f 73 34115 := by
  refine x_tableIn (tgt := 233) rfl (by decide) (by decide) rfl rfl ?_
  refine x_aload_n (pc' := 234) rfl rfl rfl ?_
  refine x_aload_ns (pc' := 235) rfl rfl rfl ?_
  refine x_iload_n (pc' := 236) rfl rfl rfl ?_
  refine x_iconst (pc' := 237) rfl rfl iconst_1 ?_
  refine x_iadd (pc' := 238) rfl rfl ?_
  refine x_sld (pc' := 239) rfl rfl (vp_in_nI (n := 1) (N := 3) (by decide) (by decide)) ?_
  refine x_aload_ns (pc' := 240) rfl rfl rfl ?_
  refine x_iload_n (pc' := 241) rfl rfl rfl ?_
  refine x_iconst (pc' := 242) rfl rfl iconst_2 ?_
  refine x_iadd (pc' := 243) rfl rfl ?_
  refine x_sld (pc' := 244) rfl rfl (vp_in_nI (n := 2) (N := 3) (by decide) (by decide)) ?_
  refine x_cV2i (d := 9) (pc' := 247) rfl rfl sL_28 gX5_put (hS.1) ⟨Nat.le_of_ble_eq_true rfl, Nat.le_of_ble_eq_true rfl⟩ (Nat.le_of_ble_eq_true rfl) ⟨Nat.le_of_ble_eq_true rfl, Nat.le_of_ble_eq_true rfl⟩ ?_
  refine f_put hS (fun f1 hF1 => ⟨_, rfl, ?_⟩)
  have hM1 := hM.fr hF1
  refine x_aload_n (pc' := 248) rfl rfl rfl ?_
  refine x_aload_ns (pc' := 249) rfl rfl rfl ?_
  refine x_iload_n (pc' := 250) rfl rfl rfl ?_
  refine x_iconst (pc' := 251) rfl rfl iconst_1 ?_
  refine x_iadd (pc' := 252) rfl rfl ?_
  refine x_sld (pc' := 253) rfl rfl (vp_in_nI (n := 1) (N := 3) (by decide) (by decide)) ?_
  refine x_aload_ns (pc' := 254) rfl rfl rfl ?_
  refine x_iload_n (pc' := 255) rfl rfl rfl ?_
  refine x_iconst (pc' := 256) rfl rfl iconst_2 ?_
  refine x_iadd (pc' := 257) rfl rfl ?_
  refine x_sld (pc' := 258) rfl rfl (vp_in_nI (n := 2) (N := 3) (by decide) (by decide)) ?_
  refine x_cV2i (d := 9) (pc' := 261) rfl rfl sL_31 gX6_put (hM1.1) ⟨Nat.le_of_ble_eq_true rfl, Nat.le_of_ble_eq_true rfl⟩ (Nat.le_of_ble_eq_true rfl) ⟨Nat.le_of_ble_eq_true rfl, Nat.le_of_ble_eq_true rfl⟩ ?_
  refine m_put hM1 (fun f2 => ⟨_, rfl, ?_⟩)
  refine x_icmp_eq (tgt := 831) (pc' := 264) rfl rfl rfl (fun _ => ?_) (fun c261 => absurd (rfl) c261)
  exact K _
theorem l_set (hS : x_Sys 73 f x_S0) (hM : x_Mdl 73 f x_M0) (K : ∀ f' : x_H, X E room_1 mL_law (x_QL E 3 xs) 831 [(3, .int 0), (2, .ref 59), (1, .ref 0), (0, .retAddr 0)] [] 73 f' 73 34115) : X E room_1 mL_law (x_QL E 3 xs) 32 [(3, .int 0), (2, .ref 59), (1, .ref 0), (0, .retAddr 0)] [.int (nI 4)] 73 f 73 34115 := by
  refine x_tableIn (tgt := 266) rfl (by decide) (by decide) rfl rfl ?_
  refine x_aload_n (pc' := 267) rfl rfl rfl ?_
  refine x_aload_ns (pc' := 268) rfl rfl rfl ?_
  refine x_iload_n (pc' := 269) rfl rfl rfl ?_
  refine x_iconst (pc' := 270) rfl rfl iconst_1 ?_
  refine x_iadd (pc' := 271) rfl rfl ?_
  refine x_sld (pc' := 272) rfl rfl (vp_in_nI (n := 1) (N := 3) (by decide) (by decide)) ?_
  refine x_aload_ns (pc' := 273) rfl rfl rfl ?_
  refine x_iload_n (pc' := 274) rfl rfl rfl ?_
  refine x_iconst (pc' := 275) rfl rfl iconst_2 ?_
  refine x_iadd (pc' := 276) rfl rfl ?_
  refine x_sld (pc' := 277) rfl rfl (vp_in_nI (n := 2) (N := 3) (by decide) (by decide)) ?_
  refine x_cV2i (d := 9) (pc' := 280) rfl rfl sL_32 gX5_set (hS.1) ⟨Nat.le_of_ble_eq_true rfl, Nat.le_of_ble_eq_true rfl⟩ (Nat.le_of_ble_eq_true rfl) ⟨Nat.le_of_ble_eq_true rfl, Nat.le_of_ble_eq_true rfl⟩ ?_
  refine f_set hS (fun f1 hF1 => ⟨_, rfl, ?_⟩)
  have hM1 := hM.fr hF1
  refine x_aload_n (pc' := 281) rfl rfl rfl ?_
  refine x_aload_ns (pc' := 282) rfl rfl rfl ?_
  refine x_iload_n (pc' := 283) rfl rfl rfl ?_
  refine x_iconst (pc' := 284) rfl rfl iconst_1 ?_
  refine x_iadd (pc' := 285) rfl rfl ?_
  refine x_sld (pc' := 286) rfl rfl (vp_in_nI (n := 1) (N := 3) (by decide) (by decide)) ?_
  refine x_aload_ns (pc' := 287) rfl rfl rfl ?_
  refine x_iload_n (pc' := 288) rfl rfl rfl ?_
  refine x_iconst (pc' := 289) rfl rfl iconst_2 ?_
  refine x_iadd (pc' := 290) rfl rfl ?_
  refine x_sld (pc' := 291) rfl rfl (vp_in_nI (n := 2) (N := 3) (by decide) (by decide)) ?_
  refine x_cV2i (d := 9) (pc' := 294) rfl rfl sL_35 gX6_set (hM1.1) ⟨Nat.le_of_ble_eq_true rfl, Nat.le_of_ble_eq_true rfl⟩ (Nat.le_of_ble_eq_true rfl) ⟨Nat.le_of_ble_eq_true rfl, Nat.le_of_ble_eq_true rfl⟩ ?_
  refine m_set hM1 (fun f2 => ⟨_, rfl, ?_⟩)
  refine x_icmp_eq (tgt := 831) (pc' := 297) rfl rfl rfl (fun _ => ?_) (fun c294 => absurd (rfl) c294)
  exact K _
theorem l_move (hS : x_Sys 73 f x_S0) (hM : x_Mdl 73 f x_M0) (K : ∀ f' : x_H, X E room_1 mL_law (x_QL E 3 xs) 831 [(3, .int 0), (2, .ref 59), (1, .ref 0), (0, .retAddr 0)] [] 73 f' 73 34115) : X E room_1 mL_law (x_QL E 3 xs) 32 [(3, .int 0), (2, .ref 59), (1, .ref 0), (0, .retAddr 0)] [.int (nI 5)] 73 f 73 34115 := by
  refine x_tableIn (tgt := 299) rfl (by decide) (by decide) rfl rfl ?_
  refine x_aload_n (pc' := 300) rfl rfl rfl ?_
  refine x_aload_ns (pc' := 301) rfl rfl rfl ?_
  refine x_iload_n (pc' := 302) rfl rfl rfl ?_
  refine x_iconst (pc' := 303) rfl rfl iconst_1 ?_
  refine x_iadd (pc' := 304) rfl rfl ?_
  refine x_sld (pc' := 305) rfl rfl (vp_in_nI (n := 1) (N := 3) (by decide) (by decide)) ?_
  refine x_cV1i (d := 9) (pc' := 308) rfl rfl sL_36 gX5_move (hS.1) ⟨Nat.le_of_ble_eq_true rfl, Nat.le_of_ble_eq_true rfl⟩ (Nat.le_of_ble_eq_true rfl) ⟨Nat.le_of_ble_eq_true rfl, Nat.le_of_ble_eq_true rfl⟩ ?_
  refine f_move hS (fun f1 hF1 => ⟨_, rfl, ?_⟩)
  have hM1 := hM.fr hF1
  refine x_aload_n (pc' := 309) rfl rfl rfl ?_
  refine x_aload_ns (pc' := 310) rfl rfl rfl ?_
  refine x_iload_n (pc' := 311) rfl rfl rfl ?_
  refine x_iconst (pc' := 312) rfl rfl iconst_1 ?_
  refine x_iadd (pc' := 313) rfl rfl ?_
  refine x_sld (pc' := 314) rfl rfl (vp_in_nI (n := 1) (N := 3) (by decide) (by decide)) ?_
  refine x_cV1i (d := 9) (pc' := 317) rfl rfl sL_39 gX6_move (hM1.1) ⟨Nat.le_of_ble_eq_true rfl, Nat.le_of_ble_eq_true rfl⟩ (Nat.le_of_ble_eq_true rfl) ⟨Nat.le_of_ble_eq_true rfl, Nat.le_of_ble_eq_true rfl⟩ ?_
  refine m_move hM1 (fun f2 => ⟨_, rfl, ?_⟩)
  refine x_icmp_eq (tgt := 831) (pc' := 320) rfl rfl rfl (fun _ => ?_) (fun c317 => absurd (rfl) c317)
  exact K _
theorem l_by (hS : x_Sys 73 f x_S0) (hM : x_Mdl 73 f x_M0) (K : ∀ f' : x_H, X E room_1 mL_law (x_QL E 3 xs) 831 [(3, .int 0), (2, .ref 59), (1, .ref 0), (0, .retAddr 0)] [] 73 f' 73 34115) : X E room_1 mL_law (x_QL E 3 xs) 32 [(3, .int 0), (2, .ref 59), (1, .ref 0), (0, .retAddr 0)] [.int (nI 6)] 73 f 73 34115 := by
  refine x_tableIn (tgt := 322) rfl (by decide) (by decide) rfl rfl ?_
  refine x_aload_n (pc' := 323) rfl rfl rfl ?_
  refine x_aload_ns (pc' := 324) rfl rfl rfl ?_
  refine x_iload_n (pc' := 325) rfl rfl rfl ?_
  refine x_iconst (pc' := 326) rfl rfl iconst_1 ?_
  refine x_iadd (pc' := 327) rfl rfl ?_
  refine x_sld (pc' := 328) rfl rfl (vp_in_nI (n := 1) (N := 3) (by decide) (by decide)) ?_
  refine x_aload_ns (pc' := 329) rfl rfl rfl ?_
  refine x_iload_n (pc' := 330) rfl rfl rfl ?_
  refine x_iconst (pc' := 331) rfl rfl iconst_2 ?_
  refine x_iadd (pc' := 332) rfl rfl ?_
  refine x_sld (pc' := 333) rfl rfl (vp_in_nI (n := 2) (N := 3) (by decide) (by decide)) ?_
  refine x_cV2i (d := 9) (pc' := 336) rfl rfl sL_40 gX5_by (hS.1) ⟨Nat.le_of_ble_eq_true rfl, Nat.le_of_ble_eq_true rfl⟩ (Nat.le_of_ble_eq_true rfl) ⟨Nat.le_of_ble_eq_true rfl, Nat.le_of_ble_eq_true rfl⟩ ?_
  refine f_by hS (fun f1 hF1 => ⟨_, rfl, ?_⟩)
  have hM1 := hM.fr hF1
  refine x_aload_n (pc' := 337) rfl rfl rfl ?_
  refine x_aload_ns (pc' := 338) rfl rfl rfl ?_
  refine x_iload_n (pc' := 339) rfl rfl rfl ?_
  refine x_iconst (pc' := 340) rfl rfl iconst_1 ?_
  refine x_iadd (pc' := 341) rfl rfl ?_
  refine x_sld (pc' := 342) rfl rfl (vp_in_nI (n := 1) (N := 3) (by decide) (by decide)) ?_
  refine x_aload_ns (pc' := 343) rfl rfl rfl ?_
  refine x_iload_n (pc' := 344) rfl rfl rfl ?_
  refine x_iconst (pc' := 345) rfl rfl iconst_2 ?_
  refine x_iadd (pc' := 346) rfl rfl ?_
  refine x_sld (pc' := 347) rfl rfl (vp_in_nI (n := 2) (N := 3) (by decide) (by decide)) ?_
  refine x_cV2i (d := 9) (pc' := 350) rfl rfl sL_43 gX6_by (hM1.1) ⟨Nat.le_of_ble_eq_true rfl, Nat.le_of_ble_eq_true rfl⟩ (Nat.le_of_ble_eq_true rfl) ⟨Nat.le_of_ble_eq_true rfl, Nat.le_of_ble_eq_true rfl⟩ ?_
  refine m_by hM1 (fun f2 => ⟨_, rfl, ?_⟩)
  refine x_icmp_eq (tgt := 831) (pc' := 353) rfl rfl rfl (fun _ => ?_) (fun c350 => absurd (rfl) c350)
  exact K _
theorem l_behind (hS : x_Sys 73 f x_S0) (hM : x_Mdl 73 f x_M0) (K : ∀ f' : x_H, X E room_1 mL_law (x_QL E 3 xs) 831 [(3, .int 0), (2, .ref 59), (1, .ref 0), (0, .retAddr 0)] [] 73 f' 73 34115) : X E room_1 mL_law (x_QL E 3 xs) 32 [(3, .int 0), (2, .ref 59), (1, .ref 0), (0, .retAddr 0)] [.int (nI 7)] 73 f 73 34115 := by
  refine x_tableIn (tgt := 355) rfl (by decide) (by decide) rfl rfl ?_
  refine x_aload_n (pc' := 356) rfl rfl rfl ?_
  refine x_aload_ns (pc' := 357) rfl rfl rfl ?_
  refine x_iload_n (pc' := 358) rfl rfl rfl ?_
  refine x_iconst (pc' := 359) rfl rfl iconst_1 ?_
  refine x_iadd (pc' := 360) rfl rfl ?_
  refine x_sld (pc' := 361) rfl rfl (vp_in_nI (n := 1) (N := 3) (by decide) (by decide)) ?_
  refine x_aload_ns (pc' := 362) rfl rfl rfl ?_
  refine x_iload_n (pc' := 363) rfl rfl rfl ?_
  refine x_iconst (pc' := 364) rfl rfl iconst_2 ?_
  refine x_iadd (pc' := 365) rfl rfl ?_
  refine x_sld (pc' := 366) rfl rfl (vp_in_nI (n := 2) (N := 3) (by decide) (by decide)) ?_
  refine x_cV2i (d := 9) (pc' := 369) rfl rfl sL_44 gX5_behind (hS.1) ⟨Nat.le_of_ble_eq_true rfl, Nat.le_of_ble_eq_true rfl⟩ (Nat.le_of_ble_eq_true rfl) ⟨Nat.le_of_ble_eq_true rfl, Nat.le_of_ble_eq_true rfl⟩ ?_
  refine f_behind hS (fun f1 hF1 => ⟨_, rfl, ?_⟩)
  have hM1 := hM.fr hF1
  refine x_aload_n (pc' := 370) rfl rfl rfl ?_
  refine x_aload_ns (pc' := 371) rfl rfl rfl ?_
  refine x_iload_n (pc' := 372) rfl rfl rfl ?_
  refine x_iconst (pc' := 373) rfl rfl iconst_1 ?_
  refine x_iadd (pc' := 374) rfl rfl ?_
  refine x_sld (pc' := 375) rfl rfl (vp_in_nI (n := 1) (N := 3) (by decide) (by decide)) ?_
  refine x_aload_ns (pc' := 376) rfl rfl rfl ?_
  refine x_iload_n (pc' := 377) rfl rfl rfl ?_
  refine x_iconst (pc' := 378) rfl rfl iconst_2 ?_
  refine x_iadd (pc' := 379) rfl rfl ?_
  refine x_sld (pc' := 380) rfl rfl (vp_in_nI (n := 2) (N := 3) (by decide) (by decide)) ?_
  refine x_cV2i (d := 9) (pc' := 383) rfl rfl sL_47 gX6_behind (hM1.1) ⟨Nat.le_of_ble_eq_true rfl, Nat.le_of_ble_eq_true rfl⟩ (Nat.le_of_ble_eq_true rfl) ⟨Nat.le_of_ble_eq_true rfl, Nat.le_of_ble_eq_true rfl⟩ ?_
  refine m_behind hM1 (fun f2 => ⟨_, rfl, ?_⟩)
  refine x_icmp_eq (tgt := 831) (pc' := 386) rfl rfl rfl (fun _ => ?_) (fun c383 => absurd (rfl) c383)
  exact K _
theorem l_empties (hS : x_Sys 73 f x_S0) (hM : x_Mdl 73 f x_M0) (K : ∀ f' : x_H, X E room_1 mL_law (x_QL E 3 xs) 831 [(3, .int 0), (2, .ref 59), (1, .ref 0), (0, .retAddr 0)] [] 73 f' 73 34115) : X E room_1 mL_law (x_QL E 3 xs) 32 [(3, .int 0), (2, .ref 59), (1, .ref 0), (0, .retAddr 0)] [.int (nI 8)] 73 f 73 34115 := by
  refine x_tableIn (tgt := 388) rfl (by decide) (by decide) rfl rfl ?_
  refine x_aload_n (pc' := 389) rfl rfl rfl ?_
  refine x_aload_ns (pc' := 390) rfl rfl rfl ?_
  refine x_iload_n (pc' := 391) rfl rfl rfl ?_
  refine x_iconst (pc' := 392) rfl rfl iconst_1 ?_
  refine x_iadd (pc' := 393) rfl rfl ?_
  refine x_sld (pc' := 394) rfl rfl (vp_in_nI (n := 1) (N := 3) (by decide) (by decide)) ?_
  refine x_cV1i (d := 9) (pc' := 397) rfl rfl sL_48 gX5_empties (hS.1) ⟨Nat.le_of_ble_eq_true rfl, Nat.le_of_ble_eq_true rfl⟩ (Nat.le_of_ble_eq_true rfl) ⟨Nat.le_of_ble_eq_true rfl, Nat.le_of_ble_eq_true rfl⟩ ?_
  refine f_empties hS (fun f1 hF1 => ⟨_, rfl, ?_⟩)
  have hM1 := hM.fr hF1
  refine x_aload_n (pc' := 398) rfl rfl rfl ?_
  refine x_aload_ns (pc' := 399) rfl rfl rfl ?_
  refine x_iload_n (pc' := 400) rfl rfl rfl ?_
  refine x_iconst (pc' := 401) rfl rfl iconst_1 ?_
  refine x_iadd (pc' := 402) rfl rfl ?_
  refine x_sld (pc' := 403) rfl rfl (vp_in_nI (n := 1) (N := 3) (by decide) (by decide)) ?_
  refine x_cV1i (d := 9) (pc' := 406) rfl rfl sL_51 gX6_empties (hM1.1) ⟨Nat.le_of_ble_eq_true rfl, Nat.le_of_ble_eq_true rfl⟩ (Nat.le_of_ble_eq_true rfl) ⟨Nat.le_of_ble_eq_true rfl, Nat.le_of_ble_eq_true rfl⟩ ?_
  refine m_empties hM1 (fun f2 => ⟨_, rfl, ?_⟩)
  refine x_icmp_eq (tgt := 831) (pc' := 409) rfl rfl rfl (fun _ => ?_) (fun c406 => absurd (rfl) c406)
  exact K _
theorem l_longest (hS : x_Sys 73 f x_S0) (hM : x_Mdl 73 f x_M0) (K : ∀ f' : x_H, X E room_1 mL_law (x_QL E 3 xs) 831 [(3, .int 0), (2, .ref 59), (1, .ref 0), (0, .retAddr 0)] [] 73 f' 73 34115) : X E room_1 mL_law (x_QL E 3 xs) 32 [(3, .int 0), (2, .ref 59), (1, .ref 0), (0, .retAddr 0)] [.int (nI 9)] 73 f 73 34115 := by
  refine x_tableIn (tgt := 411) rfl (by decide) (by decide) rfl rfl ?_
  refine x_aload_n (pc' := 412) rfl rfl rfl ?_
  refine x_cV0i (d := 9) (pc' := 415) rfl rfl sL_52 gX5_longest (hS.1) ⟨Nat.le_of_ble_eq_true rfl, Nat.le_of_ble_eq_true rfl⟩ (Nat.le_of_ble_eq_true rfl) ⟨Nat.le_of_ble_eq_true rfl, Nat.le_of_ble_eq_true rfl⟩ ?_
  refine f_longest hS (fun f1 hF1 => ⟨_, rfl, ?_⟩)
  have hM1 := hM.fr hF1
  refine x_aload_n (pc' := 416) rfl rfl rfl ?_
  refine x_cV0i (d := 9) (pc' := 419) rfl rfl sL_55 gX6_longest (hM1.1) ⟨Nat.le_of_ble_eq_true rfl, Nat.le_of_ble_eq_true rfl⟩ (Nat.le_of_ble_eq_true rfl) ⟨Nat.le_of_ble_eq_true rfl, Nat.le_of_ble_eq_true rfl⟩ ?_
  refine m_longest hM1 (fun f2 => ⟨_, rfl, ?_⟩)
  refine x_icmp_eq (tgt := 831) (pc' := 422) rfl rfl rfl (fun _ => ?_) (fun c419 => absurd (rfl) c419)
  exact K _
theorem l_best (hS : x_Sys 73 f x_S0) (hM : x_Mdl 73 f x_M0) (K : ∀ f' : x_H, X E room_1 mL_law (x_QL E 3 xs) 831 [(3, .int 0), (2, .ref 59), (1, .ref 0), (0, .retAddr 0)] [] 73 f' 73 34115) : X E room_1 mL_law (x_QL E 3 xs) 32 [(3, .int 0), (2, .ref 59), (1, .ref 0), (0, .retAddr 0)] [.int (nI 10)] 73 f 73 34115 := by
  refine x_tableIn (tgt := 424) rfl (by decide) (by decide) rfl rfl ?_
  refine x_aload_n (pc' := 425) rfl rfl rfl ?_
  refine x_aload_ns (pc' := 426) rfl rfl rfl ?_
  refine x_iload_n (pc' := 427) rfl rfl rfl ?_
  refine x_iconst (pc' := 428) rfl rfl iconst_1 ?_
  refine x_iadd (pc' := 429) rfl rfl ?_
  refine x_sld (pc' := 430) rfl rfl (vp_in_nI (n := 1) (N := 3) (by decide) (by decide)) ?_
  refine x_cV1i (d := 9) (pc' := 433) rfl rfl sL_56 gX5_best (hS.1) ⟨Nat.le_of_ble_eq_true rfl, Nat.le_of_ble_eq_true rfl⟩ (Nat.le_of_ble_eq_true rfl) ⟨Nat.le_of_ble_eq_true rfl, Nat.le_of_ble_eq_true rfl⟩ ?_
  refine f_best hS (fun f1 hF1 => ⟨_, rfl, ?_⟩)
  have hM1 := hM.fr hF1
  refine x_aload_n (pc' := 434) rfl rfl rfl ?_
  refine x_aload_ns (pc' := 435) rfl rfl rfl ?_
  refine x_iload_n (pc' := 436) rfl rfl rfl ?_
  refine x_iconst (pc' := 437) rfl rfl iconst_1 ?_
  refine x_iadd (pc' := 438) rfl rfl ?_
  refine x_sld (pc' := 439) rfl rfl (vp_in_nI (n := 1) (N := 3) (by decide) (by decide)) ?_
  refine x_cV1i (d := 9) (pc' := 442) rfl rfl sL_59 gX6_best (hM1.1) ⟨Nat.le_of_ble_eq_true rfl, Nat.le_of_ble_eq_true rfl⟩ (Nat.le_of_ble_eq_true rfl) ⟨Nat.le_of_ble_eq_true rfl, Nat.le_of_ble_eq_true rfl⟩ ?_
  refine m_best hM1 (fun f2 => ⟨_, rfl, ?_⟩)
  refine x_icmp_eq (tgt := 831) (pc' := 445) rfl rfl rfl (fun _ => ?_) (fun c442 => absurd (rfl) c442)
  exact K _
theorem l_worth (hS : x_Sys 73 f x_S0) (hM : x_Mdl 73 f x_M0) (K : ∀ f' : x_H, X E room_1 mL_law (x_QL E 3 xs) 831 [(3, .int 0), (2, .ref 59), (1, .ref 0), (0, .retAddr 0)] [] 73 f' 73 34115) : X E room_1 mL_law (x_QL E 3 xs) 32 [(3, .int 0), (2, .ref 59), (1, .ref 0), (0, .retAddr 0)] [.int (nI 11)] 73 f 73 34115 := by
  refine x_tableIn (tgt := 447) rfl (by decide) (by decide) rfl rfl ?_
  refine x_aload_n (pc' := 448) rfl rfl rfl ?_
  refine x_aload_ns (pc' := 449) rfl rfl rfl ?_
  refine x_iload_n (pc' := 450) rfl rfl rfl ?_
  refine x_iconst (pc' := 451) rfl rfl iconst_1 ?_
  refine x_iadd (pc' := 452) rfl rfl ?_
  refine x_sld (pc' := 453) rfl rfl (vp_in_nI (n := 1) (N := 3) (by decide) (by decide)) ?_
  refine x_cV1i (d := 9) (pc' := 456) rfl rfl sL_60 gX5_worth (hS.1) ⟨Nat.le_of_ble_eq_true rfl, Nat.le_of_ble_eq_true rfl⟩ (Nat.le_of_ble_eq_true rfl) ⟨Nat.le_of_ble_eq_true rfl, Nat.le_of_ble_eq_true rfl⟩ ?_
  refine f_worth hS (fun f1 hF1 => ⟨_, rfl, ?_⟩)
  have hM1 := hM.fr hF1
  refine x_aload_n (pc' := 457) rfl rfl rfl ?_
  refine x_aload_ns (pc' := 458) rfl rfl rfl ?_
  refine x_iload_n (pc' := 459) rfl rfl rfl ?_
  refine x_iconst (pc' := 460) rfl rfl iconst_1 ?_
  refine x_iadd (pc' := 461) rfl rfl ?_
  refine x_sld (pc' := 462) rfl rfl (vp_in_nI (n := 1) (N := 3) (by decide) (by decide)) ?_
  refine x_cV1i (d := 9) (pc' := 465) rfl rfl sL_63 gX6_worth (hM1.1) ⟨Nat.le_of_ble_eq_true rfl, Nat.le_of_ble_eq_true rfl⟩ (Nat.le_of_ble_eq_true rfl) ⟨Nat.le_of_ble_eq_true rfl, Nat.le_of_ble_eq_true rfl⟩ ?_
  refine m_worth hM1 (fun f2 => ⟨_, rfl, ?_⟩)
  refine x_icmp_eq (tgt := 831) (pc' := 468) rfl rfl rfl (fun _ => ?_) (fun c465 => absurd (rfl) c465)
  exact K _
theorem l_lost (hS : x_Sys 73 f x_S0) (hM : x_Mdl 73 f x_M0) (K : ∀ f' : x_H, X E room_1 mL_law (x_QL E 3 xs) 831 [(3, .int 0), (2, .ref 59), (1, .ref 0), (0, .retAddr 0)] [] 73 f' 73 34115) : X E room_1 mL_law (x_QL E 3 xs) 32 [(3, .int 0), (2, .ref 59), (1, .ref 0), (0, .retAddr 0)] [.int (nI 12)] 73 f 73 34115 := by
  refine x_tableIn (tgt := 470) rfl (by decide) (by decide) rfl rfl ?_
  refine x_aload_n (pc' := 471) rfl rfl rfl ?_
  refine x_cV0i (d := 9) (pc' := 474) rfl rfl sL_64 gX5_lost (hS.1) ⟨Nat.le_of_ble_eq_true rfl, Nat.le_of_ble_eq_true rfl⟩ (Nat.le_of_ble_eq_true rfl) ⟨Nat.le_of_ble_eq_true rfl, Nat.le_of_ble_eq_true rfl⟩ ?_
  refine f_lost hS (fun f1 hF1 => ⟨_, rfl, ?_⟩)
  have hM1 := hM.fr hF1
  refine x_aload_n (pc' := 475) rfl rfl rfl ?_
  refine x_cV0i (d := 9) (pc' := 478) rfl rfl sL_67 gX6_lost (hM1.1) ⟨Nat.le_of_ble_eq_true rfl, Nat.le_of_ble_eq_true rfl⟩ (Nat.le_of_ble_eq_true rfl) ⟨Nat.le_of_ble_eq_true rfl, Nat.le_of_ble_eq_true rfl⟩ ?_
  refine m_lost hM1 (fun f2 => ⟨_, rfl, ?_⟩)
  refine x_icmp_eq (tgt := 831) (pc' := 481) rfl rfl rfl (fun _ => ?_) (fun c478 => absurd (rfl) c478)
  exact K _
theorem l_back (hS : x_Sys 73 f x_S0) (hM : x_Mdl 73 f x_M0) (K : ∀ f' : x_H, X E room_1 mL_law (x_QL E 3 xs) 831 [(3, .int 0), (2, .ref 59), (1, .ref 0), (0, .retAddr 0)] [] 73 f' 73 34115) : X E room_1 mL_law (x_QL E 3 xs) 32 [(3, .int 0), (2, .ref 59), (1, .ref 0), (0, .retAddr 0)] [.int (nI 13)] 73 f 73 34115 := by
  refine x_tableIn (tgt := 483) rfl (by decide) (by decide) rfl rfl ?_
  refine x_aload_n (pc' := 484) rfl rfl rfl ?_
  refine x_aload_ns (pc' := 485) rfl rfl rfl ?_
  refine x_iload_n (pc' := 486) rfl rfl rfl ?_
  refine x_iconst (pc' := 487) rfl rfl iconst_1 ?_
  refine x_iadd (pc' := 488) rfl rfl ?_
  refine x_sld (pc' := 489) rfl rfl (vp_in_nI (n := 1) (N := 3) (by decide) (by decide)) ?_
  refine x_cV1i (d := 9) (pc' := 492) rfl rfl sL_68 gX5_back (hS.1) ⟨Nat.le_of_ble_eq_true rfl, Nat.le_of_ble_eq_true rfl⟩ (Nat.le_of_ble_eq_true rfl) ⟨Nat.le_of_ble_eq_true rfl, Nat.le_of_ble_eq_true rfl⟩ ?_
  refine f_back hS (fun f1 hF1 => ⟨_, rfl, ?_⟩)
  have hM1 := hM.fr hF1
  refine x_aload_n (pc' := 493) rfl rfl rfl ?_
  refine x_aload_ns (pc' := 494) rfl rfl rfl ?_
  refine x_iload_n (pc' := 495) rfl rfl rfl ?_
  refine x_iconst (pc' := 496) rfl rfl iconst_1 ?_
  refine x_iadd (pc' := 497) rfl rfl ?_
  refine x_sld (pc' := 498) rfl rfl (vp_in_nI (n := 1) (N := 3) (by decide) (by decide)) ?_
  refine x_cV1i (d := 9) (pc' := 501) rfl rfl sL_71 gX6_back (hM1.1) ⟨Nat.le_of_ble_eq_true rfl, Nat.le_of_ble_eq_true rfl⟩ (Nat.le_of_ble_eq_true rfl) ⟨Nat.le_of_ble_eq_true rfl, Nat.le_of_ble_eq_true rfl⟩ ?_
  refine m_back hM1 (fun f2 => ⟨_, rfl, ?_⟩)
  refine x_icmp_eq (tgt := 831) (pc' := 504) rfl rfl rfl (fun _ => ?_) (fun c501 => absurd (rfl) c501)
  exact K _
theorem l_loop (hS : x_Sys 73 f x_S0) (hM : x_Mdl 73 f x_M0) (K : ∀ f' : x_H, X E room_1 mL_law (x_QL E 3 xs) 831 [(3, .int 0), (2, .ref 59), (1, .ref 0), (0, .retAddr 0)] [] 73 f' 73 34115) : X E room_1 mL_law (x_QL E 3 xs) 32 [(3, .int 0), (2, .ref 59), (1, .ref 0), (0, .retAddr 0)] [.int (nI 14)] 73 f 73 34115 := by
  refine x_tableIn (tgt := 506) rfl (by decide) (by decide) rfl rfl ?_
  refine x_aload_n (pc' := 507) rfl rfl rfl ?_
  refine x_aload_ns (pc' := 508) rfl rfl rfl ?_
  refine x_iload_n (pc' := 509) rfl rfl rfl ?_
  refine x_iconst (pc' := 510) rfl rfl iconst_1 ?_
  refine x_iadd (pc' := 511) rfl rfl ?_
  refine x_sld (pc' := 512) rfl rfl (vp_in_nI (n := 1) (N := 3) (by decide) (by decide)) ?_
  refine x_aload_ns (pc' := 513) rfl rfl rfl ?_
  refine x_iload_n (pc' := 514) rfl rfl rfl ?_
  refine x_iconst (pc' := 515) rfl rfl iconst_2 ?_
  refine x_iadd (pc' := 516) rfl rfl ?_
  refine x_sld (pc' := 517) rfl rfl (vp_in_nI (n := 2) (N := 3) (by decide) (by decide)) ?_
  refine x_cV2i (d := 9) (pc' := 520) rfl rfl sL_72 gX5_loop (hS.1) ⟨Nat.le_of_ble_eq_true rfl, Nat.le_of_ble_eq_true rfl⟩ (Nat.le_of_ble_eq_true rfl) ⟨Nat.le_of_ble_eq_true rfl, Nat.le_of_ble_eq_true rfl⟩ ?_
  refine f_loop hS (fun f1 hF1 => ⟨_, rfl, ?_⟩)
  have hM1 := hM.fr hF1
  refine x_aload_n (pc' := 521) rfl rfl rfl ?_
  refine x_aload_ns (pc' := 522) rfl rfl rfl ?_
  refine x_iload_n (pc' := 523) rfl rfl rfl ?_
  refine x_iconst (pc' := 524) rfl rfl iconst_1 ?_
  refine x_iadd (pc' := 525) rfl rfl ?_
  refine x_sld (pc' := 526) rfl rfl (vp_in_nI (n := 1) (N := 3) (by decide) (by decide)) ?_
  refine x_aload_ns (pc' := 527) rfl rfl rfl ?_
  refine x_iload_n (pc' := 528) rfl rfl rfl ?_
  refine x_iconst (pc' := 529) rfl rfl iconst_2 ?_
  refine x_iadd (pc' := 530) rfl rfl ?_
  refine x_sld (pc' := 531) rfl rfl (vp_in_nI (n := 2) (N := 3) (by decide) (by decide)) ?_
  refine x_cV2i (d := 9) (pc' := 534) rfl rfl sL_75 gX6_loop (hM1.1) ⟨Nat.le_of_ble_eq_true rfl, Nat.le_of_ble_eq_true rfl⟩ (Nat.le_of_ble_eq_true rfl) ⟨Nat.le_of_ble_eq_true rfl, Nat.le_of_ble_eq_true rfl⟩ ?_
  refine m_loop hM1 (fun f2 => ⟨_, rfl, ?_⟩)
  refine x_icmp_eq (tgt := 831) (pc' := 537) rfl rfl rfl (fun _ => ?_) (fun c534 => absurd (rfl) c534)
  exact K _
theorem l_toEmpty (hS : x_Sys 73 f x_S0) (hM : x_Mdl 73 f x_M0) (K : ∀ f' : x_H, X E room_1 mL_law (x_QL E 3 xs) 831 [(3, .int 0), (2, .ref 59), (1, .ref 0), (0, .retAddr 0)] [] 73 f' 73 34115) : X E room_1 mL_law (x_QL E 3 xs) 32 [(3, .int 0), (2, .ref 59), (1, .ref 0), (0, .retAddr 0)] [.int (nI 15)] 73 f 73 34115 := by
  refine x_tableIn (tgt := 539) rfl (by decide) (by decide) rfl rfl ?_
  refine x_aload_n (pc' := 540) rfl rfl rfl ?_
  refine x_aload_ns (pc' := 541) rfl rfl rfl ?_
  refine x_iload_n (pc' := 542) rfl rfl rfl ?_
  refine x_iconst (pc' := 543) rfl rfl iconst_1 ?_
  refine x_iadd (pc' := 544) rfl rfl ?_
  refine x_sld (pc' := 545) rfl rfl (vp_in_nI (n := 1) (N := 3) (by decide) (by decide)) ?_
  refine x_aload_ns (pc' := 546) rfl rfl rfl ?_
  refine x_iload_n (pc' := 547) rfl rfl rfl ?_
  refine x_iconst (pc' := 548) rfl rfl iconst_2 ?_
  refine x_iadd (pc' := 549) rfl rfl ?_
  refine x_sld (pc' := 550) rfl rfl (vp_in_nI (n := 2) (N := 3) (by decide) (by decide)) ?_
  refine x_cV2i (d := 9) (pc' := 553) rfl rfl sL_76 gX5_toEmpty (hS.1) ⟨Nat.le_of_ble_eq_true rfl, Nat.le_of_ble_eq_true rfl⟩ (Nat.le_of_ble_eq_true rfl) ⟨Nat.le_of_ble_eq_true rfl, Nat.le_of_ble_eq_true rfl⟩ ?_
  refine f_toEmpty hS (fun f1 hF1 => ⟨_, rfl, ?_⟩)
  have hM1 := hM.fr hF1
  refine x_aload_n (pc' := 554) rfl rfl rfl ?_
  refine x_aload_ns (pc' := 555) rfl rfl rfl ?_
  refine x_iload_n (pc' := 556) rfl rfl rfl ?_
  refine x_iconst (pc' := 557) rfl rfl iconst_1 ?_
  refine x_iadd (pc' := 558) rfl rfl ?_
  refine x_sld (pc' := 559) rfl rfl (vp_in_nI (n := 1) (N := 3) (by decide) (by decide)) ?_
  refine x_aload_ns (pc' := 560) rfl rfl rfl ?_
  refine x_iload_n (pc' := 561) rfl rfl rfl ?_
  refine x_iconst (pc' := 562) rfl rfl iconst_2 ?_
  refine x_iadd (pc' := 563) rfl rfl ?_
  refine x_sld (pc' := 564) rfl rfl (vp_in_nI (n := 2) (N := 3) (by decide) (by decide)) ?_
  refine x_cV2i (d := 9) (pc' := 567) rfl rfl sL_79 gX6_toEmpty (hM1.1) ⟨Nat.le_of_ble_eq_true rfl, Nat.le_of_ble_eq_true rfl⟩ (Nat.le_of_ble_eq_true rfl) ⟨Nat.le_of_ble_eq_true rfl, Nat.le_of_ble_eq_true rfl⟩ ?_
  refine m_toEmpty hM1 (fun f2 => ⟨_, rfl, ?_⟩)
  refine x_icmp_eq (tgt := 831) (pc' := 570) rfl rfl rfl (fun _ => ?_) (fun c567 => absurd (rfl) c567)
  exact K _
theorem l_price (hS : x_Sys 73 f x_S0) (hM : x_Mdl 73 f x_M0) (K : ∀ f' : x_H, X E room_1 mL_law (x_QL E 3 xs) 831 [(3, .int 0), (2, .ref 59), (1, .ref 0), (0, .retAddr 0)] [] 73 f' 73 34115) : X E room_1 mL_law (x_QL E 3 xs) 32 [(3, .int 0), (2, .ref 59), (1, .ref 0), (0, .retAddr 0)] [.int (nI 16)] 73 f 73 34115 := by
  refine x_tableIn (tgt := 572) rfl (by decide) (by decide) rfl rfl ?_
  refine x_aload_n (pc' := 573) rfl rfl rfl ?_
  refine x_aload_ns (pc' := 574) rfl rfl rfl ?_
  refine x_iload_n (pc' := 575) rfl rfl rfl ?_
  refine x_iconst (pc' := 576) rfl rfl iconst_1 ?_
  refine x_iadd (pc' := 577) rfl rfl ?_
  refine x_sld (pc' := 578) rfl rfl (vp_in_nI (n := 1) (N := 3) (by decide) (by decide)) ?_
  refine x_cV1i (d := 9) (pc' := 581) rfl rfl sL_80 gX5_price (hS.1) ⟨Nat.le_of_ble_eq_true rfl, Nat.le_of_ble_eq_true rfl⟩ (Nat.le_of_ble_eq_true rfl) ⟨Nat.le_of_ble_eq_true rfl, Nat.le_of_ble_eq_true rfl⟩ ?_
  refine f_price hS (fun f1 hF1 => ⟨_, rfl, ?_⟩)
  have hM1 := hM.fr hF1
  refine x_aload_n (pc' := 582) rfl rfl rfl ?_
  refine x_aload_ns (pc' := 583) rfl rfl rfl ?_
  refine x_iload_n (pc' := 584) rfl rfl rfl ?_
  refine x_iconst (pc' := 585) rfl rfl iconst_1 ?_
  refine x_iadd (pc' := 586) rfl rfl ?_
  refine x_sld (pc' := 587) rfl rfl (vp_in_nI (n := 1) (N := 3) (by decide) (by decide)) ?_
  refine x_cV1i (d := 9) (pc' := 590) rfl rfl sL_83 gX6_price (hM1.1) ⟨Nat.le_of_ble_eq_true rfl, Nat.le_of_ble_eq_true rfl⟩ (Nat.le_of_ble_eq_true rfl) ⟨Nat.le_of_ble_eq_true rfl, Nat.le_of_ble_eq_true rfl⟩ ?_
  refine m_price hM1 (fun f2 => ⟨_, rfl, ?_⟩)
  refine x_icmp_eq (tgt := 831) (pc' := 593) rfl rfl rfl (fun _ => ?_) (fun c590 => absurd (rfl) c590)
  exact K _
theorem l_sold (hS : x_Sys 73 f x_S0) (hM : x_Mdl 73 f x_M0) (K : ∀ f' : x_H, X E room_1 mL_law (x_QL E 3 xs) 831 [(3, .int 0), (2, .ref 59), (1, .ref 0), (0, .retAddr 0)] [] 73 f' 73 34115) : X E room_1 mL_law (x_QL E 3 xs) 32 [(3, .int 0), (2, .ref 59), (1, .ref 0), (0, .retAddr 0)] [.int (nI 17)] 73 f 73 34115 := by
  refine x_tableIn (tgt := 595) rfl (by decide) (by decide) rfl rfl ?_
  refine x_aload_n (pc' := 596) rfl rfl rfl ?_
  refine x_aload_ns (pc' := 597) rfl rfl rfl ?_
  refine x_iload_n (pc' := 598) rfl rfl rfl ?_
  refine x_iconst (pc' := 599) rfl rfl iconst_1 ?_
  refine x_iadd (pc' := 600) rfl rfl ?_
  refine x_sld (pc' := 601) rfl rfl (vp_in_nI (n := 1) (N := 3) (by decide) (by decide)) ?_
  refine x_cV1i (d := 9) (pc' := 604) rfl rfl sL_84 gX5_sold (hS.1) ⟨Nat.le_of_ble_eq_true rfl, Nat.le_of_ble_eq_true rfl⟩ (Nat.le_of_ble_eq_true rfl) ⟨Nat.le_of_ble_eq_true rfl, Nat.le_of_ble_eq_true rfl⟩ ?_
  refine f_sold hS (fun f1 hF1 => ⟨_, rfl, ?_⟩)
  have hM1 := hM.fr hF1
  refine x_aload_n (pc' := 605) rfl rfl rfl ?_
  refine x_aload_ns (pc' := 606) rfl rfl rfl ?_
  refine x_iload_n (pc' := 607) rfl rfl rfl ?_
  refine x_iconst (pc' := 608) rfl rfl iconst_1 ?_
  refine x_iadd (pc' := 609) rfl rfl ?_
  refine x_sld (pc' := 610) rfl rfl (vp_in_nI (n := 1) (N := 3) (by decide) (by decide)) ?_
  refine x_cV1i (d := 9) (pc' := 613) rfl rfl sL_87 gX6_sold (hM1.1) ⟨Nat.le_of_ble_eq_true rfl, Nat.le_of_ble_eq_true rfl⟩ (Nat.le_of_ble_eq_true rfl) ⟨Nat.le_of_ble_eq_true rfl, Nat.le_of_ble_eq_true rfl⟩ ?_
  refine m_sold hM1 (fun f2 => ⟨_, rfl, ?_⟩)
  refine x_icmp_eq (tgt := 831) (pc' := 616) rfl rfl rfl (fun _ => ?_) (fun c613 => absurd (rfl) c613)
  exact K _
theorem l_change (hS : x_Sys 73 f x_S0) (hM : x_Mdl 73 f x_M0) (K : ∀ f' : x_H, X E room_1 mL_law (x_QL E 3 xs) 831 [(3, .int 0), (2, .ref 59), (1, .ref 0), (0, .retAddr 0)] [] 73 f' 73 34115) : X E room_1 mL_law (x_QL E 3 xs) 32 [(3, .int 0), (2, .ref 59), (1, .ref 0), (0, .retAddr 0)] [.int (nI 18)] 73 f 73 34115 := by
  refine x_tableIn (tgt := 618) rfl (by decide) (by decide) rfl rfl ?_
  refine x_aload_n (pc' := 619) rfl rfl rfl ?_
  refine x_cV0i (d := 9) (pc' := 622) rfl rfl sL_88 gX5_change (hS.1) ⟨Nat.le_of_ble_eq_true rfl, Nat.le_of_ble_eq_true rfl⟩ (Nat.le_of_ble_eq_true rfl) ⟨Nat.le_of_ble_eq_true rfl, Nat.le_of_ble_eq_true rfl⟩ ?_
  refine f_change hS (fun f1 hF1 => ⟨_, rfl, ?_⟩)
  have hM1 := hM.fr hF1
  refine x_aload_n (pc' := 623) rfl rfl rfl ?_
  refine x_cV0i (d := 9) (pc' := 626) rfl rfl sL_91 gX6_change (hM1.1) ⟨Nat.le_of_ble_eq_true rfl, Nat.le_of_ble_eq_true rfl⟩ (Nat.le_of_ble_eq_true rfl) ⟨Nat.le_of_ble_eq_true rfl, Nat.le_of_ble_eq_true rfl⟩ ?_
  refine m_change hM1 (fun f2 => ⟨_, rfl, ?_⟩)
  refine x_icmp_eq (tgt := 831) (pc' := 629) rfl rfl rfl (fun _ => ?_) (fun c626 => absurd (rfl) c626)
  exact K _
theorem l_fair (hS : x_Sys 73 f x_S0) (hM : x_Mdl 73 f x_M0) (K : ∀ f' : x_H, X E room_1 mL_law (x_QL E 3 xs) 831 [(3, .int 0), (2, .ref 59), (1, .ref 0), (0, .retAddr 0)] [] 73 f' 73 34115) : X E room_1 mL_law (x_QL E 3 xs) 32 [(3, .int 0), (2, .ref 59), (1, .ref 0), (0, .retAddr 0)] [.int (nI 19)] 73 f 73 34115 := by
  refine x_tableIn (tgt := 631) rfl (by decide) (by decide) rfl rfl ?_
  refine x_aload_n (pc' := 632) rfl rfl rfl ?_
  refine x_cV0i (d := 9) (pc' := 635) rfl rfl sL_92 gX5_fair (hS.1) ⟨Nat.le_of_ble_eq_true rfl, Nat.le_of_ble_eq_true rfl⟩ (Nat.le_of_ble_eq_true rfl) ⟨Nat.le_of_ble_eq_true rfl, Nat.le_of_ble_eq_true rfl⟩ ?_
  refine f_fair hS (fun f1 hF1 => ⟨_, rfl, ?_⟩)
  have hM1 := hM.fr hF1
  refine x_aload_n (pc' := 636) rfl rfl rfl ?_
  refine x_cV0i (d := 9) (pc' := 639) rfl rfl sL_95 gX6_fair (hM1.1) ⟨Nat.le_of_ble_eq_true rfl, Nat.le_of_ble_eq_true rfl⟩ (Nat.le_of_ble_eq_true rfl) ⟨Nat.le_of_ble_eq_true rfl, Nat.le_of_ble_eq_true rfl⟩ ?_
  refine m_fair hM1 (fun f2 => ⟨_, rfl, ?_⟩)
  refine x_icmp_eq (tgt := 831) (pc' := 642) rfl rfl rfl (fun _ => ?_) (fun c639 => absurd (rfl) c639)
  exact K _
theorem l_sounds (hS : x_Sys 73 f x_S0) (hM : x_Mdl 73 f x_M0) (K : ∀ f' : x_H, X E room_1 mL_law (x_QL E 3 xs) 831 [(3, .int 0), (2, .ref 59), (1, .ref 0), (0, .retAddr 0)] [] 73 f' 73 34115) : X E room_1 mL_law (x_QL E 3 xs) 32 [(3, .int 0), (2, .ref 59), (1, .ref 0), (0, .retAddr 0)] [.int (nI 20)] 73 f 73 34115 := by
  refine x_tableIn (tgt := 644) rfl (by decide) (by decide) rfl rfl ?_
  refine x_aload_n (pc' := 645) rfl rfl rfl ?_
  refine x_aload_ns (pc' := 646) rfl rfl rfl ?_
  refine x_iload_n (pc' := 647) rfl rfl rfl ?_
  refine x_iconst (pc' := 648) rfl rfl iconst_1 ?_
  refine x_iadd (pc' := 649) rfl rfl ?_
  refine x_sld (pc' := 650) rfl rfl (vp_in_nI (n := 1) (N := 3) (by decide) (by decide)) ?_
  refine x_cV1i (d := 9) (pc' := 653) rfl rfl sL_96 gX5_sounds (hS.1) ⟨Nat.le_of_ble_eq_true rfl, Nat.le_of_ble_eq_true rfl⟩ (Nat.le_of_ble_eq_true rfl) ⟨Nat.le_of_ble_eq_true rfl, Nat.le_of_ble_eq_true rfl⟩ ?_
  refine f_sounds hS (fun f1 hF1 => ⟨_, rfl, ?_⟩)
  have hM1 := hM.fr hF1
  refine x_aload_n (pc' := 654) rfl rfl rfl ?_
  refine x_aload_ns (pc' := 655) rfl rfl rfl ?_
  refine x_iload_n (pc' := 656) rfl rfl rfl ?_
  refine x_iconst (pc' := 657) rfl rfl iconst_1 ?_
  refine x_iadd (pc' := 658) rfl rfl ?_
  refine x_sld (pc' := 659) rfl rfl (vp_in_nI (n := 1) (N := 3) (by decide) (by decide)) ?_
  refine x_cV1i (d := 9) (pc' := 662) rfl rfl sL_99 gX6_sounds (hM1.1) ⟨Nat.le_of_ble_eq_true rfl, Nat.le_of_ble_eq_true rfl⟩ (Nat.le_of_ble_eq_true rfl) ⟨Nat.le_of_ble_eq_true rfl, Nat.le_of_ble_eq_true rfl⟩ ?_
  refine m_sounds hM1 (fun f2 => ⟨_, rfl, ?_⟩)
  refine x_icmp_eq (tgt := 831) (pc' := 665) rfl rfl rfl (fun _ => ?_) (fun c662 => absurd (rfl) c662)
  exact K _
theorem l_next (hS : x_Sys 73 f x_S0) (hM : x_Mdl 73 f x_M0) (K : ∀ f' : x_H, X E room_1 mL_law (x_QL E 3 xs) 831 [(3, .int 0), (2, .ref 59), (1, .ref 0), (0, .retAddr 0)] [] 73 f' 73 34115) : X E room_1 mL_law (x_QL E 3 xs) 32 [(3, .int 0), (2, .ref 59), (1, .ref 0), (0, .retAddr 0)] [.int (nI 21)] 73 f 73 34115 := by
  refine x_tableIn (tgt := 667) rfl (by decide) (by decide) rfl rfl ?_
  refine x_aload_n (pc' := 668) rfl rfl rfl ?_
  refine x_aload_ns (pc' := 669) rfl rfl rfl ?_
  refine x_iload_n (pc' := 670) rfl rfl rfl ?_
  refine x_iconst (pc' := 671) rfl rfl iconst_1 ?_
  refine x_iadd (pc' := 672) rfl rfl ?_
  refine x_sld (pc' := 673) rfl rfl (vp_in_nI (n := 1) (N := 3) (by decide) (by decide)) ?_
  refine x_cV1i (d := 9) (pc' := 676) rfl rfl sL_100 gX5_next (hS.1) ⟨Nat.le_of_ble_eq_true rfl, Nat.le_of_ble_eq_true rfl⟩ (Nat.le_of_ble_eq_true rfl) ⟨Nat.le_of_ble_eq_true rfl, Nat.le_of_ble_eq_true rfl⟩ ?_
  refine f_next hS (fun f1 hF1 => ⟨_, rfl, ?_⟩)
  have hM1 := hM.fr hF1
  refine x_aload_n (pc' := 677) rfl rfl rfl ?_
  refine x_aload_ns (pc' := 678) rfl rfl rfl ?_
  refine x_iload_n (pc' := 679) rfl rfl rfl ?_
  refine x_iconst (pc' := 680) rfl rfl iconst_1 ?_
  refine x_iadd (pc' := 681) rfl rfl ?_
  refine x_sld (pc' := 682) rfl rfl (vp_in_nI (n := 1) (N := 3) (by decide) (by decide)) ?_
  refine x_cV1i (d := 9) (pc' := 685) rfl rfl sL_103 gX6_next (hM1.1) ⟨Nat.le_of_ble_eq_true rfl, Nat.le_of_ble_eq_true rfl⟩ (Nat.le_of_ble_eq_true rfl) ⟨Nat.le_of_ble_eq_true rfl, Nat.le_of_ble_eq_true rfl⟩ ?_
  refine m_next hM1 (fun f2 => ⟨_, rfl, ?_⟩)
  refine x_icmp_eq (tgt := 831) (pc' := 688) rfl rfl rfl (fun _ => ?_) (fun c685 => absurd (rfl) c685)
  exact K _
theorem l_played (hS : x_Sys 73 f x_S0) (hM : x_Mdl 73 f x_M0) (K : ∀ f' : x_H, X E room_1 mL_law (x_QL E 3 xs) 831 [(3, .int 0), (2, .ref 59), (1, .ref 0), (0, .retAddr 0)] [] 73 f' 73 34115) : X E room_1 mL_law (x_QL E 3 xs) 32 [(3, .int 0), (2, .ref 59), (1, .ref 0), (0, .retAddr 0)] [.int (nI 22)] 73 f 73 34115 := by
  refine x_tableIn (tgt := 690) rfl (by decide) (by decide) rfl rfl ?_
  refine x_aload_n (pc' := 691) rfl rfl rfl ?_
  refine x_aload_ns (pc' := 692) rfl rfl rfl ?_
  refine x_iload_n (pc' := 693) rfl rfl rfl ?_
  refine x_iconst (pc' := 694) rfl rfl iconst_1 ?_
  refine x_iadd (pc' := 695) rfl rfl ?_
  refine x_sld (pc' := 696) rfl rfl (vp_in_nI (n := 1) (N := 3) (by decide) (by decide)) ?_
  refine x_cV1i (d := 9) (pc' := 699) rfl rfl sL_104 gX5_played (hS.1) ⟨Nat.le_of_ble_eq_true rfl, Nat.le_of_ble_eq_true rfl⟩ (Nat.le_of_ble_eq_true rfl) ⟨Nat.le_of_ble_eq_true rfl, Nat.le_of_ble_eq_true rfl⟩ ?_
  refine f_played hS (fun f1 hF1 => ⟨_, rfl, ?_⟩)
  have hM1 := hM.fr hF1
  refine x_aload_n (pc' := 700) rfl rfl rfl ?_
  refine x_aload_ns (pc' := 701) rfl rfl rfl ?_
  refine x_iload_n (pc' := 702) rfl rfl rfl ?_
  refine x_iconst (pc' := 703) rfl rfl iconst_1 ?_
  refine x_iadd (pc' := 704) rfl rfl ?_
  refine x_sld (pc' := 705) rfl rfl (vp_in_nI (n := 1) (N := 3) (by decide) (by decide)) ?_
  refine x_cV1i (d := 9) (pc' := 708) rfl rfl sL_107 gX6_played (hM1.1) ⟨Nat.le_of_ble_eq_true rfl, Nat.le_of_ble_eq_true rfl⟩ (Nat.le_of_ble_eq_true rfl) ⟨Nat.le_of_ble_eq_true rfl, Nat.le_of_ble_eq_true rfl⟩ ?_
  refine m_played hM1 (fun f2 => ⟨_, rfl, ?_⟩)
  refine x_icmp_eq (tgt := 831) (pc' := 711) rfl rfl rfl (fun _ => ?_) (fun c708 => absurd (rfl) c708)
  exact K _
theorem l_row (hS : x_Sys 73 f x_S0) (hM : x_Mdl 73 f x_M0) (K : ∀ f' : x_H, X E room_1 mL_law (x_QL E 3 xs) 831 [(3, .int 0), (2, .ref 59), (1, .ref 0), (0, .retAddr 0)] [] 73 f' 73 34115) : X E room_1 mL_law (x_QL E 3 xs) 32 [(3, .int 0), (2, .ref 59), (1, .ref 0), (0, .retAddr 0)] [.int (nI 23)] 73 f 73 34115 := by
  refine x_tableIn (tgt := 713) rfl (by decide) (by decide) rfl rfl ?_
  refine x_aload_n (pc' := 714) rfl rfl rfl ?_
  refine x_aload_ns (pc' := 715) rfl rfl rfl ?_
  refine x_iload_n (pc' := 716) rfl rfl rfl ?_
  refine x_iconst (pc' := 717) rfl rfl iconst_1 ?_
  refine x_iadd (pc' := 718) rfl rfl ?_
  refine x_sld (pc' := 719) rfl rfl (vp_in_nI (n := 1) (N := 3) (by decide) (by decide)) ?_
  refine x_cV1i (d := 9) (pc' := 722) rfl rfl sL_108 gX5_row (hS.1) ⟨Nat.le_of_ble_eq_true rfl, Nat.le_of_ble_eq_true rfl⟩ (Nat.le_of_ble_eq_true rfl) ⟨Nat.le_of_ble_eq_true rfl, Nat.le_of_ble_eq_true rfl⟩ ?_
  refine f_row hS (fun f1 hF1 => ⟨_, rfl, ?_⟩)
  have hM1 := hM.fr hF1
  refine x_aload_n (pc' := 723) rfl rfl rfl ?_
  refine x_aload_ns (pc' := 724) rfl rfl rfl ?_
  refine x_iload_n (pc' := 725) rfl rfl rfl ?_
  refine x_iconst (pc' := 726) rfl rfl iconst_1 ?_
  refine x_iadd (pc' := 727) rfl rfl ?_
  refine x_sld (pc' := 728) rfl rfl (vp_in_nI (n := 1) (N := 3) (by decide) (by decide)) ?_
  refine x_cV1i (d := 9) (pc' := 731) rfl rfl sL_111 gX6_row (hM1.1) ⟨Nat.le_of_ble_eq_true rfl, Nat.le_of_ble_eq_true rfl⟩ (Nat.le_of_ble_eq_true rfl) ⟨Nat.le_of_ble_eq_true rfl, Nat.le_of_ble_eq_true rfl⟩ ?_
  refine m_row hM1 (fun f2 => ⟨_, rfl, ?_⟩)
  refine x_icmp_eq (tgt := 831) (pc' := 734) rfl rfl rfl (fun _ => ?_) (fun c731 => absurd (rfl) c731)
  exact K _
theorem l_judge (hS : x_Sys 73 f x_S0) (hM : x_Mdl 73 f x_M0) (K : ∀ f' : x_H, X E room_1 mL_law (x_QL E 3 xs) 831 [(3, .int 0), (2, .ref 59), (1, .ref 0), (0, .retAddr 0)] [] 73 f' 73 34115) : X E room_1 mL_law (x_QL E 3 xs) 32 [(3, .int 0), (2, .ref 59), (1, .ref 0), (0, .retAddr 0)] [.int (nI 24)] 73 f 73 34115 := by
  refine x_tableIn (tgt := 736) rfl (by decide) (by decide) rfl rfl ?_
  refine x_aload_n (pc' := 737) rfl rfl rfl ?_
  refine x_cV0i (d := 9) (pc' := 740) rfl rfl sL_112 gX5_judge (hS.1) ⟨Nat.le_of_ble_eq_true rfl, Nat.le_of_ble_eq_true rfl⟩ (Nat.le_of_ble_eq_true rfl) ⟨Nat.le_of_ble_eq_true rfl, Nat.le_of_ble_eq_true rfl⟩ ?_
  refine f_judge hS (fun f1 hF1 => ⟨_, rfl, ?_⟩)
  have hM1 := hM.fr hF1
  refine x_aload_n (pc' := 741) rfl rfl rfl ?_
  refine x_cV0i (d := 9) (pc' := 744) rfl rfl sL_115 gX6_judge (hM1.1) ⟨Nat.le_of_ble_eq_true rfl, Nat.le_of_ble_eq_true rfl⟩ (Nat.le_of_ble_eq_true rfl) ⟨Nat.le_of_ble_eq_true rfl, Nat.le_of_ble_eq_true rfl⟩ ?_
  refine m_judge hM1 (fun f2 => ⟨_, rfl, ?_⟩)
  refine x_icmp_eq (tgt := 831) (pc' := 747) rfl rfl rfl (fun _ => ?_) (fun c744 => absurd (rfl) c744)
  exact K _
theorem l_lots (hS : x_Sys 73 f x_S0) (hM : x_Mdl 73 f x_M0) (K : ∀ f' : x_H, X E room_1 mL_law (x_QL E 3 xs) 831 [(3, .int 0), (2, .ref 59), (1, .ref 0), (0, .retAddr 0)] [] 73 f' 73 34115) : X E room_1 mL_law (x_QL E 3 xs) 32 [(3, .int 0), (2, .ref 59), (1, .ref 0), (0, .retAddr 0)] [.int (nI 25)] 73 f 73 34115 := by
  refine x_tableIn (tgt := 749) rfl (by decide) (by decide) rfl rfl ?_
  refine x_aload_n (pc' := 750) rfl rfl rfl ?_
  refine x_aload_ns (pc' := 751) rfl rfl rfl ?_
  refine x_iload_n (pc' := 752) rfl rfl rfl ?_
  refine x_iconst (pc' := 753) rfl rfl iconst_1 ?_
  refine x_iadd (pc' := 754) rfl rfl ?_
  refine x_sld (pc' := 755) rfl rfl (vp_in_nI (n := 1) (N := 3) (by decide) (by decide)) ?_
  refine x_aload_ns (pc' := 756) rfl rfl rfl ?_
  refine x_iload_n (pc' := 757) rfl rfl rfl ?_
  refine x_iconst (pc' := 758) rfl rfl iconst_2 ?_
  refine x_iadd (pc' := 759) rfl rfl ?_
  refine x_sld (pc' := 760) rfl rfl (vp_in_nI (n := 2) (N := 3) (by decide) (by decide)) ?_
  refine x_cV2i (d := 9) (pc' := 763) rfl rfl sL_116 gX5_lots (hS.1) ⟨Nat.le_of_ble_eq_true rfl, Nat.le_of_ble_eq_true rfl⟩ (Nat.le_of_ble_eq_true rfl) ⟨Nat.le_of_ble_eq_true rfl, Nat.le_of_ble_eq_true rfl⟩ ?_
  refine f_lots hS (fun f1 hF1 => ⟨_, rfl, ?_⟩)
  have hM1 := hM.fr hF1
  refine x_aload_n (pc' := 764) rfl rfl rfl ?_
  refine x_aload_ns (pc' := 765) rfl rfl rfl ?_
  refine x_iload_n (pc' := 766) rfl rfl rfl ?_
  refine x_iconst (pc' := 767) rfl rfl iconst_1 ?_
  refine x_iadd (pc' := 768) rfl rfl ?_
  refine x_sld (pc' := 769) rfl rfl (vp_in_nI (n := 1) (N := 3) (by decide) (by decide)) ?_
  refine x_aload_ns (pc' := 770) rfl rfl rfl ?_
  refine x_iload_n (pc' := 771) rfl rfl rfl ?_
  refine x_iconst (pc' := 772) rfl rfl iconst_2 ?_
  refine x_iadd (pc' := 773) rfl rfl ?_
  refine x_sld (pc' := 774) rfl rfl (vp_in_nI (n := 2) (N := 3) (by decide) (by decide)) ?_
  refine x_cV2i (d := 9) (pc' := 777) rfl rfl sL_119 gX6_lots (hM1.1) ⟨Nat.le_of_ble_eq_true rfl, Nat.le_of_ble_eq_true rfl⟩ (Nat.le_of_ble_eq_true rfl) ⟨Nat.le_of_ble_eq_true rfl, Nat.le_of_ble_eq_true rfl⟩ ?_
  refine m_lots hM1 (fun f2 => ⟨_, rfl, ?_⟩)
  refine x_icmp_eq (tgt := 831) (pc' := 780) rfl rfl rfl (fun _ => ?_) (fun c777 => absurd (rfl) c777)
  exact K _
theorem l_image (hS : x_Sys 73 f x_S0) (hM : x_Mdl 73 f x_M0) (K : ∀ f' : x_H, X E room_1 mL_law (x_QL E 3 xs) 831 [(3, .int 0), (2, .ref 59), (1, .ref 0), (0, .retAddr 0)] [] 73 f' 73 34115) : X E room_1 mL_law (x_QL E 3 xs) 32 [(3, .int 0), (2, .ref 59), (1, .ref 0), (0, .retAddr 0)] [.int (nI 26)] 73 f 73 34115 := by
  refine x_tableIn (tgt := 782) rfl (by decide) (by decide) rfl rfl ?_
  refine x_aload_n (pc' := 783) rfl rfl rfl ?_
  refine x_cV0i (d := 9) (pc' := 786) rfl rfl sL_120 gX5_image (hS.1) ⟨Nat.le_of_ble_eq_true rfl, Nat.le_of_ble_eq_true rfl⟩ (Nat.le_of_ble_eq_true rfl) ⟨Nat.le_of_ble_eq_true rfl, Nat.le_of_ble_eq_true rfl⟩ ?_
  refine f_image hS (fun f1 hF1 => ⟨_, rfl, ?_⟩)
  have hM1 := hM.fr hF1
  refine x_aload_n (pc' := 787) rfl rfl rfl ?_
  refine x_cV0i (d := 9) (pc' := 790) rfl rfl sL_123 gX6_image (hM1.1) ⟨Nat.le_of_ble_eq_true rfl, Nat.le_of_ble_eq_true rfl⟩ (Nat.le_of_ble_eq_true rfl) ⟨Nat.le_of_ble_eq_true rfl, Nat.le_of_ble_eq_true rfl⟩ ?_
  refine m_image hM1 (fun f2 => ⟨_, rfl, ?_⟩)
  refine x_icmp_eq (tgt := 831) (pc' := 793) rfl rfl rfl (fun _ => ?_) (fun c790 => absurd (rfl) c790)
  exact K _
theorem l_on (hS : x_Sys 73 f x_S0) (hM : x_Mdl 73 f x_M0) (K : ∀ f' : x_H, X E room_1 mL_law (x_QL E 3 xs) 831 [(3, .int 0), (2, .ref 59), (1, .ref 0), (0, .retAddr 0)] [] 73 f' 73 34115) : X E room_1 mL_law (x_QL E 3 xs) 32 [(3, .int 0), (2, .ref 59), (1, .ref 0), (0, .retAddr 0)] [.int (nI 27)] 73 f 73 34115 := by
  refine x_tableIn (tgt := 795) rfl (by decide) (by decide) rfl rfl ?_
  refine x_aload_n (pc' := 796) rfl rfl rfl ?_
  refine x_cV0i (d := 9) (pc' := 799) rfl rfl sL_124 gX5_on (hS.1) ⟨Nat.le_of_ble_eq_true rfl, Nat.le_of_ble_eq_true rfl⟩ (Nat.le_of_ble_eq_true rfl) ⟨Nat.le_of_ble_eq_true rfl, Nat.le_of_ble_eq_true rfl⟩ ?_
  refine f_on hS (fun f1 hF1 => ⟨_, rfl, ?_⟩)
  have hM1 := hM.fr hF1
  refine x_aload_n (pc' := 800) rfl rfl rfl ?_
  refine x_cV0i (d := 9) (pc' := 803) rfl rfl sL_127 gX6_on (hM1.1) ⟨Nat.le_of_ble_eq_true rfl, Nat.le_of_ble_eq_true rfl⟩ (Nat.le_of_ble_eq_true rfl) ⟨Nat.le_of_ble_eq_true rfl, Nat.le_of_ble_eq_true rfl⟩ ?_
  refine m_on hM1 (fun f2 => ⟨_, rfl, ?_⟩)
  refine x_icmp_eq (tgt := 831) (pc' := 806) rfl rfl rfl (fun _ => ?_) (fun c803 => absurd (rfl) c803)
  exact K _
theorem l_count (hS : x_Sys 73 f x_S0) (hM : x_Mdl 73 f x_M0) (K : ∀ f' : x_H, X E room_1 mL_law (x_QL E 3 xs) 831 [(3, .int 0), (2, .ref 59), (1, .ref 0), (0, .retAddr 0)] [] 73 f' 73 34115) : X E room_1 mL_law (x_QL E 3 xs) 32 [(3, .int 0), (2, .ref 59), (1, .ref 0), (0, .retAddr 0)] [.int (nI 28)] 73 f 73 34115 := by
  refine x_tableIn (tgt := 808) rfl (by decide) (by decide) rfl rfl ?_
  refine x_aload_n (pc' := 809) rfl rfl rfl ?_
  refine x_aload_ns (pc' := 810) rfl rfl rfl ?_
  refine x_iload_n (pc' := 811) rfl rfl rfl ?_
  refine x_iconst (pc' := 812) rfl rfl iconst_1 ?_
  refine x_iadd (pc' := 813) rfl rfl ?_
  refine x_sld (pc' := 814) rfl rfl (vp_in_nI (n := 1) (N := 3) (by decide) (by decide)) ?_
  refine x_cV1i (d := 9) (pc' := 817) rfl rfl sL_128 gX5_count (hS.1) ⟨Nat.le_of_ble_eq_true rfl, Nat.le_of_ble_eq_true rfl⟩ (Nat.le_of_ble_eq_true rfl) ⟨Nat.le_of_ble_eq_true rfl, Nat.le_of_ble_eq_true rfl⟩ ?_
  refine f_count hS (fun f1 hF1 => ⟨_, rfl, ?_⟩)
  have hM1 := hM.fr hF1
  refine x_aload_n (pc' := 818) rfl rfl rfl ?_
  refine x_aload_ns (pc' := 819) rfl rfl rfl ?_
  refine x_iload_n (pc' := 820) rfl rfl rfl ?_
  refine x_iconst (pc' := 821) rfl rfl iconst_1 ?_
  refine x_iadd (pc' := 822) rfl rfl ?_
  refine x_sld (pc' := 823) rfl rfl (vp_in_nI (n := 1) (N := 3) (by decide) (by decide)) ?_
  refine x_cV1i (d := 9) (pc' := 826) rfl rfl sL_131 gX6_count (hM1.1) ⟨Nat.le_of_ble_eq_true rfl, Nat.le_of_ble_eq_true rfl⟩ (Nat.le_of_ble_eq_true rfl) ⟨Nat.le_of_ble_eq_true rfl, Nat.le_of_ble_eq_true rfl⟩ ?_
  refine m_count hM1 (fun f2 => ⟨_, rfl, ?_⟩)
  refine x_icmp_eq (tgt := 831) (pc' := 829) rfl rfl rfl (fun _ => ?_) (fun c826 => absurd (rfl) c826)
  exact K _
theorem l_out29 (K : X E room_1 mL_law (x_QL E 3 xs) 831 [(3, .int 0), (2, .ref 59), (1, .ref 0), (0, .retAddr 0)] [] 73 f 73 34115) : X E room_1 mL_law (x_QL E 3 xs) 32 [(3, .int 0), (2, .ref 59), (1, .ref 0), (0, .retAddr 0)] [.int (nI 29)] 73 f 73 34115 := by
  refine x_tableOut (tgt := 831) rfl ((by decide)) rfl ?_
  exact K
theorem l_out30 (K : X E room_1 mL_law (x_QL E 3 xs) 831 [(3, .int 0), (2, .ref 59), (1, .ref 0), (0, .retAddr 0)] [] 73 f 73 34115) : X E room_1 mL_law (x_QL E 3 xs) 32 [(3, .int 0), (2, .ref 59), (1, .ref 0), (0, .retAddr 0)] [.int (nI 30)] 73 f 73 34115 := by
  refine x_tableOut (tgt := 831) rfl ((by decide)) rfl ?_
  exact K
theorem l_out31 (K : X E room_1 mL_law (x_QL E 3 xs) 831 [(3, .int 0), (2, .ref 59), (1, .ref 0), (0, .retAddr 0)] [] 73 f 73 34115) : X E room_1 mL_law (x_QL E 3 xs) 32 [(3, .int 0), (2, .ref 59), (1, .ref 0), (0, .retAddr 0)] [.int (nI 31)] 73 f 73 34115 := by
  refine x_tableOut (tgt := 831) rfl ((by decide)) rfl ?_
  exact K
theorem l_again : ∀ f' : x_H, X E room_1 mL_law (x_QL E 3 xs) 831 [(3, .int 0), (2, .ref 59), (1, .ref 0), (0, .retAddr 0)] [] 73 f' 73 34115 := by
  intro f'
  refine x_iinc (pc' := 834) (lv' := [(3, _), (2, _), (1, _), (0, _)]) rfl rfl (Nat.le_of_ble_eq_true rfl) rfl (rfl) rfl ?_
  refine x_goto (tgt := 18) rfl rfl ?_
  refine x_iload_n (pc' := 19) rfl rfl rfl ?_
  refine x_aload_ns (pc' := 20) rfl rfl rfl ?_
  refine x_slen (pc' := 21) rfl rfl ?_
  refine x_iconst (pc' := 22) rfl rfl iconst_3 ?_
  refine x_isub (pc' := 23) rfl rfl ?_
  refine x_icmp_gt (tgt := 837) (pc' := 26) rfl rfl rfl (fun _ => ?_) (fun c23 => absurd ((by decide)) c23)
  refine x_iconst (pc' := 838) rfl rfl iconst_1 ?_
  exact x_lend rfl (Nat.le_of_ble_eq_true rfl) (Nat.le_of_ble_eq_true rfl)
theorem l_start (hL : L ≤ 3) : X E room_1 mL_law (x_QL E L xs) 0 [(0, .retAddr 0)] [] 0 f 0 0 := by
  refine x_new (fs := [.null, .null, .int 0, .null, .null, .null, .null, .null, .null, .null, .int 0, .null]) (pc' := 3) rfl rfl rfl rfl (dfX5) rfl (Nat.le_of_ble_eq_true rfl) (Nat.le_of_ble_eq_true rfl) (fun f1 e1 => ?_)
  have oX := x_o.s e1 (Nat.lt_succ_self _)
  refine x_dup (pc' := 4) rfl rfl rfl ?_
  refine x_cI (d := 3) (mc := 58) (ms := 31720) (pc' := 7) rfl rfl sL_9 gX5_init ⟨Nat.le_of_ble_eq_true rfl, Nat.le_of_ble_eq_true rfl⟩ (Nat.le_of_ble_eq_true rfl) ⟨Nat.le_of_ble_eq_true rfl, Nat.le_of_ble_eq_true rfl⟩ ?_
  refine w_sysInit oX (fun f2 hS hF2 => ⟨rfl, ?_⟩)
  refine x_astore_n (pc' := 8) (lv' := [(1, _), (0, _)]) rfl rfl (Nat.le_of_ble_eq_true rfl) rfl ?_
  refine x_new (fs := [.int 0, .null, .null, .int 0, .int 0, .int 0, .null, .int 0, .int 0, .null, .null, .int 0, .null, .int 0, .int 0, .int 0, .int 0, .int 0, .int 0, .null, .int 0, .null, .int 0, .null, .null, .null, .null, .null, .int 0, .int 0, .int 0, .int 0]) (pc' := 11) rfl rfl rfl rfl (dfX6) rfl (Nat.le_of_ble_eq_true rfl) (Nat.le_of_ble_eq_true rfl) (fun f2 e2 => ?_)
  have oM := x_o.s e2 (show 59 < 60 by decide)
  have hS1 := (hS.zz (show 59 ≤ 60 by decide)).fr (x_fr.rf.up e2 (by decide))
  refine x_dup (pc' := 12) rfl rfl rfl ?_
  refine x_cI (d := 1) (mc := 13) (ms := 2351) (pc' := 15) rfl rfl sL_12 gX6_init ⟨Nat.le_of_ble_eq_true rfl, Nat.le_of_ble_eq_true rfl⟩ (Nat.le_of_ble_eq_true rfl) ⟨Nat.le_of_ble_eq_true rfl, Nat.le_of_ble_eq_true rfl⟩ ?_
  refine w_mdlInit oM (fun f4 hM hF4 => ⟨rfl, ?_⟩)
  have hS2 := (hS1.zz (show 60 ≤ 73 by decide)).fr hF4
  refine x_astore_n (pc' := 16) (lv' := [(2, _), (1, _), (0, _)]) rfl rfl (Nat.le_of_ble_eq_true rfl) rfl ?_
  refine x_iconst (pc' := 17) rfl rfl iconst_0 ?_
  refine x_istore_n (pc' := 18) (lv' := [(3, _), (2, _), (1, _), (0, _)]) rfl rfl (Nat.le_of_ble_eq_true rfl) rfl ?_
  refine x_iload_n (pc' := 19) rfl rfl rfl ?_
  refine x_aload_ns (pc' := 20) rfl rfl rfl ?_
  refine x_slen (pc' := 21) rfl rfl ?_
  refine x_iconst (pc' := 22) rfl rfl iconst_3 ?_
  refine x_isub (pc' := 23) rfl rfl ?_
  have hL4 : L = 0 ∨ L = 1 ∨ L = 2 ∨ L = 3 := by omega
  rcases hL4 with rfl | rfl | rfl | rfl
  · refine x_icmp_gt (tgt := 837) (pc' := 26) rfl rfl rfl (fun _ => ?_) (fun c23 => absurd ((by decide)) c23)
    refine x_iconst (pc' := 838) rfl rfl iconst_1 ?_
    exact x_lend rfl (Nat.le_of_ble_eq_true rfl) (Nat.le_of_ble_eq_true rfl)
  · refine x_icmp_gt (tgt := 837) (pc' := 26) rfl rfl rfl (fun _ => ?_) (fun c23 => absurd ((by decide)) c23)
    refine x_iconst (pc' := 838) rfl rfl iconst_1 ?_
    exact x_lend rfl (Nat.le_of_ble_eq_true rfl) (Nat.le_of_ble_eq_true rfl)
  · refine x_icmp_gt (tgt := 837) (pc' := 26) rfl rfl rfl (fun _ => ?_) (fun c23 => absurd ((by decide)) c23)
    refine x_iconst (pc' := 838) rfl rfl iconst_1 ?_
    exact x_lend rfl (Nat.le_of_ble_eq_true rfl) (Nat.le_of_ble_eq_true rfl)
  · refine x_icmp_gt (tgt := 837) (pc' := 26) rfl rfl rfl (fun c23 => absurd c23 ((by decide))) (fun _ => ?_)
    refine x_aload_ns (pc' := 27) rfl rfl rfl ?_
    refine x_iload_n (pc' := 28) rfl rfl rfl ?_
    refine x_sld (pc' := 29) rfl rfl (vp_in_nI (n := 0) (N := 3) (by decide) (by decide)) ?_
    refine x_bipush (pc' := 31) rfl rfl bipush_31 ?_
    refine x_iand (pc' := 32) rfl rfl ?_
    obtain ⟨j, hj, ej⟩ := pk_andE (xs (Int32.toNatClampNeg 0)) (m := 31) 5 (by decide)
    refine x_eqi ej ?_
    match j, hj with
    | 0, _ => exact l_letter hS2 hM l_again
    | 1, _ => exact l_game hS2 hM l_again
    | 2, _ => exact l_bowl hS2 hM l_again
    | 3, _ => exact l_put hS2 hM l_again
    | 4, _ => exact l_set hS2 hM l_again
    | 5, _ => exact l_move hS2 hM l_again
    | 6, _ => exact l_by hS2 hM l_again
    | 7, _ => exact l_behind hS2 hM l_again
    | 8, _ => exact l_empties hS2 hM l_again
    | 9, _ => exact l_longest hS2 hM l_again
    | 10, _ => exact l_best hS2 hM l_again
    | 11, _ => exact l_worth hS2 hM l_again
    | 12, _ => exact l_lost hS2 hM l_again
    | 13, _ => exact l_back hS2 hM l_again
    | 14, _ => exact l_loop hS2 hM l_again
    | 15, _ => exact l_toEmpty hS2 hM l_again
    | 16, _ => exact l_price hS2 hM l_again
    | 17, _ => exact l_sold hS2 hM l_again
    | 18, _ => exact l_change hS2 hM l_again
    | 19, _ => exact l_fair hS2 hM l_again
    | 20, _ => exact l_sounds hS2 hM l_again
    | 21, _ => exact l_next hS2 hM l_again
    | 22, _ => exact l_played hS2 hM l_again
    | 23, _ => exact l_row hS2 hM l_again
    | 24, _ => exact l_judge hS2 hM l_again
    | 25, _ => exact l_lots hS2 hM l_again
    | 26, _ => exact l_image hS2 hM l_again
    | 27, _ => exact l_on hS2 hM l_again
    | 28, _ => exact l_count hS2 hM l_again
    | 29, _ => exact l_out29 (l_again _)
    | 30, _ => exact l_out30 (l_again _)
    | 31, _ => exact l_out31 (l_again _)
    | n + 32, h => exact absurd h (by omega)
end LAW
set_option maxHeartbeats 4000000 in
theorem whole_start {p : Program} {e : Env} {s : State} {m : MethodId} {below : List Frame} {meth : Method} {c : Code} (l : Launch) (hflags : l.flags = flags0) {b L : Nat} {xs : Nat → Int32} (hL : L ≤ 3) (C0 : lw_At p s m meth c b L xs) : W p l e room_1 s m #[Value.ref b] below meth c s.heap [] 0 0 (lw_Z below #[Value.ref b] s) (entryFrame m ([Value.ref b] : List Value).toArray 4) := by
  obtain ⟨hx, hb, hr, hml, hown, hts, hX, hbl, hlocks, hgv⟩ := id C0
  have htb : ∀ w ∈ x_tb, w.before #[Value.ref b] s = true := fun w hw => hts w (List.mem_filter.mp hw).1
  obtain ⟨c0, i0, hk0⟩ := u_known (C := RX0) (T := TX0) (N := 2) (n := 2) htb wsX0_in (htb _ insX0)
  obtain ⟨c1, i1, hk1⟩ := u_known (C := RX1) (T := TX1) (N := 8) (n := 8) htb wsX1_in (htb _ insX1)
  obtain ⟨c2, i2, hk2⟩ := u_known (C := RX2) (T := TX2) (N := 2) (n := 2) htb wsX2_in (htb _ insX2)
  obtain ⟨c3, i3, hk3⟩ := u_known (C := RX3) (T := TX3) (N := 12) (n := 12) htb wsX3_in (htb _ insX3)
  obtain ⟨c4, i4, hk4⟩ := u_known (C := RX4) (T := TX4) (N := 2) (n := 2) htb wsX4_in (htb _ insX4)
  obtain ⟨c5, i5, hk5⟩ := u_known (C := RX5) (T := TX5) (N := 12) (n := 12) htb wsX5_in (htb _ insX5)
  obtain ⟨c6, i6, hk6⟩ := u_known (C := RX6) (T := TX6) (N := 32) (n := 32) htb wsX6_in (htb _ insX6)
  obtain ⟨aI, kI, compI, a1, a2, a3⟩ := Cond.arrayClass_spec (type := .int) (htb _ x_acI)
  obtain ⟨aJ, kJ, compJ, b1, b2, b3⟩ := Cond.arrayClass_spec (type := .long) (htb _ x_acJ)
  obtain ⟨compT, aT, kT, t1, t2, t3, t4, t5⟩ := Cond.arrayOver_spec (n := RX3) (hts _ x_aoT)
  let dC : Nat → ClassId := fun k => if k = 0 then c0 else if k = 1 then c1 else if k = 2 then c2 else if k = 3 then c3 else if k = 4 then c4 else if k = 5 then c5 else c6
  let dI : Nat → Nat → Nat := fun k => if k = 0 then i0 else if k = 1 then i1 else if k = 2 then i2 else if k = 3 then i3 else if k = 4 then i4 else if k = 5 then i5 else i6
  let G : Nat → ClassId := fun k => if k = 0 then aI else if k = 1 then aJ else aT
  have hK : x_K (l, (dC, dI), G, s.heap.size, b) s := by
    refine ⟨⟨?_, ?_⟩, ?_, va_AO.of (hts _ x_aoT)⟩
    · intro k q hq
      match k, hq with
      | 0, hq => cases hq; exact hk0
      | 1, hq => cases hq; exact hk1
      | 2, hq => cases hq; exact hk2
      | 3, hq => cases hq; exact hk3
      | 4, hq => cases hq; exact hk4
      | 5, hq => cases hq; exact hk5
      | 6, hq => cases hq; exact hk6
      | n + 7, hq => simp [x_cl] at hq
    · intro k q hq
      match k, hq with
      | 0, hq => cases hq; exact ⟨fun n z => ⟨fun k h => (by cases h), kI, a2, compI, a3⟩, a1⟩
      | 1, hq => cases hq; exact ⟨fun n z => ⟨fun k h => (by cases h), kJ, b2, compJ, b3⟩, b1⟩
      | 2, hq => cases hq; exact ⟨fun n z => ⟨fun k h => (by cases h), kT, t3, compT, t4⟩, kT, compT, t3, t4, t1, t5⟩
      | n + 3, hq => simp [x_tys] at hq
    · intro w hw
      rcases x_nw_kind w hw with ⟨a, i, b, n, d, h2, rfl⟩ | ⟨a, i, x, h2, rfl⟩
      · exact va_Nw.of rfl (hts _ (x_nw_in _ hw))
      · exact va_Nw.of rfl (hts _ (x_nw_in _ hw))
  have hcx : x_cx (l, (dC, dI), G, s.heap.size, b) mL_law p s m #[Value.ref b] meth c := ⟨hx, hb, hr, hml, hown, htb, hlocks, hK, Nat.le_refl _, fun h => absurd h (by decide), decL_law, okL⟩
  rw [lg_entry_eq]
  have hl := lv_entry ([.ref b]) (n := 4) (Nat.le_of_ble_eq_true rfl)
  have hP : va_P (dC, dI) x_cl (x_w (l, (dC, dI), G, s.heap.size, b) 0 (fun _ => .inr (0, []))) s.heap := fun k q h => by simp [x_w] at h
  have hw := l_start (E := (l, (dC, dI), G, s.heap.size, b)) (L := L) (xs := xs) (f := fun _ => .inr (0, [])) hL p e s m #[Value.ref b] below meth c s.heap [] _ hcx rfl hP va_S.rf hl
  intro T hT hXs
  obtain ⟨t, g1, g2⟩ := hw T hT hXs
  exact ⟨t, g1, g2 ⟨rfl, hX, hbl, rfl⟩⟩
