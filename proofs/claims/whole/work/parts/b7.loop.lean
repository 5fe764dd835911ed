theorem and63 (a : Int32) : 0 ≤ (a &&& 63).toInt ∧ (a &&& 63).toInt ≤ 63 := by
  have h : (a &&& 63).toBitVec.toNat ≤ 63 := by
    rw [Int32.toBitVec_and, BitVec.toNat_and]
    exact Nat.le_trans Nat.and_le_right (by decide)
  have e : (a &&& 63).toInt = ((a &&& 63).toBitVec.toNat : Int) := BitVec.toInt_eq_toNat_of_lt (by omega)
  omega
theorem arg_of {g : Gb} {n : Nat} {i m : Int32} {k : Nat} (hi : i.toInt = (n : Int)) (hm : m.toInt = (k : Int)) (hn : n + k < roL g 5) (hL : n + k < 100000) : Arg g i m (roF g 5 (ix (i + m))) := by
  have e : (i + m).toInt = (n : Int) + k := by rw [tI_add (by omega) (by omega), hi, hm]
  exact ⟨vin (by omega) (by omega), rfl⟩
/-- one round of the law's loop -/
theorem law_step {X : Cx} (C : Ok X RL cL_law 4 100 91) (hx : x_n X = 0) (hL : g_L (x_g X) ≤ 3072) (hend : ∀ (L : List (Option Value)) (I : Is) (J : Js) (b : Bool), L.length = 4 → Aw X 1513 L [.int 1] (st9 I J b)) {n : Nat} {i : Int32} {I : Is} {J : Js} {b : Bool} (hi : i.toInt = (n : Int)) (hn : n ≤ 4000) (hR : Rel I J b) (k : n + 6 ≤ g_L (x_g X) → ∀ I2 J2 b2, Rel I2 J2 b2 → Aw X 1506 (LwL i) [] (st9 I2 J2 b2)) : Aw X 18 (LwL i) [] (st9 I J b) := by
  have hro : roL (x_g X) 5 = g_L (x_g X) := rfl
  have hlen : (Int32.ofNat (roL (x_g X) 5)).toInt = ((g_L (x_g X) : Nat) : Int) := nIint (by omega)
  refine r_iload_n C dL_law_18 rfl ?_
  refine r_aload_n C dL_law_19 rfl ?_
  refine r_alro C (j := 5) rfl dL_law_20 ?_
  generalize Int32.ofNat (roL (x_g X) 5) = y at hlen
  refine r_bipush C (v := 6) dL_law_21 (by decide) ?_
  refine r_isub C dL_law_23 ?_
  have z6 : (6 : Int32).toInt = 6 := rfl
  refine b_icgt C (tgt := 1512) (mx := (n : Int)) (my := ((g_L (x_g X) : Nat) : Int) - 6) hi (by rw [tI_sub (by omega) (by omega), hlen, z6]) dL_law_24 rfl (fun _ => ?_) (fun h => ?_)
  · refine r_iconst C (v := 1) dL_law_1512 (by decide) ?_
    exact hend _ I J b rfl
  have k := k (by omega)
  refine r_aload_n C dL_law_27 rfl ?_
  refine r_iload_n C dL_law_28 rfl ?_
  refine r_iaro C (j := 5) rfl dL_law_29 (vin (by omega) (by omega)) ?_
  refine r_bipush C (v := 63) dL_law_30 (by decide) ?_
  refine r_iand C dL_law_32 ?_
  have hb := and63 (roF (x_g X) 5 (ix i))
  generalize roF (x_g X) 5 (ix i) &&& 63 = x at hb
  have ha : Arg (x_g X) i 1 (roF (x_g X) 5 (ix (i + 1))) ∧ Arg (x_g X) i 2 (roF (x_g X) 5 (ix (i + 2))) ∧ Arg (x_g X) i 3 (roF (x_g X) 5 (ix (i + 3))) ∧ Arg (x_g X) i 4 (roF (x_g X) 5 (ix (i + 4))) ∧ Arg (x_g X) i 5 (roF (x_g X) 5 (ix (i + 5))) :=
    ⟨arg_of (k := 1) hi rfl (by omega) (by omega), arg_of (k := 2) hi rfl (by omega) (by omega), arg_of (k := 3) hi rfl (by omega) (by omega), arg_of (k := 4) hi rfl (by omega) (by omega), arg_of (k := 5) hi rfl (by omega) (by omega)⟩
  by_cases h40 : 40 < x.toInt
  · exact r_tabOut C dL_law_33 (Or.inr h40) (tgt := 1506) rfl (k I J b hR)
  obtain ⟨j, hj, e⟩ : ∃ j : Nat, j < 41 ∧ x = nI j := ⟨x.toInt.toNat, by omega, Int32.toInt_inj.mp (by rw [nIint (by omega)]; omega)⟩
  subst e
  clear hb h40 hlen
  match j, hj with
  | 0, _ => exact r_tabIn C (x := nI 0) dL_law_33 (by decide) (by decide) (off := 179) rfl (tgt := 212) rfl (lw_straw C hx ha hR k)
  | 1, _ => exact r_tabIn C (x := nI 1) dL_law_33 (by decide) (by decide) (off := 212) rfl (tgt := 245) rfl (lw_straws C hx ha hR k)
  | 2, _ => exact r_tabIn C (x := nI 2) dL_law_33 (by decide) (by decide) (off := 255) rfl (tgt := 288) rfl (lw_mend C hx ha hR k)
  | 3, _ => exact r_tabIn C (x := nI 3) dL_law_33 (by decide) (by decide) (off := 298) rfl (tgt := 331) rfl (lw_of C hx ha hR k)
  | 4, _ => exact r_tabIn C (x := nI 4) dL_law_33 (by decide) (by decide) (off := 331) rfl (tgt := 364) rfl (lw_feed C hx ha hR k)
  | 5, _ => exact r_tabIn C (x := nI 5) dL_law_33 (by decide) (by decide) (off := 354) rfl (tgt := 387) rfl (lw_law C hx ha hR k)
  | 6, _ => exact r_tabIn C (x := nI 6) dL_law_33 (by decide) (by decide) (off := 367) rfl (tgt := 400) rfl (lw_wants C hx ha hR k)
  | 7, _ => exact r_tabIn C (x := nI 7) dL_law_33 (by decide) (by decide) (off := 410) rfl (tgt := 443) rfl (lw_glass C hx ha hR k)
  | 8, _ => exact r_tabIn C (x := nI 8) dL_law_33 (by decide) (by decide) (off := 453) rfl (tgt := 486) rfl (lw_level C hx ha hR k)
  | 9, _ => exact r_tabIn C (x := nI 9) dL_law_33 (by decide) (by decide) (off := 486) rfl (tgt := 519) rfl (lw_empty C hx ha hR k)
  | 10, _ => exact r_tabIn C (x := nI 10) dL_law_33 (by decide) (by decide) (off := 499) rfl (tgt := 532) rfl (lw_more C hx ha hR k)
  | 11, _ => exact r_tabIn C (x := nI 11) dL_law_33 (by decide) (by decide) (off := 532) rfl (tgt := 565) rfl (lw_turns C hx ha hR k)
  | 12, _ => exact r_tabIn C (x := nI 12) dL_law_33 (by decide) (by decide) (off := 575) rfl (tgt := 608) rfl (lw_mark C hx ha hR k)
  | 13, _ => exact r_tabIn C (x := nI 13) dL_law_33 (by decide) (by decide) (off := 598) rfl (tgt := 631) rfl (lw_halves C hx ha hR k)
  | 14, _ => exact r_tabIn C (x := nI 14) dL_law_33 (by decide) (by decide) (off := 631) rfl (tgt := 664) rfl (lw_reachFor C hx ha hR k)
  | 15, _ => exact r_tabIn C (x := nI 15) dL_law_33 (by decide) (by decide) (off := 674) rfl (tgt := 707) rfl (lw_slow C hx ha hR k)
  | 16, _ => exact r_tabIn C (x := nI 16) dL_law_33 (by decide) (by decide) (off := 707) rfl (tgt := 740) rfl (lw_both C hx ha hR k)
  | 17, _ => exact r_tabIn C (x := nI 17) dL_law_33 (by decide) (by decide) (off := 740) rfl (tgt := 773) rfl (lw_holeFor C hx ha hR k)
  | 18, _ => exact r_tabIn C (x := nI 18) dL_law_33 (by decide) (by decide) (off := 783) rfl (tgt := 816) rfl (lw_stopFor C hx ha hR k)
  | 19, _ => exact r_tabIn C (x := nI 19) dL_law_33 (by decide) (by decide) (off := 806) rfl (tgt := 839) rfl (lw_judge C hx ha hR k)
  | 20, _ => exact r_tabIn C (x := nI 20) dL_law_33 (by decide) (by decide) (off := 829) rfl (tgt := 862) rfl (lw_who C hx ha hR k)
  | 21, _ => exact r_tabIn C (x := nI 21) dL_law_33 (by decide) (by decide) (off := 862) rfl (tgt := 895) rfl (lw_since C hx ha hR k)
  | 22, _ => exact r_tabIn C (x := nI 22) dL_law_33 (by decide) (by decide) (off := 895) rfl (tgt := 928) rfl (lw_drawn C hx ha hR k)
  | 23, _ => exact r_tabIn C (x := nI 23) dL_law_33 (by decide) (by decide) (off := 938) rfl (tgt := 971) rfl (lw_second C hx ha hR k)
  | 24, _ => exact r_tabIn C (x := nI 24) dL_law_33 (by decide) (by decide) (off := 951) rfl (tgt := 984) rfl (lw_fill C hx ha hR k)
  | 25, _ => exact r_tabIn C (x := nI 25) dL_law_33 (by decide) (by decide) (off := 974) rfl (tgt := 1007) rfl (lw_ice C hx ha hR k)
  | 26, _ => exact r_tabIn C (x := nI 26) dL_law_33 (by decide) (by decide) (off := 997) rfl (tgt := 1030) rfl (lw_led C hx ha hR k)
  | 27, _ => exact r_tabIn C (x := nI 27) dL_law_33 (by decide) (by decide) (off := 1030) rfl (tgt := 1063) rfl (lw_image C hx ha hR k)
  | 28, _ => exact r_tabIn C (x := nI 28) dL_law_33 (by decide) (by decide) (off := 1043) rfl (tgt := 1076) rfl (lw_back C hx ha hR k)
  | 29, _ => exact r_tabIn C (x := nI 29) dL_law_33 (by decide) (by decide) (off := 1056) rfl (tgt := 1089) rfl (lw_undo C hx ha hR k)
  | 30, _ => exact r_tabIn C (x := nI 30) dL_law_33 (by decide) (by decide) (off := 1069) rfl (tgt := 1102) rfl (lw_redo C hx ha hR k)
  | 31, _ => exact r_tabIn C (x := nI 31) dL_law_33 (by decide) (by decide) (off := 1082) rfl (tgt := 1115) rfl (lw_body C hx ha hR k)
  | 32, _ => exact r_tabIn C (x := nI 32) dL_law_33 (by decide) (by decide) (off := 1105) rfl (tgt := 1138) rfl (lw_act C hx ha hR k)
  | 33, _ => exact r_tabIn C (x := nI 33) dL_law_33 (by decide) (by decide) (off := 1148) rfl (tgt := 1181) rfl (lw_trace C hx ha hR k)
  | 34, _ => exact r_tabIn C (x := nI 34) dL_law_33 (by decide) (by decide) (off := 1171) rfl (tgt := 1204) rfl (lw_keep C hx ha hR k)
  | 35, _ => exact r_tabIn C (x := nI 35) dL_law_33 (by decide) (by decide) (off := 1204) rfl (tgt := 1237) rfl (lw_row C hx ha hR k)
  | 36, _ => exact r_tabIn C (x := nI 36) dL_law_33 (by decide) (by decide) (off := 1247) rfl (tgt := 1280) rfl (lw_put C hx ha hR k)
  | 37, _ => exact r_tabIn C (x := nI 37) dL_law_33 (by decide) (by decide) (off := 1320) rfl (tgt := 1353) rfl (lw_element C hx ha hR k)
  | 38, _ => exact r_tabIn C (x := nI 38) dL_law_33 (by decide) (by decide) (off := 1354) rfl (tgt := 1387) rfl (lw_shift C hx ha hR k)
  | 39, _ => exact r_tabIn C (x := nI 39) dL_law_33 (by decide) (by decide) (off := 1417) rfl (tgt := 1450) rfl (lw_taken C hx ha hR k)
  | 40, _ => exact r_tabIn C (x := nI 40) dL_law_33 (by decide) (by decide) (off := 1450) rfl (tgt := 1483) rfl (lw_count C hx ha hR k)
  | q + 41, h => exact absurd h (by omega)
theorem law_loop {X : Cx} (C : Ok X RL cL_law 4 100 91) (hx : x_n X = 0) (hL : g_L (x_g X) ≤ 3072) (hend : ∀ (L : List (Option Value)) (I : Is) (J : Js) (b : Bool), L.length = 4 → Aw X 1513 L [.int 1] (st9 I J b)) : ∀ (m n : Nat) (i : Int32) (I : Is) (J : Js) (b : Bool), i.toInt = (n : Int) → n ≤ 4000 → g_L (x_g X) ≤ n + m → Rel I J b → Aw X 18 (LwL i) [] (st9 I J b) := by
  intro m
  induction m with
  | zero => intro n i I J b hi hn hm hR; exact law_step C hx hL hend hi hn hR (fun h => absurd h (by omega))
  | succ m ih =>
    intro n i I J b hi hn hm hR
    refine law_step C hx hL hend hi hn hR (fun h I2 J2 b2 hR2 => ?_)
    refine r_iinc C (v := 6) dL_law_1506 rfl (by decide) rfl ?_
    refine r_goto C (tgt := 18) dL_law_1509 rfl ?_
    have z6 : (6 : Int32).toInt = 6 := rfl
    exact ih (n + 6) (i + 6) I2 J2 b2 (by rw [tI_add (by omega) (by omega), hi, z6]; rfl) (by omega) (by omega) hR2
set_option maxRecDepth 100000 in
theorem law_body {X : Cx} (C : Ok X RL cL_law 4 100 91) (hx : x_n X = 0) (hL : g_L (x_g X) ≤ 3072) (hend : ∀ (L : List (Option Value)) (I : Is) (J : Js) (b : Bool), L.length = 4 → Aw X 1513 L [.int 1] (st9 I J b)) : Aw X 0 [some (.ref 1005), none, none, none] [] (0, i0_, j0_, r0_) := by
  refine r_new C (c := 9) (by decide) rfl (by rw [hx]; exact Nat.le_refl _) (by decide) (by decide) klL_7 nw9 ni9 dL_law_0 (fun _ => rfl) (fun _ => rfl) ?_
  refine r_dup C dL_law_3 rfl ?_
  refine r_callI C rfl (sK_0 (d := 99) (by decide)) moX9_init mlL_9 miX9_init rfl dL_law_4 rfl rfl (by decide) (by rw [hx]; exact Nat.zero_le _) (by decide) (by decide) (by decide) rfl (by decide) (kc ?_)
  refine r_astore_n C dL_law_7 rfl rfl ?_
  refine r_new C (c := 10) (by decide) rfl (by rw [hx]; exact Nat.zero_le _) (by decide) (by decide) klL_10 nw10 ni10 dL_law_8 (fun _ => rfl) (fun _ => rfl) ?_
  refine r_dup C dL_law_11 rfl ?_
  refine r_callI C rfl (sK_64 (d := 99) (by decide)) moX10_init mlL_12 miX10_init rfl dL_law_12 rfl rfl (by decide) (by rw [hx]; exact Nat.zero_le _) (by decide) (by decide) (by decide) rfl (by decide) (kc ?_)
  refine r_astore_n C dL_law_15 rfl rfl ?_
  refine r_iconst C (v := 0) dL_law_16 (by decide) ?_
  refine r_istore_n C dL_law_17 rfl rfl ?_
  rw [rK_eq]
  exact law_loop C hx hL hend (g_L (x_g X)) 0 0 iK_64 j0_ false rfl (by omega) (by omega) rel_0
