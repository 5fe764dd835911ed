/-- a row moved down by one place -/
def dnF (r : Nat → Int32) (k : Nat) : Int32 := if k < 39 then r (k + 1) else r k
theorem cpy_dn (r : Nat → Int32) (k : Nat) : va_cpy r r 1 0 39 k = dnF r k := by
  unfold va_cpy dnF
  by_cases h : k < 39
  · rw [if_pos ⟨Nat.zero_le _, by omega⟩, if_pos h]
    exact congrArg r (by omega)
  · rw [if_neg (fun z => h (by omega)), if_neg h]
set_option maxRecDepth 100000 in
theorem sX0_forgetOldest {g : Gb} {d : Nat} (hd : 1 ≤ d) (I : Is) (J : Js) (b : Bool) : MC9 g d mX0_forgetOldest [.ref 44] I J b (Qv J b (fun I' => (∀ k, I' 45 k = dnF (I 45) k) ∧ (∀ k, I' 46 k = dnF (I 46) k) ∧ (∀ k, I' 47 k = dnF (I 47) k) ∧ I' 44 1 = 39 ∧ Fr [44, 45, 46, 47] I I')) := by
  refine ent9 (own := RX0) rfl rfl rfl (fun X hg hx C Z => ?_)
  subst hg
  refine r_aload_n C dX0_forgetOldest_0 rfl ?_
  refine r_getR C flX0_9 dX0_forgetOldest_1 rfl rfl rfl ?_
  refine r_iconst C (v := 1) dX0_forgetOldest_4 (by decide) ?_
  refine r_aload_n C dX0_forgetOldest_5 rfl ?_
  refine r_getR C flX0_9 dX0_forgetOldest_6 rfl rfl rfl ?_
  refine r_iconst C (v := 0) dX0_forgetOldest_9 (by decide) ?_
  refine r_bipush C (v := 39) dX0_forgetOldest_10 (by decide) ?_
  refine r_copyi C (a := 45) (t := 45) rfl rfl (by decide) (by decide) (by decide) (by decide) (by decide) mlX0_29 dX0_forgetOldest_12 (by omega) rfl (Nat.le_of_ble_eq_true rfl) ?_
  refine r_aload_n C dX0_forgetOldest_15 rfl ?_
  refine r_getR C flX0_13 dX0_forgetOldest_16 rfl rfl rfl ?_
  refine r_iconst C (v := 1) dX0_forgetOldest_19 (by decide) ?_
  refine r_aload_n C dX0_forgetOldest_20 rfl ?_
  refine r_getR C flX0_13 dX0_forgetOldest_21 rfl rfl rfl ?_
  refine r_iconst C (v := 0) dX0_forgetOldest_24 (by decide) ?_
  refine r_bipush C (v := 39) dX0_forgetOldest_25 (by decide) ?_
  refine r_copyi C (a := 46) (t := 46) rfl rfl (by decide) (by decide) (by decide) (by decide) (by decide) mlX0_29 dX0_forgetOldest_27 (by omega) rfl (Nat.le_of_ble_eq_true rfl) ?_
  refine r_aload_n C dX0_forgetOldest_30 rfl ?_
  refine r_getR C flX0_16 dX0_forgetOldest_31 rfl rfl rfl ?_
  refine r_iconst C (v := 1) dX0_forgetOldest_34 (by decide) ?_
  refine r_aload_n C dX0_forgetOldest_35 rfl ?_
  refine r_getR C flX0_16 dX0_forgetOldest_36 rfl rfl rfl ?_
  refine r_iconst C (v := 0) dX0_forgetOldest_39 (by decide) ?_
  refine r_bipush C (v := 39) dX0_forgetOldest_40 (by decide) ?_
  refine r_copyi C (a := 47) (t := 47) rfl rfl (by decide) (by decide) (by decide) (by decide) (by decide) mlX0_29 dX0_forgetOldest_42 (by omega) rfl (Nat.le_of_ble_eq_true rfl) ?_
  refine r_aload_n C dX0_forgetOldest_45 rfl ?_
  refine r_bipush C (v := 39) dX0_forgetOldest_46 (by decide) ?_
  refine r_putI C flX0_19 dX0_forgetOldest_48 rfl rfl rfl rfl rfl ?_
  exact rv C Z dX0_forgetOldest_51 ⟨fun k => by
      rw [u2_row (by decide), cpy2_row (by decide), cpy2_row (by decide), cpy2_self]; exact cpy_dn _ k, fun k => by
      rw [u2_row (by decide), cpy2_row (by decide), cpy2_self, cpy2_row (by decide)]; exact cpy_dn _ k, fun k => by
      rw [u2_row (by decide), cpy2_self, cpy2_row (by decide), cpy2_row (by decide)]; exact cpy_dn _ k, by rw [u2_same], fun c hc => by
      rw [u2_row (fun e => hc (by rw [e]; decide)), cpy2_row (fun e => hc (by rw [e]; decide)), cpy2_row (fun e => hc (by rw [e]; decide)), cpy2_row (fun e => hc (by rw [e]; decide))]⟩
/-- how many changes stand before the new one is written -/
def dnD (d : Int32) : Int32 := if 40 ≤ d.toInt then 39 else d
def dnR (d : Int32) (r : Nat → Int32) (k : Nat) : Int32 := if 40 ≤ d.toInt then dnF r k else r k
set_option maxRecDepth 100000 in
set_option maxHeartbeats 400000 in
theorem sX0_note {g : Gb} {d : Nat} (hd : 2 ≤ d) (p w v : Int32) (I : Is) (J : Js) (b : Bool) (h0 : 0 ≤ (I 44 1).toInt) (h4 : (I 44 1).toInt ≤ 40) : MC9 g d mX0_note [.ref 44, .int p, .int w, .int v] I J b (Qv J b (fun I' => (∀ k, I' 45 k = if k = ix (dnD (I 44 1)) then p else dnR (I 44 1) (I 45) k) ∧ (∀ k, I' 46 k = if k = ix (dnD (I 44 1)) then w else dnR (I 44 1) (I 46) k) ∧ (∀ k, I' 47 k = if k = ix (dnD (I 44 1)) then v else dnR (I 44 1) (I 47) k) ∧ I' 44 1 = dnD (I 44 1) + 1 ∧ I' 44 0 = dnD (I 44 1) + 1 ∧ Fr [44, 45, 46, 47] I I')) := by
  refine ent9 (own := RX0) rfl rfl rfl (fun X hg hx C Z => ?_)
  subst hg
  have tail : ∀ (D : Int32) (I1 : Is), 0 ≤ D.toInt → D.toInt < 40 → I1 44 1 = D → D = dnD (I 44 1) → (∀ k, I1 45 k = dnR (I 44 1) (I 45) k) → (∀ k, I1 46 k = dnR (I 44 1) (I 46) k) → (∀ k, I1 47 k = dnR (I 44 1) (I 47) k) → Fr [44, 45, 46, 47] I I1 →
      Aw X 13 [some (.ref 44), some (.int p), some (.int w), some (.int v)] [] (st9 I1 J b) := by
    intro D I1 hD0 hD4 hD hDd a5 a6 a7 hF
    rw [← hDd] at Z
    refine r_aload_n C dX0_note_13 rfl ?_
    refine r_getR C flX0_9 dX0_note_14 rfl rfl rfl ?_
    refine r_aload_n C dX0_note_17 rfl ?_
    refine r_getI C flX0_19 dX0_note_18 rfl rfl ?_
    refine r_iload_n C dX0_note_21 rfl ?_
    refine r_iast C rfl dX0_note_22 (by rw [hD]; exact vin hD0 hD4) ?_
    rw [hD]
    refine r_aload_n C dX0_note_23 rfl ?_
    refine r_getR C flX0_13 dX0_note_24 rfl rfl rfl ?_
    refine r_aload_n C dX0_note_27 rfl ?_
    refine r_getI C flX0_19 dX0_note_28 rfl rfl ?_
    refine r_iload_n C dX0_note_31 rfl ?_
    refine r_iast C rfl dX0_note_32 (by rw [u2_row (by decide), hD]; exact vin hD0 hD4) ?_
    rw [u2_row (t' := 44) (by decide), hD]
    refine r_aload_n C dX0_note_33 rfl ?_
    refine r_getR C flX0_16 dX0_note_34 rfl rfl rfl ?_
    refine r_aload_n C dX0_note_37 rfl ?_
    refine r_getI C flX0_19 dX0_note_38 rfl rfl ?_
    refine r_iload_n C dX0_note_41 rfl ?_
    refine r_iast C rfl dX0_note_42 (by rw [u2_row (by decide), u2_row (by decide), hD]; exact vin hD0 hD4) ?_
    rw [u2_row (t' := 44) (by decide), u2_row (t' := 44) (by decide), hD]
    refine r_aload_n C dX0_note_43 rfl ?_
    refine r_dup C dX0_note_44 rfl ?_
    refine r_getI C flX0_19 dX0_note_45 rfl rfl ?_
    refine r_iconst C (v := 1) dX0_note_48 (by decide) ?_
    refine r_iadd C dX0_note_49 ?_
    refine r_putI C flX0_19 dX0_note_50 rfl rfl rfl rfl rfl ?_
    refine r_aload_n C dX0_note_53 rfl ?_
    refine r_aload_n C dX0_note_54 rfl ?_
    refine r_getI C flX0_19 dX0_note_55 rfl rfl ?_
    refine r_putI C flX0_26 dX0_note_58 rfl rfl rfl rfl rfl ?_
    exact rv C Z dX0_note_61 ⟨fun k => by
      rw [u2_row (by decide), u2_row (by decide), u2_row (by decide), u2_row (by decide)]
      by_cases e : k = ix D
      · rw [e, u2_same, if_pos rfl]
      · rw [u2_ne _ _ _ _ (Or.inr e), if_neg e]; exact a5 k, fun k => by
      rw [u2_row (by decide), u2_row (by decide), u2_row (by decide)]
      by_cases e : k = ix D
      · rw [e, u2_same, if_pos rfl]
      · rw [u2_ne _ _ _ _ (Or.inr e), u2_row (by decide), if_neg e]; exact a6 k, fun k => by
      rw [u2_row (by decide), u2_row (by decide)]
      by_cases e : k = ix D
      · rw [e, u2_same, if_pos rfl]
      · rw [u2_ne _ _ _ _ (Or.inr e), u2_row (by decide), u2_row (by decide), if_neg e]; exact a7 k, by
      rw [u2_ne _ _ _ _ (Or.inr (by decide)), u2_same, u2_row (by decide), u2_row (by decide), u2_row (by decide), hD], by
      rw [u2_same, u2_same, u2_row (by decide), u2_row (by decide), u2_row (by decide), hD], (((((hF.st (by decide)).st (by decide)).st (by decide)).st (by decide)).st (by decide))⟩
  refine r_aload_n C dX0_note_0 rfl ?_
  refine r_getI C flX0_19 dX0_note_1 rfl rfl ?_
  refine r_bipush C (v := 40) dX0_note_4 (by decide) ?_
  refine b_iclt C (tgt := 13) (my := 40) rfl rfl dX0_note_6 rfl (fun h6_1 => ?_) (fun h6_1 => ?_)
  · have hlt : ¬ 40 ≤ (I 44 1).toInt := by omega
    exact tail (I 44 1) I h0 (by omega) rfl (if_neg hlt).symm (fun k => (if_neg hlt).symm) (fun k => (if_neg hlt).symm) (fun k => (if_neg hlt).symm) Fr.rf
  · refine r_aload_n C dX0_note_9 rfl ?_
    refine cV (ci := 0) C hx (sX0_forgetOldest (d := d - 1) (by omega) I J b) moX0_forgetOldest mlX0_23 miX0_forgetOldest msX0_forgetOldest dX0_note_10 rfl rfl rfl rfl rfl (by omega) rfl rfl (kv (fun I_10_2 q_10_2 => ?_))
    obtain ⟨a5, a6, a7, a1, aF⟩ := q_10_2
    have hge : 40 ≤ (I 44 1).toInt := by omega
    exact tail 39 _ (by decide) (by decide) a1 (if_pos hge).symm (fun k => (a5 k).trans (if_pos hge).symm) (fun k => (a6 k).trans (if_pos hge).symm) (fun k => (a7 k).trans (if_pos hge).symm) aF
set_option maxRecDepth 100000 in
theorem sX0_takeBack {g : Gb} {d : Nat} (hd : 0 ≤ d) (I : Is) (J : Js) (b : Bool) (h4 : (I 44 1).toInt ≤ 40) (hp : 0 < (I 44 1).toInt → vp_in (I 45 (ix (I 44 1 - 1))) 28) : MC9 g d mX0_takeBack [.ref 44, .ref 2] I J b (Qi J b (fun v I' => ((I 44 1).toInt ≤ 0 ∧ v = 0 ∧ I' = I) ∨ (0 < (I 44 1).toInt ∧ v = 1 ∧ I' = u2 (u2 I 44 1 (I 44 1 - 1)) 2 (ix (I 45 (ix (I 44 1 - 1)))) (I 46 (ix (I 44 1 - 1)))))) := by
  refine ent9 (own := RX0) rfl rfl rfl (fun X hg hx C Z => ?_)
  subst hg
  refine r_aload_n C dX0_takeBack_0 rfl ?_
  refine r_getI C flX0_19 dX0_takeBack_1 rfl rfl ?_
  refine b_ifgt C (tgt := 9) dX0_takeBack_4 rfl (fun h4_1 => ?_) (fun h4_1 => ?_)
  · have hv4 : vp_in (I 44 1 - 1) 40 := (by have e := tI_sub (x := I 44 1) (y := 1) (by rw [one_int]; omega) (by rw [one_int]; omega); rw [one_int] at e; exact vin (by omega) (by omega))
    refine r_aload_n C dX0_takeBack_9 rfl ?_
    refine r_dup C dX0_takeBack_10 rfl ?_
    refine r_getI C flX0_19 dX0_takeBack_11 rfl rfl ?_
    refine r_iconst C (v := 1) dX0_takeBack_14 (by decide) ?_
    refine r_isub C dX0_takeBack_15 ?_
    refine r_putI C flX0_19 dX0_takeBack_16 rfl rfl rfl rfl rfl ?_
    refine r_aload_n C dX0_takeBack_19 rfl ?_
    refine r_aload_n C dX0_takeBack_20 rfl ?_
    refine r_getR C flX0_9 dX0_takeBack_21 rfl rfl rfl ?_
    refine r_aload_n C dX0_takeBack_24 rfl ?_
    refine r_getI C flX0_19 dX0_takeBack_25 rfl rfl ?_
    refine r_iald C rfl dX0_takeBack_28 (by rw [u2_same]; exact hv4) ?_
    refine r_aload_n C dX0_takeBack_29 rfl ?_
    refine r_getR C flX0_13 dX0_takeBack_30 rfl rfl rfl ?_
    refine r_aload_n C dX0_takeBack_33 rfl ?_
    refine r_getI C flX0_19 dX0_takeBack_34 rfl rfl ?_
    refine r_iald C rfl dX0_takeBack_37 (by rw [u2_same]; exact hv4) ?_
    refine r_iast C rfl dX0_takeBack_38 (by rw [u2_same, u2_row (by decide)]; exact hp (by assumption)) ?_
    refine r_iconst C (v := 1) dX0_takeBack_39 (by decide) ?_
    exact riz C Z dX0_takeBack_40 rfl (Or.inr ⟨by assumption, rfl, by rw [u2_same, u2_row (t' := 45) (by decide), u2_row (t' := 46) (by decide)]⟩)
  · refine r_iconst C (v := 0) dX0_takeBack_7 (by decide) ?_
    exact riz C Z dX0_takeBack_8 rfl (Or.inl ⟨by assumption, rfl, rfl⟩)
set_option maxRecDepth 100000 in
theorem sX0_doAgain {g : Gb} {d : Nat} (hd : 0 ≤ d) (I : Is) (J : Js) (b : Bool) (h0 : 0 ≤ (I 44 1).toInt) (h4 : (I 44 0).toInt ≤ 40) (hp : (I 44 1).toInt < (I 44 0).toInt → vp_in (I 45 (ix (I 44 1))) 28) : MC9 g d mX0_doAgain [.ref 44, .ref 2] I J b (Qi J b (fun v I' => ((I 44 0).toInt ≤ (I 44 1).toInt ∧ v = 0 ∧ I' = I) ∨ ((I 44 1).toInt < (I 44 0).toInt ∧ v = 1 ∧ I' = u2 (u2 I 2 (ix (I 45 (ix (I 44 1)))) (I 47 (ix (I 44 1)))) 44 1 (I 44 1 + 1)))) := by
  refine ent9 (own := RX0) rfl rfl rfl (fun X hg hx C Z => ?_)
  subst hg
  refine r_aload_n C dX0_doAgain_0 rfl ?_
  refine r_getI C flX0_19 dX0_doAgain_1 rfl rfl ?_
  refine r_aload_n C dX0_doAgain_4 rfl ?_
  refine r_getI C flX0_26 dX0_doAgain_5 rfl rfl ?_
  refine b_iclt C (tgt := 13) rfl rfl dX0_doAgain_8 rfl (fun h8_1 => ?_) (fun h8_1 => ?_)
  · have hv4 : vp_in (I 44 1) 40 := vin h0 (by omega)
    refine r_aload_n C dX0_doAgain_13 rfl ?_
    refine r_aload_n C dX0_doAgain_14 rfl ?_
    refine r_getR C flX0_9 dX0_doAgain_15 rfl rfl rfl ?_
    refine r_aload_n C dX0_doAgain_18 rfl ?_
    refine r_getI C flX0_19 dX0_doAgain_19 rfl rfl ?_
    refine r_iald C rfl dX0_doAgain_22 hv4 ?_
    refine r_aload_n C dX0_doAgain_23 rfl ?_
    refine r_getR C flX0_16 dX0_doAgain_24 rfl rfl rfl ?_
    refine r_aload_n C dX0_doAgain_27 rfl ?_
    refine r_getI C flX0_19 dX0_doAgain_28 rfl rfl ?_
    refine r_iald C rfl dX0_doAgain_31 hv4 ?_
    refine r_iast C rfl dX0_doAgain_32 (hp (by assumption)) ?_
    refine r_aload_n C dX0_doAgain_33 rfl ?_
    refine r_dup C dX0_doAgain_34 rfl ?_
    refine r_getI C flX0_19 dX0_doAgain_35 rfl rfl ?_
    refine r_iconst C (v := 1) dX0_doAgain_38 (by decide) ?_
    refine r_iadd C dX0_doAgain_39 ?_
    refine r_putI C flX0_19 dX0_doAgain_40 rfl rfl rfl rfl rfl ?_
    refine r_iconst C (v := 1) dX0_doAgain_43 (by decide) ?_
    exact riz C Z dX0_doAgain_44 rfl (Or.inr ⟨by assumption, rfl, by rw [u2_row (t' := 44) (by decide)]⟩)
  · refine r_iconst C (v := 0) dX0_doAgain_11 (by decide) ?_
    exact riz C Z dX0_doAgain_12 rfl (Or.inl ⟨by assumption, rfl, rfl⟩)
set_option maxRecDepth 100000 in
theorem sX4_clear {g : Gb} {d : Nat} (hd : 0 ≤ d) (t : Nat) (ht : isSh t) (I : Is) (J : Js) (b : Bool) : MC9 g d mX4_clear [.ref t] I J b (Qv J b (fun I' => I' = u2 (u2 I t 0 (-2)) t 1 0)) := by
  obtain ⟨hc4, hr3, hc21, hl60⟩ := sh_all ht b
  refine ent9 (own := RX4) rfl rfl rfl (fun X hg hx C Z => ?_)
  subst hg
  refine r_aload_n C dX4_clear_0 rfl ?_
  refine r_bipush C (v := -2) dX4_clear_1 (by decide) ?_
  refine r_putI C flX4_9 dX4_clear_3 hc4 rfl rfl rfl rfl ?_
  refine r_aload_n C dX4_clear_6 rfl ?_
  refine r_iconst C (v := 0) dX4_clear_7 (by decide) ?_
  refine r_putI C flX4_19 dX4_clear_8 hc4 rfl rfl rfl rfl ?_
  exact rv C Z dX4_clear_11 rfl
set_option maxRecDepth 100000 in
theorem sX4_holdSip {g : Gb} {d : Nat} (hd : 0 ≤ d) (t : Nat) (ht : isSh t) (v : Int32) (I : Is) (J : Js) (b : Bool) : MC9 g d mX4_holdSip [.ref t, .int v] I J b (Qv J b (fun I' => I' = u2 (u2 (u2 I t 0 (-1)) t 1 0) t 2 v)) := by
  obtain ⟨hc4, hr3, hc21, hl60⟩ := sh_all ht b
  refine ent9 (own := RX4) rfl rfl rfl (fun X hg hx C Z => ?_)
  subst hg
  refine r_aload_n C dX4_holdSip_0 rfl ?_
  refine r_iconst C (v := -1) dX4_holdSip_1 (by decide) ?_
  refine r_putI C flX4_9 dX4_holdSip_2 hc4 rfl rfl rfl rfl ?_
  refine r_aload_n C dX4_holdSip_5 rfl ?_
  refine r_iconst C (v := 0) dX4_holdSip_6 (by decide) ?_
  refine r_putI C flX4_19 dX4_holdSip_7 hc4 rfl rfl rfl rfl ?_
  refine r_aload_n C dX4_holdSip_10 rfl ?_
  refine r_iload_n C dX4_holdSip_11 rfl ?_
  refine r_putI C flX4_22 dX4_holdSip_12 hc4 rfl rfl rfl rfl ?_
  exact rv C Z dX4_holdSip_15 rfl
