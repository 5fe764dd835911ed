set_option maxRecDepth 100000 in
theorem sX9_more {g : Gb} {d : Nat} (hd : 8 ≤ d) (n w : Int32) (I : Is) (J : Js) (b : Bool) (hs0 : 0 ≤ (I 1 1).toInt) (hs3 : (I 1 1).toInt ≤ 3) (hNW : NW (I 1 1) (I 2)) (hTW : TW I b) (hv : VOk (gv I 16)) : MC9 g d mX9_more [.ref 0, .int n, .int w] I J b (Qi J b (fun v I' => (¬ (inR n 999 ∧ inR w 1) ∧ v = -1 ∧ I' = I) ∨ ((inR n 999 ∧ inR w 1) ∧ I 1 1 = 0 ∧ v = (if w = 0 then -2 else 0) ∧ I' = I) ∨ ((inR n 999 ∧ inR w 1) ∧ ¬ I 1 1 = 0 ∧ EqV (gv I' 32) (goF (en I b) (bit 7) (bit 0) (bit 0) (ix n) (bgF (gv I 16))) ∧ v = (if w = 0 then nI (bsF (I' 34) (I 1 1).toInt.toNat) else I' 34 (bsF (I' 34) (I 1 1).toInt.toNat) - lsF (I' 34) (I 1 1).toInt.toNat) ∧ Fr [32, 33, 34, 35, 36, 37, 14, 15] I I'))) := by
  refine ent9 (own := RX9) rfl rfl rfl (fun X hg hx C Z => ?_)
  subst hg
  refine r_iload_n C dX9_more_0 rfl ?_
  refine r_sipush C (v := 999) dX9_more_1 (by decide) ?_
  refine cS C hx (sX9_isWithin (d := d - 1) (by omega) _ _ I J b) moX9_isWithin mlX9_146 mtX9_isWithin dX9_more_4 rfl rfl (by omega) rfl rfl (kp ?_)
  refine z_ifeq C (tgt := 18) dX9_more_7 rfl (fun h7_2 => ?_) (fun h7_2 => ?_)
  · refine r_iconst C (v := -1) dX9_more_18 (by decide) ?_
    exact ri C Z dX9_more_19 (Or.inl ⟨fun z => absurd z.1 (by assumption), rfl, rfl⟩)
  · refine r_iload_n C dX9_more_10 rfl ?_
    refine r_iconst C (v := 1) dX9_more_11 (by decide) ?_
    refine cS C hx (sX9_isWithin (d := d - 1) (by omega) _ _ I J b) moX9_isWithin mlX9_146 mtX9_isWithin dX9_more_12 rfl rfl (by omega) rfl rfl (kp ?_)
    refine z_ifne C (tgt := 20) dX9_more_15 rfl (fun h15_4 => ?_) (fun h15_4 => ?_)
    · have hin : inR n 999 ∧ inR w 1 := ⟨by assumption, by assumption⟩
      refine r_aload_n C dX9_more_20 rfl ?_
      refine r_getR C flX9_10 dX9_more_21 rfl rfl rfl ?_
      refine r_getI C flX9_82 dX9_more_24 rfl rfl ?_
      refine r_ifne C (tgt := 41) dX9_more_27 rfl (fun h27_5 => ?_) (fun h27_5 => ?_)
      · have h0 : ¬ I 1 1 = 0 := by assumption
        have hs1 : 1 ≤ (I 1 1).toInt := by
          have := ne_int h0
          have e0 : (0 : Int32).toInt = 0 := rfl
          omega
        obtain ⟨N, hN, rfl⟩ := nI_get (n := 1000) hin.1.1 (by have := hin.1.2; omega) (by decide)
        have Nx : ix (nI N) = N := nIix (by omega)
        refine r_aload_n C dX9_more_41 rfl ?_
        refine r_getR C flX9_49 dX9_more_42 rfl rfl rfl ?_
        refine r_iload_n C dX9_more_45 rfl ?_
        refine cV (ci := 8) C hx (sX8_after (d := d - 1) (by omega) N (by omega) I J b hNW hTW hv) moX8_after mlX9_152 miX8_after msX8_after dX9_more_46 rfl rfl rfl rfl rfl (by omega) rfl rfl (kr (fun t_46_6 I_46_6 q_46_6 => ?_))
        obtain ⟨rfl, hE, hF⟩ := q_46_6
        have h11 : I_46_6 1 1 = I 1 1 := congrFun (hF 1 (by decide)) 1
        have hbs := bsF_lt (I_46_6 34) (I 1 1).toInt.toNat
        have hbx : ix (nI (bsF (I_46_6 34) (I 1 1).toInt.toNat)) = bsF (I_46_6 34) (I 1 1).toInt.toNat := nIix (by omega)
        refine r_astore_n C dX9_more_49 rfl rfl ?_
        refine r_aload_n C dX9_more_50 rfl ?_
        refine cV (ci := 1) C hx (sX1_mostGot (d := d - 1) (by omega) _ J b (I 1 1).toInt.toNat (by rw [h11]; omega) (by omega)) moX1_mostGot mlX9_162 miX1_mostGot msX1_mostGot dX9_more_51 rfl rfl rfl rfl rfl (by omega) rfl rfl (kp ?_)
        refine r_istore C dX9_more_54 rfl rfl ?_
        refine r_iload_n C dX9_more_56 rfl ?_
        refine r_ifne C (tgt := 65) dX9_more_57 rfl (fun h57_8 => ?_) (fun h57_8 => ?_)
        · refine r_aload_n C dX9_more_65 rfl ?_
          refine r_getR C flX9_165 dX9_more_66 rfl rfl rfl ?_
          refine r_iload C dX9_more_69 rfl ?_
          refine r_iald C rfl dX9_more_71 (vin (by rw [nIint (by omega)]; omega) (show (nI _).toInt < 3 by rw [nIint (by omega)]; omega)) ?_
          rw [hbx]
          refine r_aload_n C dX9_more_72 rfl ?_
          refine cV (ci := 1) C hx (sX1_leastGot (d := d - 1) (by omega) _ J b (I 1 1).toInt.toNat (by rw [h11]; omega) (by omega) (by omega)) moX1_leastGot mlX9_168 miX1_leastGot msX1_leastGot dX9_more_73 rfl rfl rfl rfl rfl (by omega) rfl rfl (kp ?_)
          refine r_isub C dX9_more_76 ?_
          exact ri C Z dX9_more_77 (Or.inr (Or.inr ⟨hin, h0, by rw [Nx]; exact hE, (if_neg (by assumption)).symm, hF⟩))
        · refine r_iload C dX9_more_60 rfl ?_
          refine r_goto C (tgt := 77) dX9_more_62 rfl ?_
          exact ri C Z dX9_more_77 (Or.inr (Or.inr ⟨hin, h0, by rw [Nx]; exact hE, (if_pos (by assumption)).symm, hF⟩))
      · refine r_iload_n C dX9_more_30 rfl ?_
        refine r_ifne C (tgt := 39) dX9_more_31 rfl (fun h31_10 => ?_) (fun h31_10 => ?_)
        · refine r_iconst C (v := 0) dX9_more_39 (by decide) ?_
          exact ri C Z dX9_more_40 (Or.inr (Or.inl ⟨hin, by assumption, (if_neg (by assumption)).symm, rfl⟩))
        · refine r_bipush C (v := -2) dX9_more_34 (by decide) ?_
          refine r_goto C (tgt := 40) dX9_more_36 rfl ?_
          exact ri C Z dX9_more_40 (Or.inr (Or.inl ⟨hin, by assumption, (if_pos (by assumption)).symm, rfl⟩))
    · refine r_iconst C (v := -1) dX9_more_18 (by decide) ?_
      exact ri C Z dX9_more_19 (Or.inl ⟨fun z => absurd z.2 (by assumption), rfl, rfl⟩)
set_option maxRecDepth 100000 in
theorem sX9_row {g : Gb} {d : Nat} (hd : 2 ≤ d) (k so n : Int32) (I : Is) (J : Js) (b : Bool) : MC9 g d mX9_row [.ref 0, .int k, .int so, .int n] I J b (Qg (fun r I' J' b' => (¬ (inR k 5 ∧ inR so 4 ∧ n.toInt ≤ 60) ∧ r = some (.int (-1)) ∧ I' = I ∧ J' = J ∧ b' = b) ∨ ((inR k 5 ∧ inR so 4 ∧ n.toInt ≤ 60) ∧ n.toInt < 0 ∧ r = some (.int (-14)) ∧ I' = I ∧ J' = J ∧ b' = b) ∨ ((inR k 5 ∧ inR so 4 ∧ n.toInt ≤ 60) ∧ 0 ≤ n.toInt ∧ r = some (.int 1) ∧ b' = b ∧ I' = u2 (u2 I (shT k) 0 so) (shT k) 1 n ∧ (∀ q, q < 60 → J' (shT k + 1) q = 0) ∧ ∀ c, c ≠ shT k + 1 → J' c = J c))) := by
  refine ent9 (own := RX9) rfl rfl rfl (fun X hg hx C Z => ?_)
  subst hg
  refine r_iload_n C dX9_row_0 rfl ?_
  refine cS C hx (sX9_isShelf (d := d - 1) (by omega) _ I J b) moX9_isShelf mlX9_94 mtX9_isShelf dX9_row_1 rfl rfl (by omega) rfl rfl (kp ?_)
  refine z_ifeq C (tgt := 21) dX9_row_4 rfl (fun h4_2 => ?_) (fun h4_2 => ?_)
  · refine r_iconst C (v := -1) dX9_row_21 (by decide) ?_
    exact rgi C Z dX9_row_22 (Or.inl ⟨fun z => absurd z.1 (by assumption), rfl, rfl, rfl, rfl⟩)
  · refine r_iload_n C dX9_row_7 rfl ?_
    refine r_iconst C (v := 4) dX9_row_8 (by decide) ?_
    refine cS C hx (sX9_isWithin (d := d - 1) (by omega) _ _ I J b) moX9_isWithin mlX9_146 mtX9_isWithin dX9_row_9 rfl rfl (by omega) rfl rfl (kp ?_)
    refine z_ifeq C (tgt := 21) dX9_row_12 rfl (fun h12_4 => ?_) (fun h12_4 => ?_)
    · refine r_iconst C (v := -1) dX9_row_21 (by decide) ?_
      exact rgi C Z dX9_row_22 (Or.inl ⟨fun z => absurd z.2.1 (by assumption), rfl, rfl, rfl, rfl⟩)
    · refine r_iload_n C dX9_row_15 rfl ?_
      refine r_bipush C (v := 60) dX9_row_16 (by decide) ?_
      refine b_icle C (tgt := 23) (my := 60) rfl rfl dX9_row_18 rfl (fun h18_5 => ?_) (fun h18_5 => ?_)
      · have hin : inR k 5 ∧ inR so 4 ∧ n.toInt ≤ 60 := ⟨by assumption, by assumption, by omega⟩
        refine r_iload_n C dX9_row_23 rfl ?_
        refine b_ifge C (tgt := 30) dX9_row_24 rfl (fun h24_6 => ?_) (fun h24_6 => ?_)
        · have hsh : inR k 5 := hin.1
          obtain ⟨h51, hT⟩ := sh_at b hsh
          obtain ⟨hc4, hr3, hc21, hl60⟩ := sh_all hT b
          refine r_aload_n C dX9_row_30 rfl ?_
          refine r_getR C flX9_69 dX9_row_31 rfl rfl rfl ?_
          refine r_iload_n C dX9_row_34 rfl ?_
          refine r_qald C rfl dX9_row_35 (vin hsh.1 (show k.toInt < 6 by have := hsh.2; omega)) h51 ?_
          refine r_iload_n C dX9_row_36 rfl ?_
          refine r_iload_n C dX9_row_37 rfl ?_
          refine cV (ci := 4) C hx (sX4_holdRow (d := d - 1) (by omega) (shT k) hT so n I J b) moX4_holdRow mlX9_279 miX4_holdRow msX4_holdRow dX9_row_38 rfl rfl hc4 rfl rfl (by omega) rfl rfl (kg (fun v_38_7 I_38_7 J_38_7 b_38_7 q_38_7 => ?_))
          obtain ⟨rfl, hb, hI, hj1, hj2⟩ := q_38_7
          refine r_iconst C (v := 1) dX9_row_41 (by decide) ?_
          exact rgi C Z dX9_row_42 (Or.inr (Or.inr ⟨hin, by omega, rfl, hb, hI, hj1, hj2⟩))
        · refine r_bipush C (v := -14) dX9_row_27 (by decide) ?_
          exact rgi C Z dX9_row_29 (Or.inr (Or.inl ⟨hin, by omega, rfl, rfl, rfl, rfl⟩))
      · refine r_iconst C (v := -1) dX9_row_21 (by decide) ?_
        exact rgi C Z dX9_row_22 (Or.inl ⟨fun z => by have := z.2.2; omega, rfl, rfl, rfl, rfl⟩)
