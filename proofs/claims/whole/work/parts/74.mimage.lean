set_option maxRecDepth 100000 in
set_option maxHeartbeats 400000 in
theorem sX10_fill {g : Gb} {d : Nat} (hd : 1 ≤ d) (v : Int32) (I : Is) (J : Js) (b : Bool) : MC9 g d mX10_fill [.ref 64, .int v] I J b (Qi J b (fun r I' => (¬ inR v 999 ∧ r = -1 ∧ I' = I) ∨ (inR v 999 ∧ r = I 64 7 ∧ (I' 64 7 = v ∧ I' 64 9 = 0 ∧ (∀ k, k < 3 → I' 69 k = 0) ∧ I' 64 39 = I 64 39 + 1 ∧ FrM [69] [7, 9, 39] I I')))) := by
  refine ent9 (own := RX10) rfl rfl rfl (fun X hg hx C Z => ?_)
  subst hg
  refine r_iload_n C dX10_fill_0 rfl ?_
  refine r_i2l C dX10_fill_1 ?_
  refine r_lconst C (v := 0) dX10_fill_2 (by decide) ?_
  refine r_ldc2 C kkX10_113 dX10_fill_3 ?_
  refine cS C hx (sWi (d := d - 1) _ (lo := 0) (hi := 999) rfl rfl I J b) moX10_within mlX10_105 mtX10_within dX10_fill_6 rfl rfl (by omega) rfl rfl (kp ?_)
  refine z_ifne C (tgt := 14) dX10_fill_9 rfl (fun h9_2 => ?_) (fun h9_2 => ?_)
  · refine r_aload_n C dX10_fill_14 rfl ?_
    refine r_getI C flX10_93 dX10_fill_15 rfl rfl ?_
    refine r_istore_n C dX10_fill_18 rfl rfl ?_
    refine r_aload_n C dX10_fill_19 rfl ?_
    refine r_iload_n C dX10_fill_20 rfl ?_
    refine r_putI C flX10_93 dX10_fill_21 rfl rfl rfl rfl rfl ?_
    refine r_aload_n C dX10_fill_24 rfl ?_
    refine r_iconst C (v := 0) dX10_fill_25 (by decide) ?_
    refine r_putI C flX10_160 dX10_fill_26 rfl rfl rfl rfl rfl ?_
    refine r_iconst C (v := 0) dX10_fill_29 (by decide) ?_
    refine r_istore_n C dX10_fill_30 rfl rfl ?_
    refine r_iload_n C dX10_fill_31 rfl ?_
    refine r_iconst C (v := 3) dX10_fill_32 (by decide) ?_
    refine b_icge C (tgt := 49) (my := 3) rfl rfl dX10_fill_33 rfl (fun h33_3 => ?_) (fun h33_3 => ?_)
    · exact absurd (show (3 : Int) ≤ ((0 : Int32)).toInt by assumption) (by decide)
    · refine r_aload_n C dX10_fill_36 rfl ?_
      refine r_getR C flX10_22 dX10_fill_37 rfl rfl rfl ?_
      refine r_iload_n C dX10_fill_40 rfl ?_
      refine r_iconst C (v := 0) dX10_fill_41 (by decide) ?_
      refine r_iast C rfl dX10_fill_42 (vin (by decide) (by decide)) ?_
      refine r_iinc C (v := 1) dX10_fill_43 rfl (by decide) rfl ?_
      refine r_goto C (tgt := 31) dX10_fill_46 rfl ?_
      refine r_iload_n C dX10_fill_31 rfl ?_
      refine r_iconst C (v := 3) dX10_fill_32 (by decide) ?_
      refine b_icge C (tgt := 49) (my := 3) rfl rfl dX10_fill_33 rfl (fun h33_4 => ?_) (fun h33_4 => ?_)
      · exact absurd (show (3 : Int) ≤ ((0 + 1 : Int32)).toInt by assumption) (by decide)
      · refine r_aload_n C dX10_fill_36 rfl ?_
        refine r_getR C flX10_22 dX10_fill_37 rfl rfl rfl ?_
        refine r_iload_n C dX10_fill_40 rfl ?_
        refine r_iconst C (v := 0) dX10_fill_41 (by decide) ?_
        refine r_iast C rfl dX10_fill_42 (vin (by decide) (by decide)) ?_
        refine r_iinc C (v := 1) dX10_fill_43 rfl (by decide) rfl ?_
        refine r_goto C (tgt := 31) dX10_fill_46 rfl ?_
        refine r_iload_n C dX10_fill_31 rfl ?_
        refine r_iconst C (v := 3) dX10_fill_32 (by decide) ?_
        refine b_icge C (tgt := 49) (my := 3) rfl rfl dX10_fill_33 rfl (fun h33_5 => ?_) (fun h33_5 => ?_)
        · exact absurd (show (3 : Int) ≤ ((0 + 1 + 1 : Int32)).toInt by assumption) (by decide)
        · refine r_aload_n C dX10_fill_36 rfl ?_
          refine r_getR C flX10_22 dX10_fill_37 rfl rfl rfl ?_
          refine r_iload_n C dX10_fill_40 rfl ?_
          refine r_iconst C (v := 0) dX10_fill_41 (by decide) ?_
          refine r_iast C rfl dX10_fill_42 (vin (by decide) (by decide)) ?_
          refine r_iinc C (v := 1) dX10_fill_43 rfl (by decide) rfl ?_
          refine r_goto C (tgt := 31) dX10_fill_46 rfl ?_
          refine r_iload_n C dX10_fill_31 rfl ?_
          refine r_iconst C (v := 3) dX10_fill_32 (by decide) ?_
          refine b_icge C (tgt := 49) (my := 3) rfl rfl dX10_fill_33 rfl (fun h33_6 => ?_) (fun h33_6 => ?_)
          · refine r_aload_n C dX10_fill_49 rfl ?_
            refine r_dup C dX10_fill_50 rfl ?_
            refine r_getI C flX10_304 dX10_fill_51 rfl rfl ?_
            refine r_iconst C (v := 1) dX10_fill_54 (by decide) ?_
            refine r_iadd C dX10_fill_55 ?_
            refine r_putI C flX10_304 dX10_fill_56 rfl rfl rfl rfl rfl ?_
            refine r_iload_n C dX10_fill_59 rfl ?_
            exact ri C Z dX10_fill_60 (Or.inr ⟨by assumption, rfl, rfl, rfl, (fun k hk => by rcases (show k = 0 ∨ k = 1 ∨ k = 2 by omega) with rfl | rfl | rfl <;> rfl), rfl, (((((FrM.rf.sf (by decide)).sf (by decide)).st (by decide) (by decide)).st (by decide) (by decide)).st (by decide) (by decide)).sf (by decide)⟩)
          · exact absurd (show ((0 + 1 + 1 + 1 : Int32)).toInt < (3 : Int) by assumption) (by decide)
  · refine r_iconst C (v := -1) dX10_fill_12 (by decide) ?_
    exact ri C Z dX10_fill_13 (Or.inl ⟨by assumption, rfl, rfl⟩)
def icM (I : Is) (v : Int32) : Int32 × Is := if v.toInt < 1 ∨ 99 < v.toInt then (-1, I) else if 99 < (I 64 8 + v).toInt then (-5, I) else (I 64 8 + v, u2 I 64 8 (I 64 8 + v))
set_option maxRecDepth 100000 in
theorem sX10_ice {g : Gb} {d : Nat} (hd : 1 ≤ d) (v : Int32) (I : Is) (J : Js) (b : Bool) : MC9 g d mX10_ice [.ref 64, .int v] I J b (Qi J b (fun r I' => r = (icM I v).1 ∧ I' = (icM I v).2)) := by
  refine ent9 (own := RX10) rfl rfl rfl (fun X hg hx C Z => ?_)
  subst hg
  refine r_iload_n C dX10_ice_0 rfl ?_
  refine r_i2l C dX10_ice_1 ?_
  refine r_lconst C (v := 1) dX10_ice_2 (by decide) ?_
  refine r_ldc2 C kkX10_137 dX10_ice_3 ?_
  refine cS C hx (sWi (d := d - 1) _ (lo := 1) (hi := 99) rfl rfl I J b) moX10_within mlX10_105 mtX10_within dX10_ice_6 rfl rfl (by omega) rfl rfl (kp ?_)
  refine z_ifne C (tgt := 14) dX10_ice_9 rfl (fun h9_2 => ?_) (fun h9_2 => ?_)
  · refine r_aload_n C dX10_ice_14 rfl ?_
    refine r_getI C flX10_157 dX10_ice_15 rfl rfl ?_
    refine r_iload_n C dX10_ice_18 rfl ?_
    refine r_iadd C dX10_ice_19 ?_
    refine r_bipush C (v := 99) dX10_ice_20 (by decide) ?_
    refine b_icle C (tgt := 28) (my := 99) rfl rfl dX10_ice_22 rfl (fun h22_3 => ?_) (fun h22_3 => ?_)
    · refine r_aload_n C dX10_ice_28 rfl ?_
      refine r_dup C dX10_ice_29 rfl ?_
      refine r_getI C flX10_157 dX10_ice_30 rfl rfl ?_
      refine r_iload_n C dX10_ice_33 rfl ?_
      refine r_iadd C dX10_ice_34 ?_
      refine r_putI C flX10_157 dX10_ice_35 rfl rfl rfl rfl rfl ?_
      refine r_aload_n C dX10_ice_38 rfl ?_
      refine r_getI C flX10_157 dX10_ice_39 rfl rfl ?_
      exact ri C Z dX10_ice_42 (show _ ∧ _ from by unfold icM; rw [if_neg (by omega), if_neg (by omega), u2_same]; exact ⟨rfl, rfl⟩)
    · refine r_bipush C (v := -5) dX10_ice_25 (by decide) ?_
      exact ri C Z dX10_ice_27 (show _ ∧ _ from by unfold icM; rw [if_neg (by omega), if_pos (by omega)]; exact ⟨rfl, rfl⟩)
  · refine r_iconst C (v := -1) dX10_ice_12 (by decide) ?_
    exact ri C Z dX10_ice_13 (show _ ∧ _ from by unfold icM; rw [if_pos (by omega)]; exact ⟨rfl, rfl⟩)
def leM (I : Is) (k w : Int32) : Int32 := if inR w 2 then (if inM I k then (if w = 0 then I 81 (ix k) else if w = 1 then I 82 (ix k) else I 83 (ix k)) else -1) else if k = 0 ∧ w = 3 then I 64 38 else if k = 0 ∧ w = 4 then I 64 39 else -1
set_option maxRecDepth 100000 in
theorem sX10_led {g : Gb} {d : Nat} (hd : 2 ≤ d) (k w : Int32) (I : Is) (J : Js) (b : Bool) (hs0 : 0 ≤ (I 64 6).toInt) (hs3 : (I 64 6).toInt ≤ 3) : MC9 g d mX10_led [.ref 64, .int k, .int w] I J b (Qp (leM I k w) I J b) := by
  refine ent9 (own := RX10) rfl rfl rfl (fun X hg hx C Z => ?_)
  subst hg
  refine r_iload_n C dX10_led_0 rfl ?_
  refine r_i2l C dX10_led_1 ?_
  refine r_lconst C (v := 0) dX10_led_2 (by decide) ?_
  refine r_ldc2 C kkX10_256 dX10_led_3 ?_
  refine cS C hx (sWi (d := d - 1) _ (lo := 0) (hi := 2) rfl rfl I J b) moX10_within mlX10_105 mtX10_within dX10_led_6 rfl rfl (by omega) rfl rfl (kp ?_)
  refine z_ifeq C (tgt := 58) dX10_led_9 rfl (fun h9_2 => ?_) (fun h9_2 => ?_)
  · refine r_iload_n C dX10_led_58 rfl ?_
    refine r_ifne C (tgt := 74) dX10_led_59 rfl (fun h59_3 => ?_) (fun h59_3 => ?_)
    · refine r_iload_n C dX10_led_74 rfl ?_
      refine r_ifne C (tgt := 90) dX10_led_75 rfl (fun h75_4 => ?_) (fun h75_4 => ?_)
      · refine r_iconst C (v := -1) dX10_led_90 (by decide) ?_
        exact rp C Z dX10_led_91 (by unfold leM; exact ((if_neg (by assumption)).trans ((if_neg (fun z => absurd z.1 (by assumption))).trans (if_neg (fun z => absurd z.1 (by assumption))))).symm)
      · exact absurd (show k = 0 by assumption) (by assumption)
    · refine r_iload_n C dX10_led_62 rfl ?_
      refine r_iconst C (v := 3) dX10_led_63 (by decide) ?_
      refine r_icne C (tgt := 74) dX10_led_64 rfl (fun h64_5 => ?_) (fun h64_5 => ?_)
      · refine r_iload_n C dX10_led_74 rfl ?_
        refine r_ifne C (tgt := 90) dX10_led_75 rfl (fun h75_6 => ?_) (fun h75_6 => ?_)
        · exact absurd (show k = 0 by assumption) (by assumption)
        · refine r_iload_n C dX10_led_78 rfl ?_
          refine r_iconst C (v := 4) dX10_led_79 (by decide) ?_
          refine r_icne C (tgt := 90) dX10_led_80 rfl (fun h80_7 => ?_) (fun h80_7 => ?_)
          · refine r_iconst C (v := -1) dX10_led_90 (by decide) ?_
            exact rp C Z dX10_led_91 (by unfold leM; exact ((if_neg (by assumption)).trans ((if_neg (fun z => absurd z.2 (by assumption))).trans (if_neg (fun z => absurd z.2 (by assumption))))).symm)
          · refine r_aload_n C dX10_led_83 rfl ?_
            refine r_getI C flX10_304 dX10_led_84 rfl rfl ?_
            refine r_goto C (tgt := 91) dX10_led_87 rfl ?_
            exact rp C Z dX10_led_91 (by unfold leM; exact ((if_neg (by assumption)).trans ((if_neg (fun z => absurd z.2 (by assumption))).trans (if_pos ⟨by assumption, by assumption⟩))).symm)
      · refine r_aload_n C dX10_led_67 rfl ?_
        refine r_getI C flX10_301 dX10_led_68 rfl rfl ?_
        refine r_goto C (tgt := 91) dX10_led_71 rfl ?_
        exact rp C Z dX10_led_91 (by unfold leM; exact ((if_neg (by assumption)).trans (if_pos ⟨by assumption, by assumption⟩)).symm)
  · refine r_aload_n C dX10_led_12 rfl ?_
    refine r_iload_n C dX10_led_13 rfl ?_
    refine cV (ci := 10) C hx (sX10_isStraw (d := d - 1) (by omega) _ I J b hs0 hs3) moX10_isStraw mlX10_130 miX10_isStraw msX10_isStraw dX10_led_14 rfl rfl rfl rfl rfl (by omega) rfl rfl (kp ?_)
    refine z_ifne C (tgt := 24) dX10_led_17 rfl (fun h17_9 => ?_) (fun h17_9 => ?_)
    · refine r_iload_n C dX10_led_24 rfl ?_
      refine r_ifne C (tgt := 37) dX10_led_25 rfl (fun h25_10 => ?_) (fun h25_10 => ?_)
      · refine r_iload_n C dX10_led_37 rfl ?_
        refine r_iconst C (v := 1) dX10_led_38 (by decide) ?_
        refine r_icne C (tgt := 51) dX10_led_39 rfl (fun h39_11 => ?_) (fun h39_11 => ?_)
        · refine r_aload_n C dX10_led_51 rfl ?_
          refine r_getR C flX10_64 dX10_led_52 rfl rfl rfl ?_
          refine r_iload_n C dX10_led_55 rfl ?_
          refine r_iald C rfl dX10_led_56 (vin (by omega) (show k.toInt < 3 by omega)) ?_
          exact rp C Z dX10_led_57 (by unfold leM; exact ((if_pos (by assumption)).trans ((if_pos (by assumption)).trans ((if_neg (by assumption)).trans (if_neg (by assumption))))).symm)
        · refine r_aload_n C dX10_led_42 rfl ?_
          refine r_getR C flX10_61 dX10_led_43 rfl rfl rfl ?_
          refine r_iload_n C dX10_led_46 rfl ?_
          refine r_iald C rfl dX10_led_47 (vin (by omega) (show k.toInt < 3 by omega)) ?_
          refine r_goto C (tgt := 57) dX10_led_48 rfl ?_
          exact rp C Z dX10_led_57 (by unfold leM; exact ((if_pos (by assumption)).trans ((if_pos (by assumption)).trans ((if_neg (by assumption)).trans (if_pos (by assumption))))).symm)
      · refine r_aload_n C dX10_led_28 rfl ?_
        refine r_getR C flX10_58 dX10_led_29 rfl rfl rfl ?_
        refine r_iload_n C dX10_led_32 rfl ?_
        refine r_iald C rfl dX10_led_33 (vin (by omega) (show k.toInt < 3 by omega)) ?_
        refine r_goto C (tgt := 57) dX10_led_34 rfl ?_
        exact rp C Z dX10_led_57 (by unfold leM; exact ((if_pos (by assumption)).trans ((if_pos (by assumption)).trans (if_pos (by assumption)))).symm)
    · refine r_iconst C (v := -1) dX10_led_20 (by decide) ?_
      refine r_goto C (tgt := 57) dX10_led_21 rfl ?_
      exact rp C Z dX10_led_57 (by unfold leM; exact ((if_pos (by assumption)).trans (if_neg (by assumption))).symm)
set_option maxRecDepth 100000 in
set_option maxHeartbeats 400000 in
theorem sX10_image {g : Gb} {d : Nat} (hd : 0 ≤ d) (I : Is) (J : Js) (b : Bool) : MC9 g d mX10_image [.ref 64] I J b (Qi J b (fun r I' => r = I 64 7 ∧ ((∀ k, k < 3 → I' 84 (4 * k) = I 69 k ∧ I' 84 (4 * k + 1) = I 81 k ∧ I' 84 (4 * k + 2) = I 82 k ∧ I' 84 (4 * k + 3) = I 83 k) ∧ (I' 84 12 = I 64 7 ∧ I' 84 13 = I 64 8 ∧ I' 84 14 = I 64 9 ∧ I' 84 15 = I 64 38 ∧ I' 84 16 = I 64 39) ∧ I' 64 40 = 1 ∧ I' 64 41 = I 64 6 ∧ FrM [84] [40, 41] I I'))) := by
  refine ent9 (own := RX10) rfl rfl rfl (fun X hg hx C Z => ?_)
  subst hg
  refine r_aload_n C dX10_image_0 rfl ?_
  refine r_iconst C (v := 1) dX10_image_1 (by decide) ?_
  refine r_putI C flX10_307 dX10_image_2 rfl rfl rfl rfl rfl ?_
  refine r_aload_n C dX10_image_5 rfl ?_
  refine r_aload_n C dX10_image_6 rfl ?_
  refine r_getI C flX10_102 dX10_image_7 rfl rfl ?_
  refine r_putI C flX10_310 dX10_image_10 rfl rfl rfl rfl rfl ?_
  refine r_iconst C (v := 0) dX10_image_13 (by decide) ?_
  refine r_istore_n C dX10_image_14 rfl rfl ?_
  refine r_iload_n C dX10_image_15 rfl ?_
  refine r_iconst C (v := 3) dX10_image_16 (by decide) ?_
  refine b_icge C (tgt := 88) (my := 3) rfl rfl dX10_image_17 rfl (fun h17_1 => ?_) (fun h17_1 => ?_)
  · exact absurd (show (3 : Int) ≤ ((0 : Int32)).toInt by assumption) (by decide)
  · refine r_aload_n C dX10_image_20 rfl ?_
    refine r_getR C flX10_67 dX10_image_21 rfl rfl rfl ?_
    refine r_iconst C (v := 4) dX10_image_24 (by decide) ?_
    refine r_iload_n C dX10_image_25 rfl ?_
    refine r_imul C dX10_image_26 ?_
    refine r_aload_n C dX10_image_27 rfl ?_
    refine r_getR C flX10_22 dX10_image_28 rfl rfl rfl ?_
    refine r_iload_n C dX10_image_31 rfl ?_
    refine r_iald C rfl dX10_image_32 (vin (by decide) (by decide)) ?_
    refine r_iast C rfl dX10_image_33 (vin (by decide) (by decide)) ?_
    refine r_aload_n C dX10_image_34 rfl ?_
    refine r_getR C flX10_67 dX10_image_35 rfl rfl rfl ?_
    refine r_iconst C (v := 4) dX10_image_38 (by decide) ?_
    refine r_iload_n C dX10_image_39 rfl ?_
    refine r_imul C dX10_image_40 ?_
    refine r_iconst C (v := 1) dX10_image_41 (by decide) ?_
    refine r_iadd C dX10_image_42 ?_
    refine r_aload_n C dX10_image_43 rfl ?_
    refine r_getR C flX10_58 dX10_image_44 rfl rfl rfl ?_
    refine r_iload_n C dX10_image_47 rfl ?_
    refine r_iald C rfl dX10_image_48 (vin (by decide) (by decide)) ?_
    refine r_iast C rfl dX10_image_49 (vin (by decide) (by decide)) ?_
    refine r_aload_n C dX10_image_50 rfl ?_
    refine r_getR C flX10_67 dX10_image_51 rfl rfl rfl ?_
    refine r_iconst C (v := 4) dX10_image_54 (by decide) ?_
    refine r_iload_n C dX10_image_55 rfl ?_
    refine r_imul C dX10_image_56 ?_
    refine r_iconst C (v := 2) dX10_image_57 (by decide) ?_
    refine r_iadd C dX10_image_58 ?_
    refine r_aload_n C dX10_image_59 rfl ?_
    refine r_getR C flX10_61 dX10_image_60 rfl rfl rfl ?_
    refine r_iload_n C dX10_image_63 rfl ?_
    refine r_iald C rfl dX10_image_64 (vin (by decide) (by decide)) ?_
    refine r_iast C rfl dX10_image_65 (vin (by decide) (by decide)) ?_
    refine r_aload_n C dX10_image_66 rfl ?_
    refine r_getR C flX10_67 dX10_image_67 rfl rfl rfl ?_
    refine r_iconst C (v := 4) dX10_image_70 (by decide) ?_
    refine r_iload_n C dX10_image_71 rfl ?_
    refine r_imul C dX10_image_72 ?_
    refine r_iconst C (v := 3) dX10_image_73 (by decide) ?_
    refine r_iadd C dX10_image_74 ?_
    refine r_aload_n C dX10_image_75 rfl ?_
    refine r_getR C flX10_64 dX10_image_76 rfl rfl rfl ?_
    refine r_iload_n C dX10_image_79 rfl ?_
    refine r_iald C rfl dX10_image_80 (vin (by decide) (by decide)) ?_
    refine r_iast C rfl dX10_image_81 (vin (by decide) (by decide)) ?_
    refine r_iinc C (v := 1) dX10_image_82 rfl (by decide) rfl ?_
    refine r_goto C (tgt := 15) dX10_image_85 rfl ?_
    refine r_iload_n C dX10_image_15 rfl ?_
    refine r_iconst C (v := 3) dX10_image_16 (by decide) ?_
    refine b_icge C (tgt := 88) (my := 3) rfl rfl dX10_image_17 rfl (fun h17_2 => ?_) (fun h17_2 => ?_)
    · exact absurd (show (3 : Int) ≤ ((0 + 1 : Int32)).toInt by assumption) (by decide)
    · refine r_aload_n C dX10_image_20 rfl ?_
      refine r_getR C flX10_67 dX10_image_21 rfl rfl rfl ?_
      refine r_iconst C (v := 4) dX10_image_24 (by decide) ?_
      refine r_iload_n C dX10_image_25 rfl ?_
      refine r_imul C dX10_image_26 ?_
      refine r_aload_n C dX10_image_27 rfl ?_
      refine r_getR C flX10_22 dX10_image_28 rfl rfl rfl ?_
      refine r_iload_n C dX10_image_31 rfl ?_
      refine r_iald C rfl dX10_image_32 (vin (by decide) (by decide)) ?_
      refine r_iast C rfl dX10_image_33 (vin (by decide) (by decide)) ?_
      refine r_aload_n C dX10_image_34 rfl ?_
      refine r_getR C flX10_67 dX10_image_35 rfl rfl rfl ?_
      refine r_iconst C (v := 4) dX10_image_38 (by decide) ?_
      refine r_iload_n C dX10_image_39 rfl ?_
      refine r_imul C dX10_image_40 ?_
      refine r_iconst C (v := 1) dX10_image_41 (by decide) ?_
      refine r_iadd C dX10_image_42 ?_
      refine r_aload_n C dX10_image_43 rfl ?_
      refine r_getR C flX10_58 dX10_image_44 rfl rfl rfl ?_
      refine r_iload_n C dX10_image_47 rfl ?_
      refine r_iald C rfl dX10_image_48 (vin (by decide) (by decide)) ?_
      refine r_iast C rfl dX10_image_49 (vin (by decide) (by decide)) ?_
      refine r_aload_n C dX10_image_50 rfl ?_
      refine r_getR C flX10_67 dX10_image_51 rfl rfl rfl ?_
      refine r_iconst C (v := 4) dX10_image_54 (by decide) ?_
      refine r_iload_n C dX10_image_55 rfl ?_
      refine r_imul C dX10_image_56 ?_
      refine r_iconst C (v := 2) dX10_image_57 (by decide) ?_
      refine r_iadd C dX10_image_58 ?_
      refine r_aload_n C dX10_image_59 rfl ?_
      refine r_getR C flX10_61 dX10_image_60 rfl rfl rfl ?_
      refine r_iload_n C dX10_image_63 rfl ?_
      refine r_iald C rfl dX10_image_64 (vin (by decide) (by decide)) ?_
      refine r_iast C rfl dX10_image_65 (vin (by decide) (by decide)) ?_
      refine r_aload_n C dX10_image_66 rfl ?_
      refine r_getR C flX10_67 dX10_image_67 rfl rfl rfl ?_
      refine r_iconst C (v := 4) dX10_image_70 (by decide) ?_
      refine r_iload_n C dX10_image_71 rfl ?_
      refine r_imul C dX10_image_72 ?_
      refine r_iconst C (v := 3) dX10_image_73 (by decide) ?_
      refine r_iadd C dX10_image_74 ?_
      refine r_aload_n C dX10_image_75 rfl ?_
      refine r_getR C flX10_64 dX10_image_76 rfl rfl rfl ?_
      refine r_iload_n C dX10_image_79 rfl ?_
      refine r_iald C rfl dX10_image_80 (vin (by decide) (by decide)) ?_
      refine r_iast C rfl dX10_image_81 (vin (by decide) (by decide)) ?_
      refine r_iinc C (v := 1) dX10_image_82 rfl (by decide) rfl ?_
      refine r_goto C (tgt := 15) dX10_image_85 rfl ?_
      refine r_iload_n C dX10_image_15 rfl ?_
      refine r_iconst C (v := 3) dX10_image_16 (by decide) ?_
      refine b_icge C (tgt := 88) (my := 3) rfl rfl dX10_image_17 rfl (fun h17_3 => ?_) (fun h17_3 => ?_)
      · exact absurd (show (3 : Int) ≤ ((0 + 1 + 1 : Int32)).toInt by assumption) (by decide)
      · refine r_aload_n C dX10_image_20 rfl ?_
        refine r_getR C flX10_67 dX10_image_21 rfl rfl rfl ?_
        refine r_iconst C (v := 4) dX10_image_24 (by decide) ?_
        refine r_iload_n C dX10_image_25 rfl ?_
        refine r_imul C dX10_image_26 ?_
        refine r_aload_n C dX10_image_27 rfl ?_
        refine r_getR C flX10_22 dX10_image_28 rfl rfl rfl ?_
        refine r_iload_n C dX10_image_31 rfl ?_
        refine r_iald C rfl dX10_image_32 (vin (by decide) (by decide)) ?_
        refine r_iast C rfl dX10_image_33 (vin (by decide) (by decide)) ?_
        refine r_aload_n C dX10_image_34 rfl ?_
        refine r_getR C flX10_67 dX10_image_35 rfl rfl rfl ?_
        refine r_iconst C (v := 4) dX10_image_38 (by decide) ?_
        refine r_iload_n C dX10_image_39 rfl ?_
        refine r_imul C dX10_image_40 ?_
        refine r_iconst C (v := 1) dX10_image_41 (by decide) ?_
        refine r_iadd C dX10_image_42 ?_
        refine r_aload_n C dX10_image_43 rfl ?_
        refine r_getR C flX10_58 dX10_image_44 rfl rfl rfl ?_
        refine r_iload_n C dX10_image_47 rfl ?_
        refine r_iald C rfl dX10_image_48 (vin (by decide) (by decide)) ?_
        refine r_iast C rfl dX10_image_49 (vin (by decide) (by decide)) ?_
        refine r_aload_n C dX10_image_50 rfl ?_
        refine r_getR C flX10_67 dX10_image_51 rfl rfl rfl ?_
        refine r_iconst C (v := 4) dX10_image_54 (by decide) ?_
        refine r_iload_n C dX10_image_55 rfl ?_
        refine r_imul C dX10_image_56 ?_
        refine r_iconst C (v := 2) dX10_image_57 (by decide) ?_
        refine r_iadd C dX10_image_58 ?_
        refine r_aload_n C dX10_image_59 rfl ?_
        refine r_getR C flX10_61 dX10_image_60 rfl rfl rfl ?_
        refine r_iload_n C dX10_image_63 rfl ?_
        refine r_iald C rfl dX10_image_64 (vin (by decide) (by decide)) ?_
        refine r_iast C rfl dX10_image_65 (vin (by decide) (by decide)) ?_
        refine r_aload_n C dX10_image_66 rfl ?_
        refine r_getR C flX10_67 dX10_image_67 rfl rfl rfl ?_
        refine r_iconst C (v := 4) dX10_image_70 (by decide) ?_
        refine r_iload_n C dX10_image_71 rfl ?_
        refine r_imul C dX10_image_72 ?_
        refine r_iconst C (v := 3) dX10_image_73 (by decide) ?_
        refine r_iadd C dX10_image_74 ?_
        refine r_aload_n C dX10_image_75 rfl ?_
        refine r_getR C flX10_64 dX10_image_76 rfl rfl rfl ?_
        refine r_iload_n C dX10_image_79 rfl ?_
        refine r_iald C rfl dX10_image_80 (vin (by decide) (by decide)) ?_
        refine r_iast C rfl dX10_image_81 (vin (by decide) (by decide)) ?_
        refine r_iinc C (v := 1) dX10_image_82 rfl (by decide) rfl ?_
        refine r_goto C (tgt := 15) dX10_image_85 rfl ?_
        refine r_iload_n C dX10_image_15 rfl ?_
        refine r_iconst C (v := 3) dX10_image_16 (by decide) ?_
        refine b_icge C (tgt := 88) (my := 3) rfl rfl dX10_image_17 rfl (fun h17_4 => ?_) (fun h17_4 => ?_)
        · refine r_aload_n C dX10_image_88 rfl ?_
          refine r_getR C flX10_67 dX10_image_89 rfl rfl rfl ?_
          refine r_bipush C (v := 12) dX10_image_92 (by decide) ?_
          refine r_aload_n C dX10_image_94 rfl ?_
          refine r_getI C flX10_93 dX10_image_95 rfl rfl ?_
          refine r_iast C rfl dX10_image_98 (vin (by decide) (by decide)) ?_
          refine r_aload_n C dX10_image_99 rfl ?_
          refine r_getR C flX10_67 dX10_image_100 rfl rfl rfl ?_
          refine r_bipush C (v := 13) dX10_image_103 (by decide) ?_
          refine r_aload_n C dX10_image_105 rfl ?_
          refine r_getI C flX10_157 dX10_image_106 rfl rfl ?_
          refine r_iast C rfl dX10_image_109 (vin (by decide) (by decide)) ?_
          refine r_aload_n C dX10_image_110 rfl ?_
          refine r_getR C flX10_67 dX10_image_111 rfl rfl rfl ?_
          refine r_bipush C (v := 14) dX10_image_114 (by decide) ?_
          refine r_aload_n C dX10_image_116 rfl ?_
          refine r_getI C flX10_160 dX10_image_117 rfl rfl ?_
          refine r_iast C rfl dX10_image_120 (vin (by decide) (by decide)) ?_
          refine r_aload_n C dX10_image_121 rfl ?_
          refine r_getR C flX10_67 dX10_image_122 rfl rfl rfl ?_
          refine r_bipush C (v := 15) dX10_image_125 (by decide) ?_
          refine r_aload_n C dX10_image_127 rfl ?_
          refine r_getI C flX10_301 dX10_image_128 rfl rfl ?_
          refine r_iast C rfl dX10_image_131 (vin (by decide) (by decide)) ?_
          refine r_aload_n C dX10_image_132 rfl ?_
          refine r_getR C flX10_67 dX10_image_133 rfl rfl rfl ?_
          refine r_bipush C (v := 16) dX10_image_136 (by decide) ?_
          refine r_aload_n C dX10_image_138 rfl ?_
          refine r_getI C flX10_304 dX10_image_139 rfl rfl ?_
          refine r_iast C rfl dX10_image_142 (vin (by decide) (by decide)) ?_
          refine r_aload_n C dX10_image_143 rfl ?_
          refine r_getI C flX10_93 dX10_image_144 rfl rfl ?_
          exact ri C Z dX10_image_147 (show _ ∧ _ from ⟨rfl, (fun k hk => by rcases (show k = 0 ∨ k = 1 ∨ k = 2 by omega) with rfl | rfl | rfl <;> exact ⟨rfl, rfl, rfl, rfl⟩), ⟨rfl, rfl, rfl, rfl, rfl⟩, rfl, rfl, (((((((((((((((((((FrM.rf.sf (by decide)).sf (by decide)).st (by decide) (by decide)).st (by decide) (by decide)).st (by decide) (by decide)).st (by decide) (by decide)).st (by decide) (by decide)).st (by decide) (by decide)).st (by decide) (by decide)).st (by decide) (by decide)).st (by decide) (by decide)).st (by decide) (by decide)).st (by decide) (by decide)).st (by decide) (by decide)).st (by decide) (by decide)).st (by decide) (by decide)).st (by decide) (by decide)).st (by decide) (by decide)).st (by decide) (by decide))⟩)
        · exact absurd (show ((0 + 1 + 1 + 1 : Int32)).toInt < (3 : Int) by assumption) (by decide)
set_option maxRecDepth 100000 in
set_option maxHeartbeats 400000 in
theorem sX10_back {g : Gb} {d : Nat} (hd : 0 ≤ d) (I : Is) (J : Js) (b : Bool) : MC9 g d mX10_back [.ref 64] I J b (Qi J b (fun r I' => (I 64 40 = 0 ∧ r = -5 ∧ I' = I) ∨ (¬ I 64 40 = 0 ∧ r = I 84 12 ∧ ((∀ k : Nat, k < 3 → I' 69 k = (if (k : Int) < (I 64 41).toInt then I 84 (4 * k) else 0) ∧ I' 81 k = (if (k : Int) < (I 64 41).toInt then I 84 (4 * k + 1) else 0) ∧ I' 82 k = (if (k : Int) < (I 64 41).toInt then I 84 (4 * k + 2) else 0) ∧ I' 83 k = (if (k : Int) < (I 64 41).toInt then I 84 (4 * k + 3) else 0)) ∧ (I' 64 7 = I 84 12 ∧ I' 64 8 = I 84 13 ∧ I' 64 9 = I 84 14 ∧ I' 64 38 = I 84 15 ∧ I' 64 39 = I 84 16) ∧ FrM [69, 81, 82, 83] [7, 8, 9, 38, 39] I I')))) := by
  refine ent9 (own := RX10) rfl rfl rfl (fun X hg hx C Z => ?_)
  subst hg
  refine r_aload_n C dX10_back_0 rfl ?_
  refine r_getI C flX10_307 dX10_back_1 rfl rfl ?_
  refine r_ifne C (tgt := 10) dX10_back_4 rfl (fun h4_1 => ?_) (fun h4_1 => ?_)
  · refine r_iconst C (v := 0) dX10_back_10 (by decide) ?_
    refine r_istore_n C dX10_back_11 rfl rfl ?_
    refine r_iload_n C dX10_back_12 rfl ?_
    refine r_iconst C (v := 3) dX10_back_13 (by decide) ?_
    refine b_icge C (tgt := 131) (my := 3) rfl rfl dX10_back_14 rfl (fun h14_2 => ?_) (fun h14_2 => ?_)
    · exact absurd (show (3 : Int) ≤ ((0 : Int32)).toInt by assumption) (by decide)
    · refine r_iload_n C dX10_back_17 rfl ?_
      refine r_aload_n C dX10_back_18 rfl ?_
      refine r_getI C flX10_310 dX10_back_19 rfl rfl ?_
      refine b_icge C (tgt := 29) rfl rfl dX10_back_22 rfl (fun h22_3 => ?_) (fun h22_3 => ?_)
      · refine r_iconst C (v := 0) dX10_back_29 (by decide) ?_
        refine r_istore_n C dX10_back_30 rfl rfl ?_
        refine r_aload_n C dX10_back_31 rfl ?_
        refine r_getR C flX10_22 dX10_back_32 rfl rfl rfl ?_
        refine r_iload_n C dX10_back_35 rfl ?_
        refine r_iload_n C dX10_back_36 rfl ?_
        refine r_ifeq C (tgt := 51) dX10_back_37 rfl (fun h37_4 => ?_) (fun h37_4 => ?_)
        · refine r_iconst C (v := 0) dX10_back_51 (by decide) ?_
          refine r_iast C rfl dX10_back_52 (vin (by decide) (by decide)) ?_
          refine r_aload_n C dX10_back_53 rfl ?_
          refine r_getR C flX10_58 dX10_back_54 rfl rfl rfl ?_
          refine r_iload_n C dX10_back_57 rfl ?_
          refine r_iload_n C dX10_back_58 rfl ?_
          refine r_ifeq C (tgt := 75) dX10_back_59 rfl (fun h59_5 => ?_) (fun h59_5 => ?_)
          · refine r_iconst C (v := 0) dX10_back_75 (by decide) ?_
            refine r_iast C rfl dX10_back_76 (vin (by decide) (by decide)) ?_
            refine r_aload_n C dX10_back_77 rfl ?_
            refine r_getR C flX10_61 dX10_back_78 rfl rfl rfl ?_
            refine r_iload_n C dX10_back_81 rfl ?_
            refine r_iload_n C dX10_back_82 rfl ?_
            refine r_ifeq C (tgt := 99) dX10_back_83 rfl (fun h83_6 => ?_) (fun h83_6 => ?_)
            · refine r_iconst C (v := 0) dX10_back_99 (by decide) ?_
              refine r_iast C rfl dX10_back_100 (vin (by decide) (by decide)) ?_
              refine r_aload_n C dX10_back_101 rfl ?_
              refine r_getR C flX10_64 dX10_back_102 rfl rfl rfl ?_
              refine r_iload_n C dX10_back_105 rfl ?_
              refine r_iload_n C dX10_back_106 rfl ?_
              refine r_ifeq C (tgt := 123) dX10_back_107 rfl (fun h107_7 => ?_) (fun h107_7 => ?_)
              · refine r_iconst C (v := 0) dX10_back_123 (by decide) ?_
                refine r_iast C rfl dX10_back_124 (vin (by decide) (by decide)) ?_
                refine r_iinc C (v := 1) dX10_back_125 rfl (by decide) rfl ?_
                refine r_goto C (tgt := 12) dX10_back_128 rfl ?_
                refine r_iload_n C dX10_back_12 rfl ?_
                refine r_iconst C (v := 3) dX10_back_13 (by decide) ?_
                refine b_icge C (tgt := 131) (my := 3) rfl rfl dX10_back_14 rfl (fun h14_8 => ?_) (fun h14_8 => ?_)
                · exact absurd (show (3 : Int) ≤ ((0 + 1 : Int32)).toInt by assumption) (by decide)
                · refine r_iload_n C dX10_back_17 rfl ?_
                  refine r_aload_n C dX10_back_18 rfl ?_
                  refine r_getI C flX10_310 dX10_back_19 rfl rfl ?_
                  refine b_icge C (tgt := 29) rfl rfl dX10_back_22 rfl (fun h22_9 => ?_) (fun h22_9 => ?_)
                  · refine r_iconst C (v := 0) dX10_back_29 (by decide) ?_
                    refine r_istore_n C dX10_back_30 rfl rfl ?_
                    refine r_aload_n C dX10_back_31 rfl ?_
                    refine r_getR C flX10_22 dX10_back_32 rfl rfl rfl ?_
                    refine r_iload_n C dX10_back_35 rfl ?_
                    refine r_iload_n C dX10_back_36 rfl ?_
                    refine r_ifeq C (tgt := 51) dX10_back_37 rfl (fun h37_10 => ?_) (fun h37_10 => ?_)
                    · refine r_iconst C (v := 0) dX10_back_51 (by decide) ?_
                      refine r_iast C rfl dX10_back_52 (vin (by decide) (by decide)) ?_
                      refine r_aload_n C dX10_back_53 rfl ?_
                      refine r_getR C flX10_58 dX10_back_54 rfl rfl rfl ?_
                      refine r_iload_n C dX10_back_57 rfl ?_
                      refine r_iload_n C dX10_back_58 rfl ?_
                      refine r_ifeq C (tgt := 75) dX10_back_59 rfl (fun h59_11 => ?_) (fun h59_11 => ?_)
                      · refine r_iconst C (v := 0) dX10_back_75 (by decide) ?_
                        refine r_iast C rfl dX10_back_76 (vin (by decide) (by decide)) ?_
                        refine r_aload_n C dX10_back_77 rfl ?_
                        refine r_getR C flX10_61 dX10_back_78 rfl rfl rfl ?_
                        refine r_iload_n C dX10_back_81 rfl ?_
                        refine r_iload_n C dX10_back_82 rfl ?_
                        refine r_ifeq C (tgt := 99) dX10_back_83 rfl (fun h83_12 => ?_) (fun h83_12 => ?_)
                        · refine r_iconst C (v := 0) dX10_back_99 (by decide) ?_
                          refine r_iast C rfl dX10_back_100 (vin (by decide) (by decide)) ?_
                          refine r_aload_n C dX10_back_101 rfl ?_
                          refine r_getR C flX10_64 dX10_back_102 rfl rfl rfl ?_
                          refine r_iload_n C dX10_back_105 rfl ?_
                          refine r_iload_n C dX10_back_106 rfl ?_
                          refine r_ifeq C (tgt := 123) dX10_back_107 rfl (fun h107_13 => ?_) (fun h107_13 => ?_)
                          · refine r_iconst C (v := 0) dX10_back_123 (by decide) ?_
                            refine r_iast C rfl dX10_back_124 (vin (by decide) (by decide)) ?_
                            refine r_iinc C (v := 1) dX10_back_125 rfl (by decide) rfl ?_
                            refine r_goto C (tgt := 12) dX10_back_128 rfl ?_
                            refine r_iload_n C dX10_back_12 rfl ?_
                            refine r_iconst C (v := 3) dX10_back_13 (by decide) ?_
                            refine b_icge C (tgt := 131) (my := 3) rfl rfl dX10_back_14 rfl (fun h14_14 => ?_) (fun h14_14 => ?_)
                            · exact absurd (show (3 : Int) ≤ ((0 + 1 + 1 : Int32)).toInt by assumption) (by decide)
                            · refine r_iload_n C dX10_back_17 rfl ?_
                              refine r_aload_n C dX10_back_18 rfl ?_
                              refine r_getI C flX10_310 dX10_back_19 rfl rfl ?_
                              refine b_icge C (tgt := 29) rfl rfl dX10_back_22 rfl (fun h22_15 => ?_) (fun h22_15 => ?_)
                              · refine r_iconst C (v := 0) dX10_back_29 (by decide) ?_
                                refine r_istore_n C dX10_back_30 rfl rfl ?_
                                refine r_aload_n C dX10_back_31 rfl ?_
                                refine r_getR C flX10_22 dX10_back_32 rfl rfl rfl ?_
                                refine r_iload_n C dX10_back_35 rfl ?_
                                refine r_iload_n C dX10_back_36 rfl ?_
                                refine r_ifeq C (tgt := 51) dX10_back_37 rfl (fun h37_16 => ?_) (fun h37_16 => ?_)
                                · refine r_iconst C (v := 0) dX10_back_51 (by decide) ?_
                                  refine r_iast C rfl dX10_back_52 (vin (by decide) (by decide)) ?_
                                  refine r_aload_n C dX10_back_53 rfl ?_
                                  refine r_getR C flX10_58 dX10_back_54 rfl rfl rfl ?_
                                  refine r_iload_n C dX10_back_57 rfl ?_
                                  refine r_iload_n C dX10_back_58 rfl ?_
                                  refine r_ifeq C (tgt := 75) dX10_back_59 rfl (fun h59_17 => ?_) (fun h59_17 => ?_)
                                  · refine r_iconst C (v := 0) dX10_back_75 (by decide) ?_
                                    refine r_iast C rfl dX10_back_76 (vin (by decide) (by decide)) ?_
                                    refine r_aload_n C dX10_back_77 rfl ?_
                                    refine r_getR C flX10_61 dX10_back_78 rfl rfl rfl ?_
                                    refine r_iload_n C dX10_back_81 rfl ?_
                                    refine r_iload_n C dX10_back_82 rfl ?_
                                    refine r_ifeq C (tgt := 99) dX10_back_83 rfl (fun h83_18 => ?_) (fun h83_18 => ?_)
                                    · refine r_iconst C (v := 0) dX10_back_99 (by decide) ?_
                                      refine r_iast C rfl dX10_back_100 (vin (by decide) (by decide)) ?_
                                      refine r_aload_n C dX10_back_101 rfl ?_
                                      refine r_getR C flX10_64 dX10_back_102 rfl rfl rfl ?_
                                      refine r_iload_n C dX10_back_105 rfl ?_
                                      refine r_iload_n C dX10_back_106 rfl ?_
                                      refine r_ifeq C (tgt := 123) dX10_back_107 rfl (fun h107_19 => ?_) (fun h107_19 => ?_)
                                      · refine r_iconst C (v := 0) dX10_back_123 (by decide) ?_
                                        refine r_iast C rfl dX10_back_124 (vin (by decide) (by decide)) ?_
                                        refine r_iinc C (v := 1) dX10_back_125 rfl (by decide) rfl ?_
                                        refine r_goto C (tgt := 12) dX10_back_128 rfl ?_
                                        refine r_iload_n C dX10_back_12 rfl ?_
                                        refine r_iconst C (v := 3) dX10_back_13 (by decide) ?_
                                        refine b_icge C (tgt := 131) (my := 3) rfl rfl dX10_back_14 rfl (fun h14_20 => ?_) (fun h14_20 => ?_)
                                        · refine r_aload_n C dX10_back_131 rfl ?_
                                          refine r_aload_n C dX10_back_132 rfl ?_
                                          refine r_getR C flX10_67 dX10_back_133 rfl rfl rfl ?_
                                          refine r_bipush C (v := 12) dX10_back_136 (by decide) ?_
                                          refine r_iald C rfl dX10_back_138 (vin (by decide) (by decide)) ?_
                                          refine r_putI C flX10_93 dX10_back_139 rfl rfl rfl rfl rfl ?_
                                          refine r_aload_n C dX10_back_142 rfl ?_
                                          refine r_aload_n C dX10_back_143 rfl ?_
                                          refine r_getR C flX10_67 dX10_back_144 rfl rfl rfl ?_
                                          refine r_bipush C (v := 13) dX10_back_147 (by decide) ?_
                                          refine r_iald C rfl dX10_back_149 (vin (by decide) (by decide)) ?_
                                          refine r_putI C flX10_157 dX10_back_150 rfl rfl rfl rfl rfl ?_
                                          refine r_aload_n C dX10_back_153 rfl ?_
                                          refine r_aload_n C dX10_back_154 rfl ?_
                                          refine r_getR C flX10_67 dX10_back_155 rfl rfl rfl ?_
                                          refine r_bipush C (v := 14) dX10_back_158 (by decide) ?_
                                          refine r_iald C rfl dX10_back_160 (vin (by decide) (by decide)) ?_
                                          refine r_putI C flX10_160 dX10_back_161 rfl rfl rfl rfl rfl ?_
                                          refine r_aload_n C dX10_back_164 rfl ?_
                                          refine r_aload_n C dX10_back_165 rfl ?_
                                          refine r_getR C flX10_67 dX10_back_166 rfl rfl rfl ?_
                                          refine r_bipush C (v := 15) dX10_back_169 (by decide) ?_
                                          refine r_iald C rfl dX10_back_171 (vin (by decide) (by decide)) ?_
                                          refine r_putI C flX10_301 dX10_back_172 rfl rfl rfl rfl rfl ?_
                                          refine r_aload_n C dX10_back_175 rfl ?_
                                          refine r_aload_n C dX10_back_176 rfl ?_
                                          refine r_getR C flX10_67 dX10_back_177 rfl rfl rfl ?_
                                          refine r_bipush C (v := 16) dX10_back_180 (by decide) ?_
                                          refine r_iald C rfl dX10_back_182 (vin (by decide) (by decide)) ?_
                                          refine r_putI C flX10_304 dX10_back_183 rfl rfl rfl rfl rfl ?_
                                          refine r_aload_n C dX10_back_186 rfl ?_
                                          refine r_getI C flX10_93 dX10_back_187 rfl rfl ?_
                                          exact ri C Z dX10_back_190 (Or.inr ⟨by assumption, by rfl, (fun k hk => by
      rcases (show k = 0 ∨ k = 1 ∨ k = 2 by omega) with rfl | rfl | rfl
      · have c : ¬ (((0 : Nat)) : Int) < (I 64 41).toInt := Int.not_lt.mpr (show (I 64 41).toInt ≤ ((0 : Int32)).toInt by assumption)
        exact ⟨(if_neg c).symm, (if_neg c).symm, (if_neg c).symm, (if_neg c).symm⟩
      · have c : ¬ (((1 : Nat)) : Int) < (I 64 41).toInt := Int.not_lt.mpr (show (I 64 41).toInt ≤ ((0 + 1 : Int32)).toInt by assumption)
        exact ⟨(if_neg c).symm, (if_neg c).symm, (if_neg c).symm, (if_neg c).symm⟩
      · have c : ¬ (((2 : Nat)) : Int) < (I 64 41).toInt := Int.not_lt.mpr (show (I 64 41).toInt ≤ ((0 + 1 + 1 : Int32)).toInt by assumption)
        exact ⟨(if_neg c).symm, (if_neg c).symm, (if_neg c).symm, (if_neg c).symm⟩), ⟨rfl, rfl, rfl, rfl, rfl⟩, (((((((((((((((((FrM.rf.st (by decide) (by decide)).st (by decide) (by decide)).st (by decide) (by decide)).st (by decide) (by decide)).st (by decide) (by decide)).st (by decide) (by decide)).st (by decide) (by decide)).st (by decide) (by decide)).st (by decide) (by decide)).st (by decide) (by decide)).st (by decide) (by decide)).st (by decide) (by decide)).sf (by decide)).sf (by decide)).sf (by decide)).sf (by decide)).sf (by decide))⟩)
                                        · exact absurd (show ((0 + 1 + 1 + 1 : Int32)).toInt < (3 : Int) by assumption) (by decide)
                                      · exact absurd rfl (show ¬ (0 : Int32) = 0 by assumption)
                                    · exact absurd rfl (show ¬ (0 : Int32) = 0 by assumption)
                                  · exact absurd rfl (show ¬ (0 : Int32) = 0 by assumption)
                                · exact absurd rfl (show ¬ (0 : Int32) = 0 by assumption)
                              · refine r_iconst C (v := 1) dX10_back_25 (by decide) ?_
                                refine r_goto C (tgt := 30) dX10_back_26 rfl ?_
                                refine r_istore_n C dX10_back_30 rfl rfl ?_
                                refine r_aload_n C dX10_back_31 rfl ?_
                                refine r_getR C flX10_22 dX10_back_32 rfl rfl rfl ?_
                                refine r_iload_n C dX10_back_35 rfl ?_
                                refine r_iload_n C dX10_back_36 rfl ?_
                                refine r_ifeq C (tgt := 51) dX10_back_37 rfl (fun h37_21 => ?_) (fun h37_21 => ?_)
                                · exact absurd (show (1 : Int32) = 0 by assumption) (by decide)
                                · refine r_aload_n C dX10_back_40 rfl ?_
                                  refine r_getR C flX10_67 dX10_back_41 rfl rfl rfl ?_
                                  refine r_iconst C (v := 4) dX10_back_44 (by decide) ?_
                                  refine r_iload_n C dX10_back_45 rfl ?_
                                  refine r_imul C dX10_back_46 ?_
                                  refine r_iald C rfl dX10_back_47 (vin (by decide) (by decide)) ?_
                                  refine r_goto C (tgt := 52) dX10_back_48 rfl ?_
                                  refine r_iast C rfl dX10_back_52 (vin (by decide) (by decide)) ?_
                                  refine r_aload_n C dX10_back_53 rfl ?_
                                  refine r_getR C flX10_58 dX10_back_54 rfl rfl rfl ?_
                                  refine r_iload_n C dX10_back_57 rfl ?_
                                  refine r_iload_n C dX10_back_58 rfl ?_
                                  refine r_ifeq C (tgt := 75) dX10_back_59 rfl (fun h59_22 => ?_) (fun h59_22 => ?_)
                                  · exact absurd (show (1 : Int32) = 0 by assumption) (by decide)
                                  · refine r_aload_n C dX10_back_62 rfl ?_
                                    refine r_getR C flX10_67 dX10_back_63 rfl rfl rfl ?_
                                    refine r_iconst C (v := 4) dX10_back_66 (by decide) ?_
                                    refine r_iload_n C dX10_back_67 rfl ?_
                                    refine r_imul C dX10_back_68 ?_
                                    refine r_iconst C (v := 1) dX10_back_69 (by decide) ?_
                                    refine r_iadd C dX10_back_70 ?_
                                    refine r_iald C rfl dX10_back_71 (vin (by decide) (by decide)) ?_
                                    refine r_goto C (tgt := 76) dX10_back_72 rfl ?_
                                    refine r_iast C rfl dX10_back_76 (vin (by decide) (by decide)) ?_
                                    refine r_aload_n C dX10_back_77 rfl ?_
                                    refine r_getR C flX10_61 dX10_back_78 rfl rfl rfl ?_
                                    refine r_iload_n C dX10_back_81 rfl ?_
                                    refine r_iload_n C dX10_back_82 rfl ?_
                                    refine r_ifeq C (tgt := 99) dX10_back_83 rfl (fun h83_23 => ?_) (fun h83_23 => ?_)
                                    · exact absurd (show (1 : Int32) = 0 by assumption) (by decide)
                                    · refine r_aload_n C dX10_back_86 rfl ?_
                                      refine r_getR C flX10_67 dX10_back_87 rfl rfl rfl ?_
                                      refine r_iconst C (v := 4) dX10_back_90 (by decide) ?_
                                      refine r_iload_n C dX10_back_91 rfl ?_
                                      refine r_imul C dX10_back_92 ?_
                                      refine r_iconst C (v := 2) dX10_back_93 (by decide) ?_
                                      refine r_iadd C dX10_back_94 ?_
                                      refine r_iald C rfl dX10_back_95 (vin (by decide) (by decide)) ?_
                                      refine r_goto C (tgt := 100) dX10_back_96 rfl ?_
                                      refine r_iast C rfl dX10_back_100 (vin (by decide) (by decide)) ?_
                                      refine r_aload_n C dX10_back_101 rfl ?_
                                      refine r_getR C flX10_64 dX10_back_102 rfl rfl rfl ?_
                                      refine r_iload_n C dX10_back_105 rfl ?_
                                      refine r_iload_n C dX10_back_106 rfl ?_
                                      refine r_ifeq C (tgt := 123) dX10_back_107 rfl (fun h107_24 => ?_) (fun h107_24 => ?_)
                                      · exact absurd (show (1 : Int32) = 0 by assumption) (by decide)
                                      · refine r_aload_n C dX10_back_110 rfl ?_
                                        refine r_getR C flX10_67 dX10_back_111 rfl rfl rfl ?_
                                        refine r_iconst C (v := 4) dX10_back_114 (by decide) ?_
                                        refine r_iload_n C dX10_back_115 rfl ?_
                                        refine r_imul C dX10_back_116 ?_
                                        refine r_iconst C (v := 3) dX10_back_117 (by decide) ?_
                                        refine r_iadd C dX10_back_118 ?_
                                        refine r_iald C rfl dX10_back_119 (vin (by decide) (by decide)) ?_
                                        refine r_goto C (tgt := 124) dX10_back_120 rfl ?_
                                        refine r_iast C rfl dX10_back_124 (vin (by decide) (by decide)) ?_
                                        refine r_iinc C (v := 1) dX10_back_125 rfl (by decide) rfl ?_
                                        refine r_goto C (tgt := 12) dX10_back_128 rfl ?_
                                        refine r_iload_n C dX10_back_12 rfl ?_
                                        refine r_iconst C (v := 3) dX10_back_13 (by decide) ?_
                                        refine b_icge C (tgt := 131) (my := 3) rfl rfl dX10_back_14 rfl (fun h14_25 => ?_) (fun h14_25 => ?_)
                                        · refine r_aload_n C dX10_back_131 rfl ?_
                                          refine r_aload_n C dX10_back_132 rfl ?_
                                          refine r_getR C flX10_67 dX10_back_133 rfl rfl rfl ?_
                                          refine r_bipush C (v := 12) dX10_back_136 (by decide) ?_
                                          refine r_iald C rfl dX10_back_138 (vin (by decide) (by decide)) ?_
                                          refine r_putI C flX10_93 dX10_back_139 rfl rfl rfl rfl rfl ?_
                                          refine r_aload_n C dX10_back_142 rfl ?_
                                          refine r_aload_n C dX10_back_143 rfl ?_
                                          refine r_getR C flX10_67 dX10_back_144 rfl rfl rfl ?_
                                          refine r_bipush C (v := 13) dX10_back_147 (by decide) ?_
                                          refine r_iald C rfl dX10_back_149 (vin (by decide) (by decide)) ?_
                                          refine r_putI C flX10_157 dX10_back_150 rfl rfl rfl rfl rfl ?_
                                          refine r_aload_n C dX10_back_153 rfl ?_
                                          refine r_aload_n C dX10_back_154 rfl ?_
                                          refine r_getR C flX10_67 dX10_back_155 rfl rfl rfl ?_
                                          refine r_bipush C (v := 14) dX10_back_158 (by decide) ?_
                                          refine r_iald C rfl dX10_back_160 (vin (by decide) (by decide)) ?_
                                          refine r_putI C flX10_160 dX10_back_161 rfl rfl rfl rfl rfl ?_
                                          refine r_aload_n C dX10_back_164 rfl ?_
                                          refine r_aload_n C dX10_back_165 rfl ?_
                                          refine r_getR C flX10_67 dX10_back_166 rfl rfl rfl ?_
                                          refine r_bipush C (v := 15) dX10_back_169 (by decide) ?_
                                          refine r_iald C rfl dX10_back_171 (vin (by decide) (by decide)) ?_
                                          refine r_putI C flX10_301 dX10_back_172 rfl rfl rfl rfl rfl ?_
                                          refine r_aload_n C dX10_back_175 rfl ?_
                                          refine r_aload_n C dX10_back_176 rfl ?_
                                          refine r_getR C flX10_67 dX10_back_177 rfl rfl rfl ?_
                                          refine r_bipush C (v := 16) dX10_back_180 (by decide) ?_
                                          refine r_iald C rfl dX10_back_182 (vin (by decide) (by decide)) ?_
                                          refine r_putI C flX10_304 dX10_back_183 rfl rfl rfl rfl rfl ?_
                                          refine r_aload_n C dX10_back_186 rfl ?_
                                          refine r_getI C flX10_93 dX10_back_187 rfl rfl ?_
                                          exact ri C Z dX10_back_190 (Or.inr ⟨by assumption, by rfl, (fun k hk => by
      rcases (show k = 0 ∨ k = 1 ∨ k = 2 by omega) with rfl | rfl | rfl
      · have c : ¬ (((0 : Nat)) : Int) < (I 64 41).toInt := Int.not_lt.mpr (show (I 64 41).toInt ≤ ((0 : Int32)).toInt by assumption)
        exact ⟨(if_neg c).symm, (if_neg c).symm, (if_neg c).symm, (if_neg c).symm⟩
      · have c : ¬ (((1 : Nat)) : Int) < (I 64 41).toInt := Int.not_lt.mpr (show (I 64 41).toInt ≤ ((0 + 1 : Int32)).toInt by assumption)
        exact ⟨(if_neg c).symm, (if_neg c).symm, (if_neg c).symm, (if_neg c).symm⟩
      · have c : (((2 : Nat)) : Int) < (I 64 41).toInt := (show ((0 + 1 + 1 : Int32)).toInt < (I 64 41).toInt by assumption)
        exact ⟨(if_pos c).symm, (if_pos c).symm, (if_pos c).symm, (if_pos c).symm⟩), ⟨rfl, rfl, rfl, rfl, rfl⟩, (((((((((((((((((FrM.rf.st (by decide) (by decide)).st (by decide) (by decide)).st (by decide) (by decide)).st (by decide) (by decide)).st (by decide) (by decide)).st (by decide) (by decide)).st (by decide) (by decide)).st (by decide) (by decide)).st (by decide) (by decide)).st (by decide) (by decide)).st (by decide) (by decide)).st (by decide) (by decide)).sf (by decide)).sf (by decide)).sf (by decide)).sf (by decide)).sf (by decide))⟩)
                                        · exact absurd (show ((0 + 1 + 1 + 1 : Int32)).toInt < (3 : Int) by assumption) (by decide)
                          · exact absurd rfl (show ¬ (0 : Int32) = 0 by assumption)
                        · exact absurd rfl (show ¬ (0 : Int32) = 0 by assumption)
                      · exact absurd rfl (show ¬ (0 : Int32) = 0 by assumption)
                    · exact absurd rfl (show ¬ (0 : Int32) = 0 by assumption)
                  · refine r_iconst C (v := 1) dX10_back_25 (by decide) ?_
                    refine r_goto C (tgt := 30) dX10_back_26 rfl ?_
                    refine r_istore_n C dX10_back_30 rfl rfl ?_
                    refine r_aload_n C dX10_back_31 rfl ?_
                    refine r_getR C flX10_22 dX10_back_32 rfl rfl rfl ?_
                    refine r_iload_n C dX10_back_35 rfl ?_
                    refine r_iload_n C dX10_back_36 rfl ?_
                    refine r_ifeq C (tgt := 51) dX10_back_37 rfl (fun h37_26 => ?_) (fun h37_26 => ?_)
                    · exact absurd (show (1 : Int32) = 0 by assumption) (by decide)
                    · refine r_aload_n C dX10_back_40 rfl ?_
                      refine r_getR C flX10_67 dX10_back_41 rfl rfl rfl ?_
                      refine r_iconst C (v := 4) dX10_back_44 (by decide) ?_
                      refine r_iload_n C dX10_back_45 rfl ?_
                      refine r_imul C dX10_back_46 ?_
                      refine r_iald C rfl dX10_back_47 (vin (by decide) (by decide)) ?_
                      refine r_goto C (tgt := 52) dX10_back_48 rfl ?_
                      refine r_iast C rfl dX10_back_52 (vin (by decide) (by decide)) ?_
                      refine r_aload_n C dX10_back_53 rfl ?_
                      refine r_getR C flX10_58 dX10_back_54 rfl rfl rfl ?_
                      refine r_iload_n C dX10_back_57 rfl ?_
                      refine r_iload_n C dX10_back_58 rfl ?_
                      refine r_ifeq C (tgt := 75) dX10_back_59 rfl (fun h59_27 => ?_) (fun h59_27 => ?_)
                      · exact absurd (show (1 : Int32) = 0 by assumption) (by decide)
                      · refine r_aload_n C dX10_back_62 rfl ?_
                        refine r_getR C flX10_67 dX10_back_63 rfl rfl rfl ?_
                        refine r_iconst C (v := 4) dX10_back_66 (by decide) ?_
                        refine r_iload_n C dX10_back_67 rfl ?_
                        refine r_imul C dX10_back_68 ?_
                        refine r_iconst C (v := 1) dX10_back_69 (by decide) ?_
                        refine r_iadd C dX10_back_70 ?_
                        refine r_iald C rfl dX10_back_71 (vin (by decide) (by decide)) ?_
                        refine r_goto C (tgt := 76) dX10_back_72 rfl ?_
                        refine r_iast C rfl dX10_back_76 (vin (by decide) (by decide)) ?_
                        refine r_aload_n C dX10_back_77 rfl ?_
                        refine r_getR C flX10_61 dX10_back_78 rfl rfl rfl ?_
                        refine r_iload_n C dX10_back_81 rfl ?_
                        refine r_iload_n C dX10_back_82 rfl ?_
                        refine r_ifeq C (tgt := 99) dX10_back_83 rfl (fun h83_28 => ?_) (fun h83_28 => ?_)
                        · exact absurd (show (1 : Int32) = 0 by assumption) (by decide)
                        · refine r_aload_n C dX10_back_86 rfl ?_
                          refine r_getR C flX10_67 dX10_back_87 rfl rfl rfl ?_
                          refine r_iconst C (v := 4) dX10_back_90 (by decide) ?_
                          refine r_iload_n C dX10_back_91 rfl ?_
                          refine r_imul C dX10_back_92 ?_
                          refine r_iconst C (v := 2) dX10_back_93 (by decide) ?_
                          refine r_iadd C dX10_back_94 ?_
                          refine r_iald C rfl dX10_back_95 (vin (by decide) (by decide)) ?_
                          refine r_goto C (tgt := 100) dX10_back_96 rfl ?_
                          refine r_iast C rfl dX10_back_100 (vin (by decide) (by decide)) ?_
                          refine r_aload_n C dX10_back_101 rfl ?_
                          refine r_getR C flX10_64 dX10_back_102 rfl rfl rfl ?_
                          refine r_iload_n C dX10_back_105 rfl ?_
                          refine r_iload_n C dX10_back_106 rfl ?_
                          refine r_ifeq C (tgt := 123) dX10_back_107 rfl (fun h107_29 => ?_) (fun h107_29 => ?_)
                          · exact absurd (show (1 : Int32) = 0 by assumption) (by decide)
                          · refine r_aload_n C dX10_back_110 rfl ?_
                            refine r_getR C flX10_67 dX10_back_111 rfl rfl rfl ?_
                            refine r_iconst C (v := 4) dX10_back_114 (by decide) ?_
                            refine r_iload_n C dX10_back_115 rfl ?_
                            refine r_imul C dX10_back_116 ?_
                            refine r_iconst C (v := 3) dX10_back_117 (by decide) ?_
                            refine r_iadd C dX10_back_118 ?_
                            refine r_iald C rfl dX10_back_119 (vin (by decide) (by decide)) ?_
                            refine r_goto C (tgt := 124) dX10_back_120 rfl ?_
                            refine r_iast C rfl dX10_back_124 (vin (by decide) (by decide)) ?_
                            refine r_iinc C (v := 1) dX10_back_125 rfl (by decide) rfl ?_
                            refine r_goto C (tgt := 12) dX10_back_128 rfl ?_
                            refine r_iload_n C dX10_back_12 rfl ?_
                            refine r_iconst C (v := 3) dX10_back_13 (by decide) ?_
                            refine b_icge C (tgt := 131) (my := 3) rfl rfl dX10_back_14 rfl (fun h14_30 => ?_) (fun h14_30 => ?_)
                            · exact absurd (show (3 : Int) ≤ ((0 + 1 + 1 : Int32)).toInt by assumption) (by decide)
                            · refine r_iload_n C dX10_back_17 rfl ?_
                              refine r_aload_n C dX10_back_18 rfl ?_
                              refine r_getI C flX10_310 dX10_back_19 rfl rfl ?_
                              refine b_icge C (tgt := 29) rfl rfl dX10_back_22 rfl (fun h22_31 => ?_) (fun h22_31 => ?_)
                              · refine r_iconst C (v := 0) dX10_back_29 (by decide) ?_
                                refine r_istore_n C dX10_back_30 rfl rfl ?_
                                refine r_aload_n C dX10_back_31 rfl ?_
                                refine r_getR C flX10_22 dX10_back_32 rfl rfl rfl ?_
                                refine r_iload_n C dX10_back_35 rfl ?_
                                refine r_iload_n C dX10_back_36 rfl ?_
                                refine r_ifeq C (tgt := 51) dX10_back_37 rfl (fun h37_32 => ?_) (fun h37_32 => ?_)
                                · refine r_iconst C (v := 0) dX10_back_51 (by decide) ?_
                                  refine r_iast C rfl dX10_back_52 (vin (by decide) (by decide)) ?_
                                  refine r_aload_n C dX10_back_53 rfl ?_
                                  refine r_getR C flX10_58 dX10_back_54 rfl rfl rfl ?_
                                  refine r_iload_n C dX10_back_57 rfl ?_
                                  refine r_iload_n C dX10_back_58 rfl ?_
                                  refine r_ifeq C (tgt := 75) dX10_back_59 rfl (fun h59_33 => ?_) (fun h59_33 => ?_)
                                  · refine r_iconst C (v := 0) dX10_back_75 (by decide) ?_
                                    refine r_iast C rfl dX10_back_76 (vin (by decide) (by decide)) ?_
                                    refine r_aload_n C dX10_back_77 rfl ?_
                                    refine r_getR C flX10_61 dX10_back_78 rfl rfl rfl ?_
                                    refine r_iload_n C dX10_back_81 rfl ?_
                                    refine r_iload_n C dX10_back_82 rfl ?_
                                    refine r_ifeq C (tgt := 99) dX10_back_83 rfl (fun h83_34 => ?_) (fun h83_34 => ?_)
                                    · refine r_iconst C (v := 0) dX10_back_99 (by decide) ?_
                                      refine r_iast C rfl dX10_back_100 (vin (by decide) (by decide)) ?_
                                      refine r_aload_n C dX10_back_101 rfl ?_
                                      refine r_getR C flX10_64 dX10_back_102 rfl rfl rfl ?_
                                      refine r_iload_n C dX10_back_105 rfl ?_
                                      refine r_iload_n C dX10_back_106 rfl ?_
                                      refine r_ifeq C (tgt := 123) dX10_back_107 rfl (fun h107_35 => ?_) (fun h107_35 => ?_)
                                      · refine r_iconst C (v := 0) dX10_back_123 (by decide) ?_
                                        refine r_iast C rfl dX10_back_124 (vin (by decide) (by decide)) ?_
                                        refine r_iinc C (v := 1) dX10_back_125 rfl (by decide) rfl ?_
                                        refine r_goto C (tgt := 12) dX10_back_128 rfl ?_
                                        refine r_iload_n C dX10_back_12 rfl ?_
                                        refine r_iconst C (v := 3) dX10_back_13 (by decide) ?_
                                        refine b_icge C (tgt := 131) (my := 3) rfl rfl dX10_back_14 rfl (fun h14_36 => ?_) (fun h14_36 => ?_)
                                        · refine r_aload_n C dX10_back_131 rfl ?_
                                          refine r_aload_n C dX10_back_132 rfl ?_
                                          refine r_getR C flX10_67 dX10_back_133 rfl rfl rfl ?_
                                          refine r_bipush C (v := 12) dX10_back_136 (by decide) ?_
                                          refine r_iald C rfl dX10_back_138 (vin (by decide) (by decide)) ?_
                                          refine r_putI C flX10_93 dX10_back_139 rfl rfl rfl rfl rfl ?_
                                          refine r_aload_n C dX10_back_142 rfl ?_
                                          refine r_aload_n C dX10_back_143 rfl ?_
                                          refine r_getR C flX10_67 dX10_back_144 rfl rfl rfl ?_
                                          refine r_bipush C (v := 13) dX10_back_147 (by decide) ?_
                                          refine r_iald C rfl dX10_back_149 (vin (by decide) (by decide)) ?_
                                          refine r_putI C flX10_157 dX10_back_150 rfl rfl rfl rfl rfl ?_
                                          refine r_aload_n C dX10_back_153 rfl ?_
                                          refine r_aload_n C dX10_back_154 rfl ?_
                                          refine r_getR C flX10_67 dX10_back_155 rfl rfl rfl ?_
                                          refine r_bipush C (v := 14) dX10_back_158 (by decide) ?_
                                          refine r_iald C rfl dX10_back_160 (vin (by decide) (by decide)) ?_
                                          refine r_putI C flX10_160 dX10_back_161 rfl rfl rfl rfl rfl ?_
                                          refine r_aload_n C dX10_back_164 rfl ?_
                                          refine r_aload_n C dX10_back_165 rfl ?_
                                          refine r_getR C flX10_67 dX10_back_166 rfl rfl rfl ?_
                                          refine r_bipush C (v := 15) dX10_back_169 (by decide) ?_
                                          refine r_iald C rfl dX10_back_171 (vin (by decide) (by decide)) ?_
                                          refine r_putI C flX10_301 dX10_back_172 rfl rfl rfl rfl rfl ?_
                                          refine r_aload_n C dX10_back_175 rfl ?_
                                          refine r_aload_n C dX10_back_176 rfl ?_
                                          refine r_getR C flX10_67 dX10_back_177 rfl rfl rfl ?_
                                          refine r_bipush C (v := 16) dX10_back_180 (by decide) ?_
                                          refine r_iald C rfl dX10_back_182 (vin (by decide) (by decide)) ?_
                                          refine r_putI C flX10_304 dX10_back_183 rfl rfl rfl rfl rfl ?_
                                          refine r_aload_n C dX10_back_186 rfl ?_
                                          refine r_getI C flX10_93 dX10_back_187 rfl rfl ?_
                                          exact ri C Z dX10_back_190 (Or.inr ⟨by assumption, by rfl, (fun k hk => by
      rcases (show k = 0 ∨ k = 1 ∨ k = 2 by omega) with rfl | rfl | rfl
      · have c : ¬ (((0 : Nat)) : Int) < (I 64 41).toInt := Int.not_lt.mpr (show (I 64 41).toInt ≤ ((0 : Int32)).toInt by assumption)
        exact ⟨(if_neg c).symm, (if_neg c).symm, (if_neg c).symm, (if_neg c).symm⟩
      · have c : (((1 : Nat)) : Int) < (I 64 41).toInt := (show ((0 + 1 : Int32)).toInt < (I 64 41).toInt by assumption)
        exact ⟨(if_pos c).symm, (if_pos c).symm, (if_pos c).symm, (if_pos c).symm⟩
      · have c : ¬ (((2 : Nat)) : Int) < (I 64 41).toInt := Int.not_lt.mpr (show (I 64 41).toInt ≤ ((0 + 1 + 1 : Int32)).toInt by assumption)
        exact ⟨(if_neg c).symm, (if_neg c).symm, (if_neg c).symm, (if_neg c).symm⟩), ⟨rfl, rfl, rfl, rfl, rfl⟩, (((((((((((((((((FrM.rf.st (by decide) (by decide)).st (by decide) (by decide)).st (by decide) (by decide)).st (by decide) (by decide)).st (by decide) (by decide)).st (by decide) (by decide)).st (by decide) (by decide)).st (by decide) (by decide)).st (by decide) (by decide)).st (by decide) (by decide)).st (by decide) (by decide)).st (by decide) (by decide)).sf (by decide)).sf (by decide)).sf (by decide)).sf (by decide)).sf (by decide))⟩)
                                        · exact absurd (show ((0 + 1 + 1 + 1 : Int32)).toInt < (3 : Int) by assumption) (by decide)
                                      · exact absurd rfl (show ¬ (0 : Int32) = 0 by assumption)
                                    · exact absurd rfl (show ¬ (0 : Int32) = 0 by assumption)
                                  · exact absurd rfl (show ¬ (0 : Int32) = 0 by assumption)
                                · exact absurd rfl (show ¬ (0 : Int32) = 0 by assumption)
                              · refine r_iconst C (v := 1) dX10_back_25 (by decide) ?_
                                refine r_goto C (tgt := 30) dX10_back_26 rfl ?_
                                refine r_istore_n C dX10_back_30 rfl rfl ?_
                                refine r_aload_n C dX10_back_31 rfl ?_
                                refine r_getR C flX10_22 dX10_back_32 rfl rfl rfl ?_
                                refine r_iload_n C dX10_back_35 rfl ?_
                                refine r_iload_n C dX10_back_36 rfl ?_
                                refine r_ifeq C (tgt := 51) dX10_back_37 rfl (fun h37_37 => ?_) (fun h37_37 => ?_)
                                · exact absurd (show (1 : Int32) = 0 by assumption) (by decide)
                                · refine r_aload_n C dX10_back_40 rfl ?_
                                  refine r_getR C flX10_67 dX10_back_41 rfl rfl rfl ?_
                                  refine r_iconst C (v := 4) dX10_back_44 (by decide) ?_
                                  refine r_iload_n C dX10_back_45 rfl ?_
                                  refine r_imul C dX10_back_46 ?_
                                  refine r_iald C rfl dX10_back_47 (vin (by decide) (by decide)) ?_
                                  refine r_goto C (tgt := 52) dX10_back_48 rfl ?_
                                  refine r_iast C rfl dX10_back_52 (vin (by decide) (by decide)) ?_
                                  refine r_aload_n C dX10_back_53 rfl ?_
                                  refine r_getR C flX10_58 dX10_back_54 rfl rfl rfl ?_
                                  refine r_iload_n C dX10_back_57 rfl ?_
                                  refine r_iload_n C dX10_back_58 rfl ?_
                                  refine r_ifeq C (tgt := 75) dX10_back_59 rfl (fun h59_38 => ?_) (fun h59_38 => ?_)
                                  · exact absurd (show (1 : Int32) = 0 by assumption) (by decide)
                                  · refine r_aload_n C dX10_back_62 rfl ?_
                                    refine r_getR C flX10_67 dX10_back_63 rfl rfl rfl ?_
                                    refine r_iconst C (v := 4) dX10_back_66 (by decide) ?_
                                    refine r_iload_n C dX10_back_67 rfl ?_
                                    refine r_imul C dX10_back_68 ?_
                                    refine r_iconst C (v := 1) dX10_back_69 (by decide) ?_
                                    refine r_iadd C dX10_back_70 ?_
                                    refine r_iald C rfl dX10_back_71 (vin (by decide) (by decide)) ?_
                                    refine r_goto C (tgt := 76) dX10_back_72 rfl ?_
                                    refine r_iast C rfl dX10_back_76 (vin (by decide) (by decide)) ?_
                                    refine r_aload_n C dX10_back_77 rfl ?_
                                    refine r_getR C flX10_61 dX10_back_78 rfl rfl rfl ?_
                                    refine r_iload_n C dX10_back_81 rfl ?_
                                    refine r_iload_n C dX10_back_82 rfl ?_
                                    refine r_ifeq C (tgt := 99) dX10_back_83 rfl (fun h83_39 => ?_) (fun h83_39 => ?_)
                                    · exact absurd (show (1 : Int32) = 0 by assumption) (by decide)
                                    · refine r_aload_n C dX10_back_86 rfl ?_
                                      refine r_getR C flX10_67 dX10_back_87 rfl rfl rfl ?_
                                      refine r_iconst C (v := 4) dX10_back_90 (by decide) ?_
                                      refine r_iload_n C dX10_back_91 rfl ?_
                                      refine r_imul C dX10_back_92 ?_
                                      refine r_iconst C (v := 2) dX10_back_93 (by decide) ?_
                                      refine r_iadd C dX10_back_94 ?_
                                      refine r_iald C rfl dX10_back_95 (vin (by decide) (by decide)) ?_
                                      refine r_goto C (tgt := 100) dX10_back_96 rfl ?_
                                      refine r_iast C rfl dX10_back_100 (vin (by decide) (by decide)) ?_
                                      refine r_aload_n C dX10_back_101 rfl ?_
                                      refine r_getR C flX10_64 dX10_back_102 rfl rfl rfl ?_
                                      refine r_iload_n C dX10_back_105 rfl ?_
                                      refine r_iload_n C dX10_back_106 rfl ?_
                                      refine r_ifeq C (tgt := 123) dX10_back_107 rfl (fun h107_40 => ?_) (fun h107_40 => ?_)
                                      · exact absurd (show (1 : Int32) = 0 by assumption) (by decide)
                                      · refine r_aload_n C dX10_back_110 rfl ?_
                                        refine r_getR C flX10_67 dX10_back_111 rfl rfl rfl ?_
                                        refine r_iconst C (v := 4) dX10_back_114 (by decide) ?_
                                        refine r_iload_n C dX10_back_115 rfl ?_
                                        refine r_imul C dX10_back_116 ?_
                                        refine r_iconst C (v := 3) dX10_back_117 (by decide) ?_
                                        refine r_iadd C dX10_back_118 ?_
                                        refine r_iald C rfl dX10_back_119 (vin (by decide) (by decide)) ?_
                                        refine r_goto C (tgt := 124) dX10_back_120 rfl ?_
                                        refine r_iast C rfl dX10_back_124 (vin (by decide) (by decide)) ?_
                                        refine r_iinc C (v := 1) dX10_back_125 rfl (by decide) rfl ?_
                                        refine r_goto C (tgt := 12) dX10_back_128 rfl ?_
                                        refine r_iload_n C dX10_back_12 rfl ?_
                                        refine r_iconst C (v := 3) dX10_back_13 (by decide) ?_
                                        refine b_icge C (tgt := 131) (my := 3) rfl rfl dX10_back_14 rfl (fun h14_41 => ?_) (fun h14_41 => ?_)
                                        · refine r_aload_n C dX10_back_131 rfl ?_
                                          refine r_aload_n C dX10_back_132 rfl ?_
                                          refine r_getR C flX10_67 dX10_back_133 rfl rfl rfl ?_
                                          refine r_bipush C (v := 12) dX10_back_136 (by decide) ?_
                                          refine r_iald C rfl dX10_back_138 (vin (by decide) (by decide)) ?_
                                          refine r_putI C flX10_93 dX10_back_139 rfl rfl rfl rfl rfl ?_
                                          refine r_aload_n C dX10_back_142 rfl ?_
                                          refine r_aload_n C dX10_back_143 rfl ?_
                                          refine r_getR C flX10_67 dX10_back_144 rfl rfl rfl ?_
                                          refine r_bipush C (v := 13) dX10_back_147 (by decide) ?_
                                          refine r_iald C rfl dX10_back_149 (vin (by decide) (by decide)) ?_
                                          refine r_putI C flX10_157 dX10_back_150 rfl rfl rfl rfl rfl ?_
                                          refine r_aload_n C dX10_back_153 rfl ?_
                                          refine r_aload_n C dX10_back_154 rfl ?_
                                          refine r_getR C flX10_67 dX10_back_155 rfl rfl rfl ?_
                                          refine r_bipush C (v := 14) dX10_back_158 (by decide) ?_
                                          refine r_iald C rfl dX10_back_160 (vin (by decide) (by decide)) ?_
                                          refine r_putI C flX10_160 dX10_back_161 rfl rfl rfl rfl rfl ?_
                                          refine r_aload_n C dX10_back_164 rfl ?_
                                          refine r_aload_n C dX10_back_165 rfl ?_
                                          refine r_getR C flX10_67 dX10_back_166 rfl rfl rfl ?_
                                          refine r_bipush C (v := 15) dX10_back_169 (by decide) ?_
                                          refine r_iald C rfl dX10_back_171 (vin (by decide) (by decide)) ?_
                                          refine r_putI C flX10_301 dX10_back_172 rfl rfl rfl rfl rfl ?_
                                          refine r_aload_n C dX10_back_175 rfl ?_
                                          refine r_aload_n C dX10_back_176 rfl ?_
                                          refine r_getR C flX10_67 dX10_back_177 rfl rfl rfl ?_
                                          refine r_bipush C (v := 16) dX10_back_180 (by decide) ?_
                                          refine r_iald C rfl dX10_back_182 (vin (by decide) (by decide)) ?_
                                          refine r_putI C flX10_304 dX10_back_183 rfl rfl rfl rfl rfl ?_
                                          refine r_aload_n C dX10_back_186 rfl ?_
                                          refine r_getI C flX10_93 dX10_back_187 rfl rfl ?_
                                          exact ri C Z dX10_back_190 (Or.inr ⟨by assumption, by rfl, (fun k hk => by
      rcases (show k = 0 ∨ k = 1 ∨ k = 2 by omega) with rfl | rfl | rfl
      · have c : ¬ (((0 : Nat)) : Int) < (I 64 41).toInt := Int.not_lt.mpr (show (I 64 41).toInt ≤ ((0 : Int32)).toInt by assumption)
        exact ⟨(if_neg c).symm, (if_neg c).symm, (if_neg c).symm, (if_neg c).symm⟩
      · have c : (((1 : Nat)) : Int) < (I 64 41).toInt := (show ((0 + 1 : Int32)).toInt < (I 64 41).toInt by assumption)
        exact ⟨(if_pos c).symm, (if_pos c).symm, (if_pos c).symm, (if_pos c).symm⟩
      · have c : (((2 : Nat)) : Int) < (I 64 41).toInt := (show ((0 + 1 + 1 : Int32)).toInt < (I 64 41).toInt by assumption)
        exact ⟨(if_pos c).symm, (if_pos c).symm, (if_pos c).symm, (if_pos c).symm⟩), ⟨rfl, rfl, rfl, rfl, rfl⟩, (((((((((((((((((FrM.rf.st (by decide) (by decide)).st (by decide) (by decide)).st (by decide) (by decide)).st (by decide) (by decide)).st (by decide) (by decide)).st (by decide) (by decide)).st (by decide) (by decide)).st (by decide) (by decide)).st (by decide) (by decide)).st (by decide) (by decide)).st (by decide) (by decide)).st (by decide) (by decide)).sf (by decide)).sf (by decide)).sf (by decide)).sf (by decide)).sf (by decide))⟩)
                                        · exact absurd (show ((0 + 1 + 1 + 1 : Int32)).toInt < (3 : Int) by assumption) (by decide)
              · exact absurd rfl (show ¬ (0 : Int32) = 0 by assumption)
            · exact absurd rfl (show ¬ (0 : Int32) = 0 by assumption)
          · exact absurd rfl (show ¬ (0 : Int32) = 0 by assumption)
        · exact absurd rfl (show ¬ (0 : Int32) = 0 by assumption)
      · refine r_iconst C (v := 1) dX10_back_25 (by decide) ?_
        refine r_goto C (tgt := 30) dX10_back_26 rfl ?_
        refine r_istore_n C dX10_back_30 rfl rfl ?_
        refine r_aload_n C dX10_back_31 rfl ?_
        refine r_getR C flX10_22 dX10_back_32 rfl rfl rfl ?_
        refine r_iload_n C dX10_back_35 rfl ?_
        refine r_iload_n C dX10_back_36 rfl ?_
        refine r_ifeq C (tgt := 51) dX10_back_37 rfl (fun h37_42 => ?_) (fun h37_42 => ?_)
        · exact absurd (show (1 : Int32) = 0 by assumption) (by decide)
        · refine r_aload_n C dX10_back_40 rfl ?_
          refine r_getR C flX10_67 dX10_back_41 rfl rfl rfl ?_
          refine r_iconst C (v := 4) dX10_back_44 (by decide) ?_
          refine r_iload_n C dX10_back_45 rfl ?_
          refine r_imul C dX10_back_46 ?_
          refine r_iald C rfl dX10_back_47 (vin (by decide) (by decide)) ?_
          refine r_goto C (tgt := 52) dX10_back_48 rfl ?_
          refine r_iast C rfl dX10_back_52 (vin (by decide) (by decide)) ?_
          refine r_aload_n C dX10_back_53 rfl ?_
          refine r_getR C flX10_58 dX10_back_54 rfl rfl rfl ?_
          refine r_iload_n C dX10_back_57 rfl ?_
          refine r_iload_n C dX10_back_58 rfl ?_
          refine r_ifeq C (tgt := 75) dX10_back_59 rfl (fun h59_43 => ?_) (fun h59_43 => ?_)
          · exact absurd (show (1 : Int32) = 0 by assumption) (by decide)
          · refine r_aload_n C dX10_back_62 rfl ?_
            refine r_getR C flX10_67 dX10_back_63 rfl rfl rfl ?_
            refine r_iconst C (v := 4) dX10_back_66 (by decide) ?_
            refine r_iload_n C dX10_back_67 rfl ?_
            refine r_imul C dX10_back_68 ?_
            refine r_iconst C (v := 1) dX10_back_69 (by decide) ?_
            refine r_iadd C dX10_back_70 ?_
            refine r_iald C rfl dX10_back_71 (vin (by decide) (by decide)) ?_
            refine r_goto C (tgt := 76) dX10_back_72 rfl ?_
            refine r_iast C rfl dX10_back_76 (vin (by decide) (by decide)) ?_
            refine r_aload_n C dX10_back_77 rfl ?_
            refine r_getR C flX10_61 dX10_back_78 rfl rfl rfl ?_
            refine r_iload_n C dX10_back_81 rfl ?_
            refine r_iload_n C dX10_back_82 rfl ?_
            refine r_ifeq C (tgt := 99) dX10_back_83 rfl (fun h83_44 => ?_) (fun h83_44 => ?_)
            · exact absurd (show (1 : Int32) = 0 by assumption) (by decide)
            · refine r_aload_n C dX10_back_86 rfl ?_
              refine r_getR C flX10_67 dX10_back_87 rfl rfl rfl ?_
              refine r_iconst C (v := 4) dX10_back_90 (by decide) ?_
              refine r_iload_n C dX10_back_91 rfl ?_
              refine r_imul C dX10_back_92 ?_
              refine r_iconst C (v := 2) dX10_back_93 (by decide) ?_
              refine r_iadd C dX10_back_94 ?_
              refine r_iald C rfl dX10_back_95 (vin (by decide) (by decide)) ?_
              refine r_goto C (tgt := 100) dX10_back_96 rfl ?_
              refine r_iast C rfl dX10_back_100 (vin (by decide) (by decide)) ?_
              refine r_aload_n C dX10_back_101 rfl ?_
              refine r_getR C flX10_64 dX10_back_102 rfl rfl rfl ?_
              refine r_iload_n C dX10_back_105 rfl ?_
              refine r_iload_n C dX10_back_106 rfl ?_
              refine r_ifeq C (tgt := 123) dX10_back_107 rfl (fun h107_45 => ?_) (fun h107_45 => ?_)
              · exact absurd (show (1 : Int32) = 0 by assumption) (by decide)
              · refine r_aload_n C dX10_back_110 rfl ?_
                refine r_getR C flX10_67 dX10_back_111 rfl rfl rfl ?_
                refine r_iconst C (v := 4) dX10_back_114 (by decide) ?_
                refine r_iload_n C dX10_back_115 rfl ?_
                refine r_imul C dX10_back_116 ?_
                refine r_iconst C (v := 3) dX10_back_117 (by decide) ?_
                refine r_iadd C dX10_back_118 ?_
                refine r_iald C rfl dX10_back_119 (vin (by decide) (by decide)) ?_
                refine r_goto C (tgt := 124) dX10_back_120 rfl ?_
                refine r_iast C rfl dX10_back_124 (vin (by decide) (by decide)) ?_
                refine r_iinc C (v := 1) dX10_back_125 rfl (by decide) rfl ?_
                refine r_goto C (tgt := 12) dX10_back_128 rfl ?_
                refine r_iload_n C dX10_back_12 rfl ?_
                refine r_iconst C (v := 3) dX10_back_13 (by decide) ?_
                refine b_icge C (tgt := 131) (my := 3) rfl rfl dX10_back_14 rfl (fun h14_46 => ?_) (fun h14_46 => ?_)
                · exact absurd (show (3 : Int) ≤ ((0 + 1 : Int32)).toInt by assumption) (by decide)
                · refine r_iload_n C dX10_back_17 rfl ?_
                  refine r_aload_n C dX10_back_18 rfl ?_
                  refine r_getI C flX10_310 dX10_back_19 rfl rfl ?_
                  refine b_icge C (tgt := 29) rfl rfl dX10_back_22 rfl (fun h22_47 => ?_) (fun h22_47 => ?_)
                  · refine r_iconst C (v := 0) dX10_back_29 (by decide) ?_
                    refine r_istore_n C dX10_back_30 rfl rfl ?_
                    refine r_aload_n C dX10_back_31 rfl ?_
                    refine r_getR C flX10_22 dX10_back_32 rfl rfl rfl ?_
                    refine r_iload_n C dX10_back_35 rfl ?_
                    refine r_iload_n C dX10_back_36 rfl ?_
                    refine r_ifeq C (tgt := 51) dX10_back_37 rfl (fun h37_48 => ?_) (fun h37_48 => ?_)
                    · refine r_iconst C (v := 0) dX10_back_51 (by decide) ?_
                      refine r_iast C rfl dX10_back_52 (vin (by decide) (by decide)) ?_
                      refine r_aload_n C dX10_back_53 rfl ?_
                      refine r_getR C flX10_58 dX10_back_54 rfl rfl rfl ?_
                      refine r_iload_n C dX10_back_57 rfl ?_
                      refine r_iload_n C dX10_back_58 rfl ?_
                      refine r_ifeq C (tgt := 75) dX10_back_59 rfl (fun h59_49 => ?_) (fun h59_49 => ?_)
                      · refine r_iconst C (v := 0) dX10_back_75 (by decide) ?_
                        refine r_iast C rfl dX10_back_76 (vin (by decide) (by decide)) ?_
                        refine r_aload_n C dX10_back_77 rfl ?_
                        refine r_getR C flX10_61 dX10_back_78 rfl rfl rfl ?_
                        refine r_iload_n C dX10_back_81 rfl ?_
                        refine r_iload_n C dX10_back_82 rfl ?_
                        refine r_ifeq C (tgt := 99) dX10_back_83 rfl (fun h83_50 => ?_) (fun h83_50 => ?_)
                        · refine r_iconst C (v := 0) dX10_back_99 (by decide) ?_
                          refine r_iast C rfl dX10_back_100 (vin (by decide) (by decide)) ?_
                          refine r_aload_n C dX10_back_101 rfl ?_
                          refine r_getR C flX10_64 dX10_back_102 rfl rfl rfl ?_
                          refine r_iload_n C dX10_back_105 rfl ?_
                          refine r_iload_n C dX10_back_106 rfl ?_
                          refine r_ifeq C (tgt := 123) dX10_back_107 rfl (fun h107_51 => ?_) (fun h107_51 => ?_)
                          · refine r_iconst C (v := 0) dX10_back_123 (by decide) ?_
                            refine r_iast C rfl dX10_back_124 (vin (by decide) (by decide)) ?_
                            refine r_iinc C (v := 1) dX10_back_125 rfl (by decide) rfl ?_
                            refine r_goto C (tgt := 12) dX10_back_128 rfl ?_
                            refine r_iload_n C dX10_back_12 rfl ?_
                            refine r_iconst C (v := 3) dX10_back_13 (by decide) ?_
                            refine b_icge C (tgt := 131) (my := 3) rfl rfl dX10_back_14 rfl (fun h14_52 => ?_) (fun h14_52 => ?_)
                            · exact absurd (show (3 : Int) ≤ ((0 + 1 + 1 : Int32)).toInt by assumption) (by decide)
                            · refine r_iload_n C dX10_back_17 rfl ?_
                              refine r_aload_n C dX10_back_18 rfl ?_
                              refine r_getI C flX10_310 dX10_back_19 rfl rfl ?_
                              refine b_icge C (tgt := 29) rfl rfl dX10_back_22 rfl (fun h22_53 => ?_) (fun h22_53 => ?_)
                              · refine r_iconst C (v := 0) dX10_back_29 (by decide) ?_
                                refine r_istore_n C dX10_back_30 rfl rfl ?_
                                refine r_aload_n C dX10_back_31 rfl ?_
                                refine r_getR C flX10_22 dX10_back_32 rfl rfl rfl ?_
                                refine r_iload_n C dX10_back_35 rfl ?_
                                refine r_iload_n C dX10_back_36 rfl ?_
                                refine r_ifeq C (tgt := 51) dX10_back_37 rfl (fun h37_54 => ?_) (fun h37_54 => ?_)
                                · refine r_iconst C (v := 0) dX10_back_51 (by decide) ?_
                                  refine r_iast C rfl dX10_back_52 (vin (by decide) (by decide)) ?_
                                  refine r_aload_n C dX10_back_53 rfl ?_
                                  refine r_getR C flX10_58 dX10_back_54 rfl rfl rfl ?_
                                  refine r_iload_n C dX10_back_57 rfl ?_
                                  refine r_iload_n C dX10_back_58 rfl ?_
                                  refine r_ifeq C (tgt := 75) dX10_back_59 rfl (fun h59_55 => ?_) (fun h59_55 => ?_)
                                  · refine r_iconst C (v := 0) dX10_back_75 (by decide) ?_
                                    refine r_iast C rfl dX10_back_76 (vin (by decide) (by decide)) ?_
                                    refine r_aload_n C dX10_back_77 rfl ?_
                                    refine r_getR C flX10_61 dX10_back_78 rfl rfl rfl ?_
                                    refine r_iload_n C dX10_back_81 rfl ?_
                                    refine r_iload_n C dX10_back_82 rfl ?_
                                    refine r_ifeq C (tgt := 99) dX10_back_83 rfl (fun h83_56 => ?_) (fun h83_56 => ?_)
                                    · refine r_iconst C (v := 0) dX10_back_99 (by decide) ?_
                                      refine r_iast C rfl dX10_back_100 (vin (by decide) (by decide)) ?_
                                      refine r_aload_n C dX10_back_101 rfl ?_
                                      refine r_getR C flX10_64 dX10_back_102 rfl rfl rfl ?_
                                      refine r_iload_n C dX10_back_105 rfl ?_
                                      refine r_iload_n C dX10_back_106 rfl ?_
                                      refine r_ifeq C (tgt := 123) dX10_back_107 rfl (fun h107_57 => ?_) (fun h107_57 => ?_)
                                      · refine r_iconst C (v := 0) dX10_back_123 (by decide) ?_
                                        refine r_iast C rfl dX10_back_124 (vin (by decide) (by decide)) ?_
                                        refine r_iinc C (v := 1) dX10_back_125 rfl (by decide) rfl ?_
                                        refine r_goto C (tgt := 12) dX10_back_128 rfl ?_
                                        refine r_iload_n C dX10_back_12 rfl ?_
                                        refine r_iconst C (v := 3) dX10_back_13 (by decide) ?_
                                        refine b_icge C (tgt := 131) (my := 3) rfl rfl dX10_back_14 rfl (fun h14_58 => ?_) (fun h14_58 => ?_)
                                        · refine r_aload_n C dX10_back_131 rfl ?_
                                          refine r_aload_n C dX10_back_132 rfl ?_
                                          refine r_getR C flX10_67 dX10_back_133 rfl rfl rfl ?_
                                          refine r_bipush C (v := 12) dX10_back_136 (by decide) ?_
                                          refine r_iald C rfl dX10_back_138 (vin (by decide) (by decide)) ?_
                                          refine r_putI C flX10_93 dX10_back_139 rfl rfl rfl rfl rfl ?_
                                          refine r_aload_n C dX10_back_142 rfl ?_
                                          refine r_aload_n C dX10_back_143 rfl ?_
                                          refine r_getR C flX10_67 dX10_back_144 rfl rfl rfl ?_
                                          refine r_bipush C (v := 13) dX10_back_147 (by decide) ?_
                                          refine r_iald C rfl dX10_back_149 (vin (by decide) (by decide)) ?_
                                          refine r_putI C flX10_157 dX10_back_150 rfl rfl rfl rfl rfl ?_
                                          refine r_aload_n C dX10_back_153 rfl ?_
                                          refine r_aload_n C dX10_back_154 rfl ?_
                                          refine r_getR C flX10_67 dX10_back_155 rfl rfl rfl ?_
                                          refine r_bipush C (v := 14) dX10_back_158 (by decide) ?_
                                          refine r_iald C rfl dX10_back_160 (vin (by decide) (by decide)) ?_
                                          refine r_putI C flX10_160 dX10_back_161 rfl rfl rfl rfl rfl ?_
                                          refine r_aload_n C dX10_back_164 rfl ?_
                                          refine r_aload_n C dX10_back_165 rfl ?_
                                          refine r_getR C flX10_67 dX10_back_166 rfl rfl rfl ?_
                                          refine r_bipush C (v := 15) dX10_back_169 (by decide) ?_
                                          refine r_iald C rfl dX10_back_171 (vin (by decide) (by decide)) ?_
                                          refine r_putI C flX10_301 dX10_back_172 rfl rfl rfl rfl rfl ?_
                                          refine r_aload_n C dX10_back_175 rfl ?_
                                          refine r_aload_n C dX10_back_176 rfl ?_
                                          refine r_getR C flX10_67 dX10_back_177 rfl rfl rfl ?_
                                          refine r_bipush C (v := 16) dX10_back_180 (by decide) ?_
                                          refine r_iald C rfl dX10_back_182 (vin (by decide) (by decide)) ?_
                                          refine r_putI C flX10_304 dX10_back_183 rfl rfl rfl rfl rfl ?_
                                          refine r_aload_n C dX10_back_186 rfl ?_
                                          refine r_getI C flX10_93 dX10_back_187 rfl rfl ?_
                                          exact ri C Z dX10_back_190 (Or.inr ⟨by assumption, by rfl, (fun k hk => by
      rcases (show k = 0 ∨ k = 1 ∨ k = 2 by omega) with rfl | rfl | rfl
      · have c : (((0 : Nat)) : Int) < (I 64 41).toInt := (show ((0 : Int32)).toInt < (I 64 41).toInt by assumption)
        exact ⟨(if_pos c).symm, (if_pos c).symm, (if_pos c).symm, (if_pos c).symm⟩
      · have c : ¬ (((1 : Nat)) : Int) < (I 64 41).toInt := Int.not_lt.mpr (show (I 64 41).toInt ≤ ((0 + 1 : Int32)).toInt by assumption)
        exact ⟨(if_neg c).symm, (if_neg c).symm, (if_neg c).symm, (if_neg c).symm⟩
      · have c : ¬ (((2 : Nat)) : Int) < (I 64 41).toInt := Int.not_lt.mpr (show (I 64 41).toInt ≤ ((0 + 1 + 1 : Int32)).toInt by assumption)
        exact ⟨(if_neg c).symm, (if_neg c).symm, (if_neg c).symm, (if_neg c).symm⟩), ⟨rfl, rfl, rfl, rfl, rfl⟩, (((((((((((((((((FrM.rf.st (by decide) (by decide)).st (by decide) (by decide)).st (by decide) (by decide)).st (by decide) (by decide)).st (by decide) (by decide)).st (by decide) (by decide)).st (by decide) (by decide)).st (by decide) (by decide)).st (by decide) (by decide)).st (by decide) (by decide)).st (by decide) (by decide)).st (by decide) (by decide)).sf (by decide)).sf (by decide)).sf (by decide)).sf (by decide)).sf (by decide))⟩)
                                        · exact absurd (show ((0 + 1 + 1 + 1 : Int32)).toInt < (3 : Int) by assumption) (by decide)
                                      · exact absurd rfl (show ¬ (0 : Int32) = 0 by assumption)
                                    · exact absurd rfl (show ¬ (0 : Int32) = 0 by assumption)
                                  · exact absurd rfl (show ¬ (0 : Int32) = 0 by assumption)
                                · exact absurd rfl (show ¬ (0 : Int32) = 0 by assumption)
                              · refine r_iconst C (v := 1) dX10_back_25 (by decide) ?_
                                refine r_goto C (tgt := 30) dX10_back_26 rfl ?_
                                refine r_istore_n C dX10_back_30 rfl rfl ?_
                                refine r_aload_n C dX10_back_31 rfl ?_
                                refine r_getR C flX10_22 dX10_back_32 rfl rfl rfl ?_
                                refine r_iload_n C dX10_back_35 rfl ?_
                                refine r_iload_n C dX10_back_36 rfl ?_
                                refine r_ifeq C (tgt := 51) dX10_back_37 rfl (fun h37_59 => ?_) (fun h37_59 => ?_)
                                · exact absurd (show (1 : Int32) = 0 by assumption) (by decide)
                                · refine r_aload_n C dX10_back_40 rfl ?_
                                  refine r_getR C flX10_67 dX10_back_41 rfl rfl rfl ?_
                                  refine r_iconst C (v := 4) dX10_back_44 (by decide) ?_
                                  refine r_iload_n C dX10_back_45 rfl ?_
                                  refine r_imul C dX10_back_46 ?_
                                  refine r_iald C rfl dX10_back_47 (vin (by decide) (by decide)) ?_
                                  refine r_goto C (tgt := 52) dX10_back_48 rfl ?_
                                  refine r_iast C rfl dX10_back_52 (vin (by decide) (by decide)) ?_
                                  refine r_aload_n C dX10_back_53 rfl ?_
                                  refine r_getR C flX10_58 dX10_back_54 rfl rfl rfl ?_
                                  refine r_iload_n C dX10_back_57 rfl ?_
                                  refine r_iload_n C dX10_back_58 rfl ?_
                                  refine r_ifeq C (tgt := 75) dX10_back_59 rfl (fun h59_60 => ?_) (fun h59_60 => ?_)
                                  · exact absurd (show (1 : Int32) = 0 by assumption) (by decide)
                                  · refine r_aload_n C dX10_back_62 rfl ?_
                                    refine r_getR C flX10_67 dX10_back_63 rfl rfl rfl ?_
                                    refine r_iconst C (v := 4) dX10_back_66 (by decide) ?_
                                    refine r_iload_n C dX10_back_67 rfl ?_
                                    refine r_imul C dX10_back_68 ?_
                                    refine r_iconst C (v := 1) dX10_back_69 (by decide) ?_
                                    refine r_iadd C dX10_back_70 ?_
                                    refine r_iald C rfl dX10_back_71 (vin (by decide) (by decide)) ?_
                                    refine r_goto C (tgt := 76) dX10_back_72 rfl ?_
                                    refine r_iast C rfl dX10_back_76 (vin (by decide) (by decide)) ?_
                                    refine r_aload_n C dX10_back_77 rfl ?_
                                    refine r_getR C flX10_61 dX10_back_78 rfl rfl rfl ?_
                                    refine r_iload_n C dX10_back_81 rfl ?_
                                    refine r_iload_n C dX10_back_82 rfl ?_
                                    refine r_ifeq C (tgt := 99) dX10_back_83 rfl (fun h83_61 => ?_) (fun h83_61 => ?_)
                                    · exact absurd (show (1 : Int32) = 0 by assumption) (by decide)
                                    · refine r_aload_n C dX10_back_86 rfl ?_
                                      refine r_getR C flX10_67 dX10_back_87 rfl rfl rfl ?_
                                      refine r_iconst C (v := 4) dX10_back_90 (by decide) ?_
                                      refine r_iload_n C dX10_back_91 rfl ?_
                                      refine r_imul C dX10_back_92 ?_
                                      refine r_iconst C (v := 2) dX10_back_93 (by decide) ?_
                                      refine r_iadd C dX10_back_94 ?_
                                      refine r_iald C rfl dX10_back_95 (vin (by decide) (by decide)) ?_
                                      refine r_goto C (tgt := 100) dX10_back_96 rfl ?_
                                      refine r_iast C rfl dX10_back_100 (vin (by decide) (by decide)) ?_
                                      refine r_aload_n C dX10_back_101 rfl ?_
                                      refine r_getR C flX10_64 dX10_back_102 rfl rfl rfl ?_
                                      refine r_iload_n C dX10_back_105 rfl ?_
                                      refine r_iload_n C dX10_back_106 rfl ?_
                                      refine r_ifeq C (tgt := 123) dX10_back_107 rfl (fun h107_62 => ?_) (fun h107_62 => ?_)
                                      · exact absurd (show (1 : Int32) = 0 by assumption) (by decide)
                                      · refine r_aload_n C dX10_back_110 rfl ?_
                                        refine r_getR C flX10_67 dX10_back_111 rfl rfl rfl ?_
                                        refine r_iconst C (v := 4) dX10_back_114 (by decide) ?_
                                        refine r_iload_n C dX10_back_115 rfl ?_
                                        refine r_imul C dX10_back_116 ?_
                                        refine r_iconst C (v := 3) dX10_back_117 (by decide) ?_
                                        refine r_iadd C dX10_back_118 ?_
                                        refine r_iald C rfl dX10_back_119 (vin (by decide) (by decide)) ?_
                                        refine r_goto C (tgt := 124) dX10_back_120 rfl ?_
                                        refine r_iast C rfl dX10_back_124 (vin (by decide) (by decide)) ?_
                                        refine r_iinc C (v := 1) dX10_back_125 rfl (by decide) rfl ?_
                                        refine r_goto C (tgt := 12) dX10_back_128 rfl ?_
                                        refine r_iload_n C dX10_back_12 rfl ?_
                                        refine r_iconst C (v := 3) dX10_back_13 (by decide) ?_
                                        refine b_icge C (tgt := 131) (my := 3) rfl rfl dX10_back_14 rfl (fun h14_63 => ?_) (fun h14_63 => ?_)
                                        · refine r_aload_n C dX10_back_131 rfl ?_
                                          refine r_aload_n C dX10_back_132 rfl ?_
                                          refine r_getR C flX10_67 dX10_back_133 rfl rfl rfl ?_
                                          refine r_bipush C (v := 12) dX10_back_136 (by decide) ?_
                                          refine r_iald C rfl dX10_back_138 (vin (by decide) (by decide)) ?_
                                          refine r_putI C flX10_93 dX10_back_139 rfl rfl rfl rfl rfl ?_
                                          refine r_aload_n C dX10_back_142 rfl ?_
                                          refine r_aload_n C dX10_back_143 rfl ?_
                                          refine r_getR C flX10_67 dX10_back_144 rfl rfl rfl ?_
                                          refine r_bipush C (v := 13) dX10_back_147 (by decide) ?_
                                          refine r_iald C rfl dX10_back_149 (vin (by decide) (by decide)) ?_
                                          refine r_putI C flX10_157 dX10_back_150 rfl rfl rfl rfl rfl ?_
                                          refine r_aload_n C dX10_back_153 rfl ?_
                                          refine r_aload_n C dX10_back_154 rfl ?_
                                          refine r_getR C flX10_67 dX10_back_155 rfl rfl rfl ?_
                                          refine r_bipush C (v := 14) dX10_back_158 (by decide) ?_
                                          refine r_iald C rfl dX10_back_160 (vin (by decide) (by decide)) ?_
                                          refine r_putI C flX10_160 dX10_back_161 rfl rfl rfl rfl rfl ?_
                                          refine r_aload_n C dX10_back_164 rfl ?_
                                          refine r_aload_n C dX10_back_165 rfl ?_
                                          refine r_getR C flX10_67 dX10_back_166 rfl rfl rfl ?_
                                          refine r_bipush C (v := 15) dX10_back_169 (by decide) ?_
                                          refine r_iald C rfl dX10_back_171 (vin (by decide) (by decide)) ?_
                                          refine r_putI C flX10_301 dX10_back_172 rfl rfl rfl rfl rfl ?_
                                          refine r_aload_n C dX10_back_175 rfl ?_
                                          refine r_aload_n C dX10_back_176 rfl ?_
                                          refine r_getR C flX10_67 dX10_back_177 rfl rfl rfl ?_
                                          refine r_bipush C (v := 16) dX10_back_180 (by decide) ?_
                                          refine r_iald C rfl dX10_back_182 (vin (by decide) (by decide)) ?_
                                          refine r_putI C flX10_304 dX10_back_183 rfl rfl rfl rfl rfl ?_
                                          refine r_aload_n C dX10_back_186 rfl ?_
                                          refine r_getI C flX10_93 dX10_back_187 rfl rfl ?_
                                          exact ri C Z dX10_back_190 (Or.inr ⟨by assumption, by rfl, (fun k hk => by
      rcases (show k = 0 ∨ k = 1 ∨ k = 2 by omega) with rfl | rfl | rfl
      · have c : (((0 : Nat)) : Int) < (I 64 41).toInt := (show ((0 : Int32)).toInt < (I 64 41).toInt by assumption)
        exact ⟨(if_pos c).symm, (if_pos c).symm, (if_pos c).symm, (if_pos c).symm⟩
      · have c : ¬ (((1 : Nat)) : Int) < (I 64 41).toInt := Int.not_lt.mpr (show (I 64 41).toInt ≤ ((0 + 1 : Int32)).toInt by assumption)
        exact ⟨(if_neg c).symm, (if_neg c).symm, (if_neg c).symm, (if_neg c).symm⟩
      · have c : (((2 : Nat)) : Int) < (I 64 41).toInt := (show ((0 + 1 + 1 : Int32)).toInt < (I 64 41).toInt by assumption)
        exact ⟨(if_pos c).symm, (if_pos c).symm, (if_pos c).symm, (if_pos c).symm⟩), ⟨rfl, rfl, rfl, rfl, rfl⟩, (((((((((((((((((FrM.rf.st (by decide) (by decide)).st (by decide) (by decide)).st (by decide) (by decide)).st (by decide) (by decide)).st (by decide) (by decide)).st (by decide) (by decide)).st (by decide) (by decide)).st (by decide) (by decide)).st (by decide) (by decide)).st (by decide) (by decide)).st (by decide) (by decide)).st (by decide) (by decide)).sf (by decide)).sf (by decide)).sf (by decide)).sf (by decide)).sf (by decide))⟩)
                                        · exact absurd (show ((0 + 1 + 1 + 1 : Int32)).toInt < (3 : Int) by assumption) (by decide)
                          · exact absurd rfl (show ¬ (0 : Int32) = 0 by assumption)
                        · exact absurd rfl (show ¬ (0 : Int32) = 0 by assumption)
                      · exact absurd rfl (show ¬ (0 : Int32) = 0 by assumption)
                    · exact absurd rfl (show ¬ (0 : Int32) = 0 by assumption)
                  · refine r_iconst C (v := 1) dX10_back_25 (by decide) ?_
                    refine r_goto C (tgt := 30) dX10_back_26 rfl ?_
                    refine r_istore_n C dX10_back_30 rfl rfl ?_
                    refine r_aload_n C dX10_back_31 rfl ?_
                    refine r_getR C flX10_22 dX10_back_32 rfl rfl rfl ?_
                    refine r_iload_n C dX10_back_35 rfl ?_
                    refine r_iload_n C dX10_back_36 rfl ?_
                    refine r_ifeq C (tgt := 51) dX10_back_37 rfl (fun h37_64 => ?_) (fun h37_64 => ?_)
                    · exact absurd (show (1 : Int32) = 0 by assumption) (by decide)
                    · refine r_aload_n C dX10_back_40 rfl ?_
                      refine r_getR C flX10_67 dX10_back_41 rfl rfl rfl ?_
                      refine r_iconst C (v := 4) dX10_back_44 (by decide) ?_
                      refine r_iload_n C dX10_back_45 rfl ?_
                      refine r_imul C dX10_back_46 ?_
                      refine r_iald C rfl dX10_back_47 (vin (by decide) (by decide)) ?_
                      refine r_goto C (tgt := 52) dX10_back_48 rfl ?_
                      refine r_iast C rfl dX10_back_52 (vin (by decide) (by decide)) ?_
                      refine r_aload_n C dX10_back_53 rfl ?_
                      refine r_getR C flX10_58 dX10_back_54 rfl rfl rfl ?_
                      refine r_iload_n C dX10_back_57 rfl ?_
                      refine r_iload_n C dX10_back_58 rfl ?_
                      refine r_ifeq C (tgt := 75) dX10_back_59 rfl (fun h59_65 => ?_) (fun h59_65 => ?_)
                      · exact absurd (show (1 : Int32) = 0 by assumption) (by decide)
                      · refine r_aload_n C dX10_back_62 rfl ?_
                        refine r_getR C flX10_67 dX10_back_63 rfl rfl rfl ?_
                        refine r_iconst C (v := 4) dX10_back_66 (by decide) ?_
                        refine r_iload_n C dX10_back_67 rfl ?_
                        refine r_imul C dX10_back_68 ?_
                        refine r_iconst C (v := 1) dX10_back_69 (by decide) ?_
                        refine r_iadd C dX10_back_70 ?_
                        refine r_iald C rfl dX10_back_71 (vin (by decide) (by decide)) ?_
                        refine r_goto C (tgt := 76) dX10_back_72 rfl ?_
                        refine r_iast C rfl dX10_back_76 (vin (by decide) (by decide)) ?_
                        refine r_aload_n C dX10_back_77 rfl ?_
                        refine r_getR C flX10_61 dX10_back_78 rfl rfl rfl ?_
                        refine r_iload_n C dX10_back_81 rfl ?_
                        refine r_iload_n C dX10_back_82 rfl ?_
                        refine r_ifeq C (tgt := 99) dX10_back_83 rfl (fun h83_66 => ?_) (fun h83_66 => ?_)
                        · exact absurd (show (1 : Int32) = 0 by assumption) (by decide)
                        · refine r_aload_n C dX10_back_86 rfl ?_
                          refine r_getR C flX10_67 dX10_back_87 rfl rfl rfl ?_
                          refine r_iconst C (v := 4) dX10_back_90 (by decide) ?_
                          refine r_iload_n C dX10_back_91 rfl ?_
                          refine r_imul C dX10_back_92 ?_
                          refine r_iconst C (v := 2) dX10_back_93 (by decide) ?_
                          refine r_iadd C dX10_back_94 ?_
                          refine r_iald C rfl dX10_back_95 (vin (by decide) (by decide)) ?_
                          refine r_goto C (tgt := 100) dX10_back_96 rfl ?_
                          refine r_iast C rfl dX10_back_100 (vin (by decide) (by decide)) ?_
                          refine r_aload_n C dX10_back_101 rfl ?_
                          refine r_getR C flX10_64 dX10_back_102 rfl rfl rfl ?_
                          refine r_iload_n C dX10_back_105 rfl ?_
                          refine r_iload_n C dX10_back_106 rfl ?_
                          refine r_ifeq C (tgt := 123) dX10_back_107 rfl (fun h107_67 => ?_) (fun h107_67 => ?_)
                          · exact absurd (show (1 : Int32) = 0 by assumption) (by decide)
                          · refine r_aload_n C dX10_back_110 rfl ?_
                            refine r_getR C flX10_67 dX10_back_111 rfl rfl rfl ?_
                            refine r_iconst C (v := 4) dX10_back_114 (by decide) ?_
                            refine r_iload_n C dX10_back_115 rfl ?_
                            refine r_imul C dX10_back_116 ?_
                            refine r_iconst C (v := 3) dX10_back_117 (by decide) ?_
                            refine r_iadd C dX10_back_118 ?_
                            refine r_iald C rfl dX10_back_119 (vin (by decide) (by decide)) ?_
                            refine r_goto C (tgt := 124) dX10_back_120 rfl ?_
                            refine r_iast C rfl dX10_back_124 (vin (by decide) (by decide)) ?_
                            refine r_iinc C (v := 1) dX10_back_125 rfl (by decide) rfl ?_
                            refine r_goto C (tgt := 12) dX10_back_128 rfl ?_
                            refine r_iload_n C dX10_back_12 rfl ?_
                            refine r_iconst C (v := 3) dX10_back_13 (by decide) ?_
                            refine b_icge C (tgt := 131) (my := 3) rfl rfl dX10_back_14 rfl (fun h14_68 => ?_) (fun h14_68 => ?_)
                            · exact absurd (show (3 : Int) ≤ ((0 + 1 + 1 : Int32)).toInt by assumption) (by decide)
                            · refine r_iload_n C dX10_back_17 rfl ?_
                              refine r_aload_n C dX10_back_18 rfl ?_
                              refine r_getI C flX10_310 dX10_back_19 rfl rfl ?_
                              refine b_icge C (tgt := 29) rfl rfl dX10_back_22 rfl (fun h22_69 => ?_) (fun h22_69 => ?_)
                              · refine r_iconst C (v := 0) dX10_back_29 (by decide) ?_
                                refine r_istore_n C dX10_back_30 rfl rfl ?_
                                refine r_aload_n C dX10_back_31 rfl ?_
                                refine r_getR C flX10_22 dX10_back_32 rfl rfl rfl ?_
                                refine r_iload_n C dX10_back_35 rfl ?_
                                refine r_iload_n C dX10_back_36 rfl ?_
                                refine r_ifeq C (tgt := 51) dX10_back_37 rfl (fun h37_70 => ?_) (fun h37_70 => ?_)
                                · refine r_iconst C (v := 0) dX10_back_51 (by decide) ?_
                                  refine r_iast C rfl dX10_back_52 (vin (by decide) (by decide)) ?_
                                  refine r_aload_n C dX10_back_53 rfl ?_
                                  refine r_getR C flX10_58 dX10_back_54 rfl rfl rfl ?_
                                  refine r_iload_n C dX10_back_57 rfl ?_
                                  refine r_iload_n C dX10_back_58 rfl ?_
                                  refine r_ifeq C (tgt := 75) dX10_back_59 rfl (fun h59_71 => ?_) (fun h59_71 => ?_)
                                  · refine r_iconst C (v := 0) dX10_back_75 (by decide) ?_
                                    refine r_iast C rfl dX10_back_76 (vin (by decide) (by decide)) ?_
                                    refine r_aload_n C dX10_back_77 rfl ?_
                                    refine r_getR C flX10_61 dX10_back_78 rfl rfl rfl ?_
                                    refine r_iload_n C dX10_back_81 rfl ?_
                                    refine r_iload_n C dX10_back_82 rfl ?_
                                    refine r_ifeq C (tgt := 99) dX10_back_83 rfl (fun h83_72 => ?_) (fun h83_72 => ?_)
                                    · refine r_iconst C (v := 0) dX10_back_99 (by decide) ?_
                                      refine r_iast C rfl dX10_back_100 (vin (by decide) (by decide)) ?_
                                      refine r_aload_n C dX10_back_101 rfl ?_
                                      refine r_getR C flX10_64 dX10_back_102 rfl rfl rfl ?_
                                      refine r_iload_n C dX10_back_105 rfl ?_
                                      refine r_iload_n C dX10_back_106 rfl ?_
                                      refine r_ifeq C (tgt := 123) dX10_back_107 rfl (fun h107_73 => ?_) (fun h107_73 => ?_)
                                      · refine r_iconst C (v := 0) dX10_back_123 (by decide) ?_
                                        refine r_iast C rfl dX10_back_124 (vin (by decide) (by decide)) ?_
                                        refine r_iinc C (v := 1) dX10_back_125 rfl (by decide) rfl ?_
                                        refine r_goto C (tgt := 12) dX10_back_128 rfl ?_
                                        refine r_iload_n C dX10_back_12 rfl ?_
                                        refine r_iconst C (v := 3) dX10_back_13 (by decide) ?_
                                        refine b_icge C (tgt := 131) (my := 3) rfl rfl dX10_back_14 rfl (fun h14_74 => ?_) (fun h14_74 => ?_)
                                        · refine r_aload_n C dX10_back_131 rfl ?_
                                          refine r_aload_n C dX10_back_132 rfl ?_
                                          refine r_getR C flX10_67 dX10_back_133 rfl rfl rfl ?_
                                          refine r_bipush C (v := 12) dX10_back_136 (by decide) ?_
                                          refine r_iald C rfl dX10_back_138 (vin (by decide) (by decide)) ?_
                                          refine r_putI C flX10_93 dX10_back_139 rfl rfl rfl rfl rfl ?_
                                          refine r_aload_n C dX10_back_142 rfl ?_
                                          refine r_aload_n C dX10_back_143 rfl ?_
                                          refine r_getR C flX10_67 dX10_back_144 rfl rfl rfl ?_
                                          refine r_bipush C (v := 13) dX10_back_147 (by decide) ?_
                                          refine r_iald C rfl dX10_back_149 (vin (by decide) (by decide)) ?_
                                          refine r_putI C flX10_157 dX10_back_150 rfl rfl rfl rfl rfl ?_
                                          refine r_aload_n C dX10_back_153 rfl ?_
                                          refine r_aload_n C dX10_back_154 rfl ?_
                                          refine r_getR C flX10_67 dX10_back_155 rfl rfl rfl ?_
                                          refine r_bipush C (v := 14) dX10_back_158 (by decide) ?_
                                          refine r_iald C rfl dX10_back_160 (vin (by decide) (by decide)) ?_
                                          refine r_putI C flX10_160 dX10_back_161 rfl rfl rfl rfl rfl ?_
                                          refine r_aload_n C dX10_back_164 rfl ?_
                                          refine r_aload_n C dX10_back_165 rfl ?_
                                          refine r_getR C flX10_67 dX10_back_166 rfl rfl rfl ?_
                                          refine r_bipush C (v := 15) dX10_back_169 (by decide) ?_
                                          refine r_iald C rfl dX10_back_171 (vin (by decide) (by decide)) ?_
                                          refine r_putI C flX10_301 dX10_back_172 rfl rfl rfl rfl rfl ?_
                                          refine r_aload_n C dX10_back_175 rfl ?_
                                          refine r_aload_n C dX10_back_176 rfl ?_
                                          refine r_getR C flX10_67 dX10_back_177 rfl rfl rfl ?_
                                          refine r_bipush C (v := 16) dX10_back_180 (by decide) ?_
                                          refine r_iald C rfl dX10_back_182 (vin (by decide) (by decide)) ?_
                                          refine r_putI C flX10_304 dX10_back_183 rfl rfl rfl rfl rfl ?_
                                          refine r_aload_n C dX10_back_186 rfl ?_
                                          refine r_getI C flX10_93 dX10_back_187 rfl rfl ?_
                                          exact ri C Z dX10_back_190 (Or.inr ⟨by assumption, by rfl, (fun k hk => by
      rcases (show k = 0 ∨ k = 1 ∨ k = 2 by omega) with rfl | rfl | rfl
      · have c : (((0 : Nat)) : Int) < (I 64 41).toInt := (show ((0 : Int32)).toInt < (I 64 41).toInt by assumption)
        exact ⟨(if_pos c).symm, (if_pos c).symm, (if_pos c).symm, (if_pos c).symm⟩
      · have c : (((1 : Nat)) : Int) < (I 64 41).toInt := (show ((0 + 1 : Int32)).toInt < (I 64 41).toInt by assumption)
        exact ⟨(if_pos c).symm, (if_pos c).symm, (if_pos c).symm, (if_pos c).symm⟩
      · have c : ¬ (((2 : Nat)) : Int) < (I 64 41).toInt := Int.not_lt.mpr (show (I 64 41).toInt ≤ ((0 + 1 + 1 : Int32)).toInt by assumption)
        exact ⟨(if_neg c).symm, (if_neg c).symm, (if_neg c).symm, (if_neg c).symm⟩), ⟨rfl, rfl, rfl, rfl, rfl⟩, (((((((((((((((((FrM.rf.st (by decide) (by decide)).st (by decide) (by decide)).st (by decide) (by decide)).st (by decide) (by decide)).st (by decide) (by decide)).st (by decide) (by decide)).st (by decide) (by decide)).st (by decide) (by decide)).st (by decide) (by decide)).st (by decide) (by decide)).st (by decide) (by decide)).st (by decide) (by decide)).sf (by decide)).sf (by decide)).sf (by decide)).sf (by decide)).sf (by decide))⟩)
                                        · exact absurd (show ((0 + 1 + 1 + 1 : Int32)).toInt < (3 : Int) by assumption) (by decide)
                                      · exact absurd rfl (show ¬ (0 : Int32) = 0 by assumption)
                                    · exact absurd rfl (show ¬ (0 : Int32) = 0 by assumption)
                                  · exact absurd rfl (show ¬ (0 : Int32) = 0 by assumption)
                                · exact absurd rfl (show ¬ (0 : Int32) = 0 by assumption)
                              · refine r_iconst C (v := 1) dX10_back_25 (by decide) ?_
                                refine r_goto C (tgt := 30) dX10_back_26 rfl ?_
                                refine r_istore_n C dX10_back_30 rfl rfl ?_
                                refine r_aload_n C dX10_back_31 rfl ?_
                                refine r_getR C flX10_22 dX10_back_32 rfl rfl rfl ?_
                                refine r_iload_n C dX10_back_35 rfl ?_
                                refine r_iload_n C dX10_back_36 rfl ?_
                                refine r_ifeq C (tgt := 51) dX10_back_37 rfl (fun h37_75 => ?_) (fun h37_75 => ?_)
                                · exact absurd (show (1 : Int32) = 0 by assumption) (by decide)
                                · refine r_aload_n C dX10_back_40 rfl ?_
                                  refine r_getR C flX10_67 dX10_back_41 rfl rfl rfl ?_
                                  refine r_iconst C (v := 4) dX10_back_44 (by decide) ?_
                                  refine r_iload_n C dX10_back_45 rfl ?_
                                  refine r_imul C dX10_back_46 ?_
                                  refine r_iald C rfl dX10_back_47 (vin (by decide) (by decide)) ?_
                                  refine r_goto C (tgt := 52) dX10_back_48 rfl ?_
                                  refine r_iast C rfl dX10_back_52 (vin (by decide) (by decide)) ?_
                                  refine r_aload_n C dX10_back_53 rfl ?_
                                  refine r_getR C flX10_58 dX10_back_54 rfl rfl rfl ?_
                                  refine r_iload_n C dX10_back_57 rfl ?_
                                  refine r_iload_n C dX10_back_58 rfl ?_
                                  refine r_ifeq C (tgt := 75) dX10_back_59 rfl (fun h59_76 => ?_) (fun h59_76 => ?_)
                                  · exact absurd (show (1 : Int32) = 0 by assumption) (by decide)
                                  · refine r_aload_n C dX10_back_62 rfl ?_
                                    refine r_getR C flX10_67 dX10_back_63 rfl rfl rfl ?_
                                    refine r_iconst C (v := 4) dX10_back_66 (by decide) ?_
                                    refine r_iload_n C dX10_back_67 rfl ?_
                                    refine r_imul C dX10_back_68 ?_
                                    refine r_iconst C (v := 1) dX10_back_69 (by decide) ?_
                                    refine r_iadd C dX10_back_70 ?_
                                    refine r_iald C rfl dX10_back_71 (vin (by decide) (by decide)) ?_
                                    refine r_goto C (tgt := 76) dX10_back_72 rfl ?_
                                    refine r_iast C rfl dX10_back_76 (vin (by decide) (by decide)) ?_
                                    refine r_aload_n C dX10_back_77 rfl ?_
                                    refine r_getR C flX10_61 dX10_back_78 rfl rfl rfl ?_
                                    refine r_iload_n C dX10_back_81 rfl ?_
                                    refine r_iload_n C dX10_back_82 rfl ?_
                                    refine r_ifeq C (tgt := 99) dX10_back_83 rfl (fun h83_77 => ?_) (fun h83_77 => ?_)
                                    · exact absurd (show (1 : Int32) = 0 by assumption) (by decide)
                                    · refine r_aload_n C dX10_back_86 rfl ?_
                                      refine r_getR C flX10_67 dX10_back_87 rfl rfl rfl ?_
                                      refine r_iconst C (v := 4) dX10_back_90 (by decide) ?_
                                      refine r_iload_n C dX10_back_91 rfl ?_
                                      refine r_imul C dX10_back_92 ?_
                                      refine r_iconst C (v := 2) dX10_back_93 (by decide) ?_
                                      refine r_iadd C dX10_back_94 ?_
                                      refine r_iald C rfl dX10_back_95 (vin (by decide) (by decide)) ?_
                                      refine r_goto C (tgt := 100) dX10_back_96 rfl ?_
                                      refine r_iast C rfl dX10_back_100 (vin (by decide) (by decide)) ?_
                                      refine r_aload_n C dX10_back_101 rfl ?_
                                      refine r_getR C flX10_64 dX10_back_102 rfl rfl rfl ?_
                                      refine r_iload_n C dX10_back_105 rfl ?_
                                      refine r_iload_n C dX10_back_106 rfl ?_
                                      refine r_ifeq C (tgt := 123) dX10_back_107 rfl (fun h107_78 => ?_) (fun h107_78 => ?_)
                                      · exact absurd (show (1 : Int32) = 0 by assumption) (by decide)
                                      · refine r_aload_n C dX10_back_110 rfl ?_
                                        refine r_getR C flX10_67 dX10_back_111 rfl rfl rfl ?_
                                        refine r_iconst C (v := 4) dX10_back_114 (by decide) ?_
                                        refine r_iload_n C dX10_back_115 rfl ?_
                                        refine r_imul C dX10_back_116 ?_
                                        refine r_iconst C (v := 3) dX10_back_117 (by decide) ?_
                                        refine r_iadd C dX10_back_118 ?_
                                        refine r_iald C rfl dX10_back_119 (vin (by decide) (by decide)) ?_
                                        refine r_goto C (tgt := 124) dX10_back_120 rfl ?_
                                        refine r_iast C rfl dX10_back_124 (vin (by decide) (by decide)) ?_
                                        refine r_iinc C (v := 1) dX10_back_125 rfl (by decide) rfl ?_
                                        refine r_goto C (tgt := 12) dX10_back_128 rfl ?_
                                        refine r_iload_n C dX10_back_12 rfl ?_
                                        refine r_iconst C (v := 3) dX10_back_13 (by decide) ?_
                                        refine b_icge C (tgt := 131) (my := 3) rfl rfl dX10_back_14 rfl (fun h14_79 => ?_) (fun h14_79 => ?_)
                                        · refine r_aload_n C dX10_back_131 rfl ?_
                                          refine r_aload_n C dX10_back_132 rfl ?_
                                          refine r_getR C flX10_67 dX10_back_133 rfl rfl rfl ?_
                                          refine r_bipush C (v := 12) dX10_back_136 (by decide) ?_
                                          refine r_iald C rfl dX10_back_138 (vin (by decide) (by decide)) ?_
                                          refine r_putI C flX10_93 dX10_back_139 rfl rfl rfl rfl rfl ?_
                                          refine r_aload_n C dX10_back_142 rfl ?_
                                          refine r_aload_n C dX10_back_143 rfl ?_
                                          refine r_getR C flX10_67 dX10_back_144 rfl rfl rfl ?_
                                          refine r_bipush C (v := 13) dX10_back_147 (by decide) ?_
                                          refine r_iald C rfl dX10_back_149 (vin (by decide) (by decide)) ?_
                                          refine r_putI C flX10_157 dX10_back_150 rfl rfl rfl rfl rfl ?_
                                          refine r_aload_n C dX10_back_153 rfl ?_
                                          refine r_aload_n C dX10_back_154 rfl ?_
                                          refine r_getR C flX10_67 dX10_back_155 rfl rfl rfl ?_
                                          refine r_bipush C (v := 14) dX10_back_158 (by decide) ?_
                                          refine r_iald C rfl dX10_back_160 (vin (by decide) (by decide)) ?_
                                          refine r_putI C flX10_160 dX10_back_161 rfl rfl rfl rfl rfl ?_
                                          refine r_aload_n C dX10_back_164 rfl ?_
                                          refine r_aload_n C dX10_back_165 rfl ?_
                                          refine r_getR C flX10_67 dX10_back_166 rfl rfl rfl ?_
                                          refine r_bipush C (v := 15) dX10_back_169 (by decide) ?_
                                          refine r_iald C rfl dX10_back_171 (vin (by decide) (by decide)) ?_
                                          refine r_putI C flX10_301 dX10_back_172 rfl rfl rfl rfl rfl ?_
                                          refine r_aload_n C dX10_back_175 rfl ?_
                                          refine r_aload_n C dX10_back_176 rfl ?_
                                          refine r_getR C flX10_67 dX10_back_177 rfl rfl rfl ?_
                                          refine r_bipush C (v := 16) dX10_back_180 (by decide) ?_
                                          refine r_iald C rfl dX10_back_182 (vin (by decide) (by decide)) ?_
                                          refine r_putI C flX10_304 dX10_back_183 rfl rfl rfl rfl rfl ?_
                                          refine r_aload_n C dX10_back_186 rfl ?_
                                          refine r_getI C flX10_93 dX10_back_187 rfl rfl ?_
                                          exact ri C Z dX10_back_190 (Or.inr ⟨by assumption, by rfl, (fun k hk => by
      rcases (show k = 0 ∨ k = 1 ∨ k = 2 by omega) with rfl | rfl | rfl
      · have c : (((0 : Nat)) : Int) < (I 64 41).toInt := (show ((0 : Int32)).toInt < (I 64 41).toInt by assumption)
        exact ⟨(if_pos c).symm, (if_pos c).symm, (if_pos c).symm, (if_pos c).symm⟩
      · have c : (((1 : Nat)) : Int) < (I 64 41).toInt := (show ((0 + 1 : Int32)).toInt < (I 64 41).toInt by assumption)
        exact ⟨(if_pos c).symm, (if_pos c).symm, (if_pos c).symm, (if_pos c).symm⟩
      · have c : (((2 : Nat)) : Int) < (I 64 41).toInt := (show ((0 + 1 + 1 : Int32)).toInt < (I 64 41).toInt by assumption)
        exact ⟨(if_pos c).symm, (if_pos c).symm, (if_pos c).symm, (if_pos c).symm⟩), ⟨rfl, rfl, rfl, rfl, rfl⟩, (((((((((((((((((FrM.rf.st (by decide) (by decide)).st (by decide) (by decide)).st (by decide) (by decide)).st (by decide) (by decide)).st (by decide) (by decide)).st (by decide) (by decide)).st (by decide) (by decide)).st (by decide) (by decide)).st (by decide) (by decide)).st (by decide) (by decide)).st (by decide) (by decide)).st (by decide) (by decide)).sf (by decide)).sf (by decide)).sf (by decide)).sf (by decide)).sf (by decide))⟩)
                                        · exact absurd (show ((0 + 1 + 1 + 1 : Int32)).toInt < (3 : Int) by assumption) (by decide)
  · refine r_bipush C (v := -5) dX10_back_7 (by decide) ?_
    exact ri C Z dX10_back_9 (Or.inl ⟨by assumption, rfl, rfl⟩)
