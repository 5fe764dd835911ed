set_option maxRecDepth 100000 in
theorem sX9_addStraw {g : Gb} {d : Nat} (hd : 2 ≤ d) (t : Nat) (ht : isSh t) (p : Int32) (I : Is) (J : Js) (b : Bool) (h0 : 0 ≤ (I 1 1).toInt) (hp : 0 ≤ p.toInt ∧ p.toInt ≤ 57) : MC9 g d mX9_addStraw [.ref 0, .ref t, .int p] I J b (Qi J b (fun v I' => (¬ (fitP 0 ((J (t + 1) (ix p)).toInt32) ∧ fitP 1 ((J (t + 1) (ix (p + 1))).toInt32) ∧ fitP 2 ((J (t + 1) (ix (p + 2))).toInt32)) ∧ v = 0 ∧ I' = I) ∨ ((fitP 0 ((J (t + 1) (ix p)).toInt32) ∧ fitP 1 ((J (t + 1) (ix (p + 1))).toInt32) ∧ fitP 2 ((J (t + 1) (ix (p + 2))).toInt32)) ∧ ∃ q : Int32, ((3 ≤ (I 1 1).toInt ∧ q = -3 ∧ I' = I) ∨ ((I 1 1).toInt < 3 ∧ q = I 1 1 + 1 - 1 ∧ I' 1 1 = I 1 1 + 1 ∧ (∀ k, I' 2 k = if 8 * ix (I 1 1) ≤ k ∧ k < 8 * ix (I 1 1) + 8 then nwF ((J (t + 1) (ix p)).toInt32) ((J (t + 1) (ix (p + 1))).toInt32) ((J (t + 1) (ix (p + 2))).toInt32) (k - 8 * ix (I 1 1)) else I 2 k) ∧ Fr [1, 2] I I')) ∧ v = if q.toInt < 0 then 0 else 1))) := by
  obtain ⟨hc4, hr3, hc21, hl60⟩ := sh_all ht b
  have e2 : (2 : Int32).toInt = 2 := rfl
  have p1 : (p + 1).toInt = p.toInt + 1 := by rw [tI_add (by rw [one_int]; omega) (by rw [one_int]; omega), one_int]
  have p2 : (p + 2).toInt = p.toInt + 2 := by rw [tI_add (by rw [e2]; omega) (by rw [e2]; omega), e2]
  refine ent9 (own := RX9) rfl rfl rfl (fun X hg hx C Z => ?_)
  subst hg
  refine r_aload_n C dX9_addStraw_0 rfl ?_
  refine r_getR C flX9_286 dX9_addStraw_1 hc4 rfl hr3 ?_
  refine r_iload_n C dX9_addStraw_4 rfl ?_
  refine r_lald C hc21 dX9_addStraw_5 (by rw [hl60]; exact vin (by omega) (show p.toInt < 60 by omega)) ?_
  refine r_l2i C dX9_addStraw_6 ?_
  refine r_istore_n C dX9_addStraw_7 rfl rfl ?_
  refine r_aload_n C dX9_addStraw_8 rfl ?_
  refine r_getR C flX9_286 dX9_addStraw_9 hc4 rfl hr3 ?_
  refine r_iload_n C dX9_addStraw_12 rfl ?_
  refine r_iconst C (v := 1) dX9_addStraw_13 (by decide) ?_
  refine r_iadd C dX9_addStraw_14 ?_
  refine r_lald C hc21 dX9_addStraw_15 (by rw [hl60]; exact vin (by omega) (show (p + 1).toInt < 60 by omega)) ?_
  refine r_l2i C dX9_addStraw_16 ?_
  refine r_istore C dX9_addStraw_17 rfl rfl ?_
  refine r_aload_n C dX9_addStraw_19 rfl ?_
  refine r_getR C flX9_286 dX9_addStraw_20 hc4 rfl hr3 ?_
  refine r_iload_n C dX9_addStraw_23 rfl ?_
  refine r_iconst C (v := 2) dX9_addStraw_24 (by decide) ?_
  refine r_iadd C dX9_addStraw_25 ?_
  refine r_lald C hc21 dX9_addStraw_26 (by rw [hl60]; exact vin (by omega) (show (p + 2).toInt < 60 by omega)) ?_
  refine r_l2i C dX9_addStraw_27 ?_
  refine r_istore C dX9_addStraw_28 rfl rfl ?_
  refine r_iconst C (v := 0) dX9_addStraw_30 (by decide) ?_
  refine r_iload_n C dX9_addStraw_31 rfl ?_
  refine cS C hx (sX3_fits (d := d - 1) (by omega) _ _ I J b) moX3_fits mlX9_78 mtX3_fits dX9_addStraw_32 rfl rfl (by omega) rfl rfl (kp ?_)
  refine z_ifeq C (tgt := 56) dX9_addStraw_35 rfl (fun h35_2 => ?_) (fun h35_2 => ?_)
  · refine r_iconst C (v := 0) dX9_addStraw_56 (by decide) ?_
    exact riz C Z dX9_addStraw_57 rfl (Or.inl ⟨fun z => absurd z.1 (by assumption), rfl, rfl⟩)
  · refine r_iconst C (v := 1) dX9_addStraw_38 (by decide) ?_
    refine r_iload C dX9_addStraw_39 rfl ?_
    refine cS C hx (sX3_fits (d := d - 1) (by omega) _ _ I J b) moX3_fits mlX9_78 mtX3_fits dX9_addStraw_41 rfl rfl (by omega) rfl rfl (kp ?_)
    refine z_ifeq C (tgt := 56) dX9_addStraw_44 rfl (fun h44_4 => ?_) (fun h44_4 => ?_)
    · refine r_iconst C (v := 0) dX9_addStraw_56 (by decide) ?_
      exact riz C Z dX9_addStraw_57 rfl (Or.inl ⟨fun z => absurd z.2.1 (by assumption), rfl, rfl⟩)
    · refine r_iconst C (v := 2) dX9_addStraw_47 (by decide) ?_
      refine r_iload C dX9_addStraw_48 rfl ?_
      refine cS C hx (sX3_fits (d := d - 1) (by omega) _ _ I J b) moX3_fits mlX9_78 mtX3_fits dX9_addStraw_50 rfl rfl (by omega) rfl rfl (kp ?_)
      refine z_ifne C (tgt := 58) dX9_addStraw_53 rfl (fun h53_6 => ?_) (fun h53_6 => ?_)
      · refine r_aload_n C dX9_addStraw_58 rfl ?_
        refine r_getR C flX9_10 dX9_addStraw_59 rfl rfl rfl ?_
        refine r_iload_n C dX9_addStraw_62 rfl ?_
        refine r_iload C dX9_addStraw_63 rfl ?_
        refine r_iload C dX9_addStraw_65 rfl ?_
        refine cV (ci := 3) C hx (sX3_add (d := d - 1) (by omega) _ _ _ I J b h0) moX3_add mlX9_90 miX3_add msX3_add dX9_addStraw_67 rfl rfl rfl rfl rfl (by omega) rfl rfl (ki (fun v_67_7 I_67_7 q_67_7 => ?_))
        have hq := q_67_7
        refine b_iflt C (tgt := 77) dX9_addStraw_70 rfl (fun h70_8 => ?_) (fun h70_8 => ?_)
        · refine r_iconst C (v := 0) dX9_addStraw_77 (by decide) ?_
          exact riz C Z dX9_addStraw_78 rfl (Or.inr ⟨⟨by assumption, by assumption, by assumption⟩, _, hq, (if_pos (by omega)).symm⟩)
        · refine r_iconst C (v := 1) dX9_addStraw_73 (by decide) ?_
          refine r_goto C (tgt := 78) dX9_addStraw_74 rfl ?_
          exact riz C Z dX9_addStraw_78 rfl (Or.inr ⟨⟨by assumption, by assumption, by assumption⟩, _, hq, (if_neg (by omega)).symm⟩)
      · refine r_iconst C (v := 0) dX9_addStraw_56 (by decide) ?_
        exact riz C Z dX9_addStraw_57 rfl (Or.inl ⟨fun z => absurd z.2.2 (by assumption), rfl, rfl⟩)
