theorem pl_in {s m w : Int32} (hs3 : s.toInt ≤ 3) (h : 0 ≤ (plF s m w).toInt) : vp_in (plF s m w) 28 := by
  have e8 : (8 : Int32).toInt = 8 := rfl
  have e24 : (24 : Int32).toInt = 24 := rfl
  revert h
  unfold plF
  by_cases c1 : w.toInt < 0 ∨ 11 < w.toInt
  · rw [if_pos c1]; intro h; exact absurd h (by decide)
  rw [if_neg c1]
  by_cases c2 : 8 ≤ w.toInt
  · rw [if_pos c2]
    by_cases c3 : m = 0
    · rw [if_pos c3]; intro h
      have e1 : (24 + w).toInt = 24 + w.toInt := by rw [tI_add (by rw [e24]; omega) (by rw [e24]; omega), e24]
      have e2 : (24 + w - 8).toInt = 24 + w.toInt - 8 := by rw [tI_sub (by rw [e8]; omega) (by rw [e8]; omega), e8, e1]
      exact vin (by omega) (show (24 + w - 8).toInt < 28 by omega)
    · rw [if_neg c3]; intro h; exact absurd h (by decide)
  · rw [if_neg c2]
    by_cases c3 : 0 ≤ m.toInt ∧ m.toInt < s.toInt
    · rw [if_pos c3]; intro h
      have e1 : (m * 8).toInt = m.toInt * 8 := by rw [tI_mul (by rw [e8]; omega) (by rw [e8]; omega), e8]
      have e2 : (m * 8 + w).toInt = m.toInt * 8 + w.toInt := by rw [tI_add (by omega) (by omega), e1]
      exact vin (by omega) (show (m * 8 + w).toInt < 28 by omega)
    · rw [if_neg c3]; intro h; exact absurd h (by decide)
def ofF (I : Is) (m w : Int32) : Int32 := if 0 ≤ (plF (I 1 1) m w).toInt then I 2 (ix (plF (I 1 1) m w)) else if m = 0 then (if w = 12 then I 16 0 else if w = 13 then I 16 1 else if w = 14 then I 16 2 else -2000000000) else -2000000000
abbrev fitP (w v : Int32) : Prop := 0 ≤ w.toInt ∧ w.toInt ≤ 11 ∧ ((sLs 0).getD (ix w) 0).toInt ≤ v.toInt ∧ v.toInt ≤ ((sLs 1).getD (ix w) 0).toInt
set_option maxRecDepth 100000 in
theorem sX9_of {g : Gb} {d : Nat} (hd : 2 ≤ d) (m w : Int32) (I : Is) (J : Js) (b : Bool) (hs3 : (I 1 1).toInt ≤ 3) : MC9 g d mX9_of [.ref 0, .int m, .int w] I J b (Qp (ofF I m w) I J b) := by
  refine ent9 (own := RX9) rfl rfl rfl (fun X hg hx C Z => ?_)
  subst hg
  refine r_aload_n C dX9_of_0 rfl ?_
  refine r_getR C flX9_10 dX9_of_1 rfl rfl rfl ?_
  refine r_iload_n C dX9_of_4 rfl ?_
  refine r_iload_n C dX9_of_5 rfl ?_
  refine cV (ci := 3) C hx (sX3_place (d := d - 1) (by omega) m w I J b) moX3_place mlX9_108 miX3_place msX3_place dX9_of_6 rfl rfl rfl rfl rfl (by omega) rfl rfl (kp ?_)
  refine r_istore_n C dX9_of_9 rfl rfl ?_
  refine r_iload_n C dX9_of_10 rfl ?_
  refine b_iflt C (tgt := 24) dX9_of_11 rfl (fun h11_2 => ?_) (fun h11_2 => ?_)
  · refine r_iload_n C dX9_of_24 rfl ?_
    refine r_ifeq C (tgt := 31) dX9_of_25 rfl (fun h25_3 => ?_) (fun h25_3 => ?_)
    · refine r_iload_n C dX9_of_31 rfl ?_
      by_cases c12 : w = 12
      · subst c12
        refine r_tabIn C (tgt := 60) dX9_of_32 (by decide) (by decide) rfl rfl ?_
        refine r_aload_n C dX9_of_60 rfl ?_
        refine r_getR C flX9_37 dX9_of_61 rfl rfl rfl ?_
        refine r_getI C flX9_120 dX9_of_64 rfl rfl ?_
        exact rp C Z dX9_of_67 (by unfold ofF; rw [if_neg (by omega), if_pos (by assumption), if_pos rfl])
      have n12 := ne_int c12
      have m12 : (12 : Int32).toInt = 12 := rfl
      by_cases c13 : w = 13
      · subst c13
        refine r_tabIn C (tgt := 68) dX9_of_32 (by decide) (by decide) rfl rfl ?_
        refine r_aload_n C dX9_of_68 rfl ?_
        refine r_getR C flX9_37 dX9_of_69 rfl rfl rfl ?_
        refine r_getI C flX9_123 dX9_of_72 rfl rfl ?_
        exact rp C Z dX9_of_75 (by unfold ofF; rw [if_neg (by omega), if_pos (by assumption), if_neg (by decide), if_pos rfl])
      have n13 := ne_int c13
      have m13 : (13 : Int32).toInt = 13 := rfl
      by_cases c14 : w = 14
      · subst c14
        refine r_tabIn C (tgt := 76) dX9_of_32 (by decide) (by decide) rfl rfl ?_
        refine r_aload_n C dX9_of_76 rfl ?_
        refine r_getR C flX9_37 dX9_of_77 rfl rfl rfl ?_
        refine r_getI C flX9_126 dX9_of_80 rfl rfl ?_
        exact rp C Z dX9_of_83 (by unfold ofF; rw [if_neg (by omega), if_pos (by assumption), if_neg (by decide), if_neg (by decide), if_pos rfl])
      have n14 := ne_int c14
      have m14 : (14 : Int32).toInt = 14 := rfl
      refine r_tabOut C (tgt := 84) dX9_of_32 (by omega) rfl ?_
      refine r_ldc C kkX9_112 dX9_of_84 ?_
      exact rp C Z dX9_of_86 (by unfold ofF; rw [if_neg (by omega), if_pos (by assumption), if_neg c12, if_neg c13, if_neg c14])
    · refine r_ldc C kkX9_112 dX9_of_28 ?_
      exact rp C Z dX9_of_30 (by unfold ofF; rw [if_neg (by omega), if_neg (by assumption)])
  · refine r_aload_n C dX9_of_14 rfl ?_
    refine r_getR C flX9_10 dX9_of_15 rfl rfl rfl ?_
    refine r_getR C flX9_113 dX9_of_18 rfl rfl rfl ?_
    refine r_iload_n C dX9_of_21 rfl ?_
    refine r_iald C rfl dX9_of_22 (pl_in hs3 (by omega)) ?_
    exact rp C Z dX9_of_23 (by unfold ofF; rw [if_pos (by omega)])
set_option maxRecDepth 100000 in
theorem sX9_mend {g : Gb} {d : Nat} (hd : 3 ≤ d) (m w v : Int32) (I : Is) (J : Js) (b : Bool) (hs3 : (I 1 1).toInt ≤ 3) (h0 : 0 ≤ (I 44 1).toInt) (h4 : (I 44 1).toInt ≤ 40) : MC9 g d mX9_mend [.ref 0, .int m, .int w, .int v] I J b (Qi J b (fun r I' => (¬ (0 ≤ (plF (I 1 1) m w).toInt ∧ fitP w v) ∧ r = -2000000000 ∧ I' = I) ∨ ((0 ≤ (plF (I 1 1) m w).toInt ∧ fitP w v) ∧ r = I 2 (ix (plF (I 1 1) m w)) ∧ ((I 2 (ix (plF (I 1 1) m w)) = v ∧ I' = I) ∨ (¬ I 2 (ix (plF (I 1 1) m w)) = v ∧ ∃ I1 : Is, ((∀ k, I1 45 k = if k = ix (dnD (I 44 1)) then (plF (I 1 1) m w) else dnR (I 44 1) (I 45) k) ∧ (∀ k, I1 46 k = if k = ix (dnD (I 44 1)) then (I 2 (ix (plF (I 1 1) m w))) else dnR (I 44 1) (I 46) k) ∧ (∀ k, I1 47 k = if k = ix (dnD (I 44 1)) then v else dnR (I 44 1) (I 47) k) ∧ I1 44 1 = dnD (I 44 1) + 1 ∧ I1 44 0 = dnD (I 44 1) + 1 ∧ Fr [44, 45, 46, 47] I I1) ∧ I' = u2 I1 2 (ix (plF (I 1 1) m w)) v))))) := by
  refine ent9 (own := RX9) rfl rfl rfl (fun X hg hx C Z => ?_)
  subst hg
  refine r_aload_n C dX9_mend_0 rfl ?_
  refine r_getR C flX9_10 dX9_mend_1 rfl rfl rfl ?_
  refine r_iload_n C dX9_mend_4 rfl ?_
  refine r_iload_n C dX9_mend_5 rfl ?_
  refine cV (ci := 3) C hx (sX3_place (d := d - 1) (by omega) m w I J b) moX3_place mlX9_108 miX3_place msX3_place dX9_mend_6 rfl rfl rfl rfl rfl (by omega) rfl rfl (kp ?_)
  refine r_istore C dX9_mend_9 rfl rfl ?_
  refine r_iload C dX9_mend_11 rfl ?_
  refine b_iflt C (tgt := 24) dX9_mend_13 rfl (fun h13_2 => ?_) (fun h13_2 => ?_)
  · refine r_ldc C kkX9_112 dX9_mend_24 ?_
    exact ri C Z dX9_mend_26 (Or.inl ⟨fun z => by have := z.1; omega, rfl, rfl⟩)
  · refine r_iload_n C dX9_mend_16 rfl ?_
    refine r_iload_n C dX9_mend_17 rfl ?_
    refine cS C hx (sX3_fits (d := d - 1) (by omega) _ _ I J b) moX3_fits mlX9_78 mtX3_fits dX9_mend_18 rfl rfl (by omega) rfl rfl (kp ?_)
    refine z_ifne C (tgt := 27) dX9_mend_21 rfl (fun h21_4 => ?_) (fun h21_4 => ?_)
    · have hin : 0 ≤ (plF (I 1 1) m w).toInt ∧ fitP w v := ⟨by omega, by assumption⟩
      refine r_aload_n C dX9_mend_27 rfl ?_
      refine r_getR C flX9_10 dX9_mend_28 rfl rfl rfl ?_
      refine r_getR C flX9_113 dX9_mend_31 rfl rfl rfl ?_
      refine r_iload C dX9_mend_34 rfl ?_
      refine r_iald C rfl dX9_mend_36 (pl_in hs3 hin.1) ?_
      refine r_istore C dX9_mend_37 rfl rfl ?_
      refine r_iload C dX9_mend_39 rfl ?_
      refine r_iload_n C dX9_mend_41 rfl ?_
      refine r_iceq C (tgt := 68) dX9_mend_42 rfl (fun h42_5 => ?_) (fun h42_5 => ?_)
      · refine r_iload C dX9_mend_68 rfl ?_
        exact ri C Z dX9_mend_70 (Or.inr ⟨hin, rfl, Or.inl ⟨by assumption, rfl⟩⟩)
      · refine r_aload_n C dX9_mend_45 rfl ?_
        refine r_getR C flX9_56 dX9_mend_46 rfl rfl rfl ?_
        refine r_iload C dX9_mend_49 rfl ?_
        refine r_iload C dX9_mend_51 rfl ?_
        refine r_iload_n C dX9_mend_53 rfl ?_
        refine cV (ci := 0) C hx (sX0_note (d := d - 1) (by omega) _ _ _ I J b h0 h4) moX0_note mlX9_116 miX0_note msX0_note dX9_mend_54 rfl rfl rfl rfl rfl (by omega) rfl rfl (kv (fun I_54_6 q_54_6 => ?_))
        have hq := q_54_6
        refine r_aload_n C dX9_mend_57 rfl ?_
        refine r_getR C flX9_10 dX9_mend_58 rfl rfl rfl ?_
        refine r_getR C flX9_113 dX9_mend_61 rfl rfl rfl ?_
        refine r_iload C dX9_mend_64 rfl ?_
        refine r_iload_n C dX9_mend_66 rfl ?_
        refine r_iast C rfl dX9_mend_67 (pl_in hs3 hin.1) ?_
        refine r_iload C dX9_mend_68 rfl ?_
        exact ri C Z dX9_mend_70 (Or.inr ⟨hin, rfl, Or.inr ⟨by assumption, _, hq, rfl⟩⟩)
    · refine r_ldc C kkX9_112 dX9_mend_24 ?_
      exact ri C Z dX9_mend_26 (Or.inl ⟨fun z => absurd z.2 (by assumption), rfl, rfl⟩)
set_option maxRecDepth 100000 in
theorem sX9_straw {g : Gb} {d : Nat} (hd : 2 ≤ d) (st re : Int32) (I : Is) (J : Js) (b : Bool) (h0 : 0 ≤ (I 1 1).toInt) : MC9 g d mX9_straw [.ref 0, .int st, .int re] I J b (Qi J b (fun v I' => (¬ (fitP 0 st ∧ fitP 2 re) ∧ v = -1 ∧ I' = I) ∨ ((fitP 0 st ∧ fitP 2 re) ∧ ((3 ≤ (I 1 1).toInt ∧ v = -3 ∧ I' = I) ∨ ((I 1 1).toInt < 3 ∧ v = I 1 1 + 1 - 1 ∧ I' 1 1 = I 1 1 + 1 ∧ (∀ k, I' 2 k = if 8 * ix (I 1 1) ≤ k ∧ k < 8 * ix (I 1 1) + 8 then nwF st 3 re (k - 8 * ix (I 1 1)) else I 2 k) ∧ Fr [1, 2] I I'))))) := by
  refine ent9 (own := RX9) rfl rfl rfl (fun X hg hx C Z => ?_)
  subst hg
  refine r_iconst C (v := 0) dX9_straw_0 (by decide) ?_
  refine r_iload_n C dX9_straw_1 rfl ?_
  refine cS C hx (sX3_fits (d := d - 1) (by omega) _ _ I J b) moX3_fits mlX9_78 mtX3_fits dX9_straw_2 rfl rfl (by omega) rfl rfl (kp ?_)
  refine z_ifeq C (tgt := 16) dX9_straw_5 rfl (fun h5_2 => ?_) (fun h5_2 => ?_)
  · refine r_iconst C (v := -1) dX9_straw_16 (by decide) ?_
    exact ri C Z dX9_straw_17 (Or.inl ⟨fun z => absurd z.1 (by assumption), rfl, rfl⟩)
  · refine r_iconst C (v := 2) dX9_straw_8 (by decide) ?_
    refine r_iload_n C dX9_straw_9 rfl ?_
    refine cS C hx (sX3_fits (d := d - 1) (by omega) _ _ I J b) moX3_fits mlX9_78 mtX3_fits dX9_straw_10 rfl rfl (by omega) rfl rfl (kp ?_)
    refine z_ifne C (tgt := 18) dX9_straw_13 rfl (fun h13_4 => ?_) (fun h13_4 => ?_)
    · have hin : fitP 0 st ∧ fitP 2 re := ⟨by assumption, by assumption⟩
      refine r_aload_n C dX9_straw_18 rfl ?_
      refine r_getR C flX9_10 dX9_straw_19 rfl rfl rfl ?_
      refine r_getI C flX9_82 dX9_straw_22 rfl rfl ?_
      refine r_iconst C (v := 3) dX9_straw_25 (by decide) ?_
      refine b_iclt C (tgt := 32) (my := 3) rfl rfl dX9_straw_26 rfl (fun h26_5 => ?_) (fun h26_5 => ?_)
      · refine r_aload_n C dX9_straw_32 rfl ?_
        refine r_getR C flX9_10 dX9_straw_33 rfl rfl rfl ?_
        refine r_iload_n C dX9_straw_36 rfl ?_
        refine r_gets C (j := 2) rfl gsX9_86 dX9_straw_37 ?_
        refine r_iconst C (v := 1) dX9_straw_40 (by decide) ?_
        refine r_iaro C (j := 2) rfl dX9_straw_41 (vin (by decide) (show (1 : Int32).toInt < 12 by decide)) ?_
        rw [show roF (x_g X) 2 (ix 1) = 3 from rfl]
        refine r_iload_n C dX9_straw_42 rfl ?_
        refine cV (ci := 3) C hx (sX3_add (d := d - 1) (by omega) st 3 re I J b h0) moX3_add mlX9_90 miX3_add msX3_add dX9_straw_43 rfl rfl rfl rfl rfl (by omega) rfl rfl (ki (fun v_43_6 I_43_6 q_43_6 => ?_))
        have hq := q_43_6
        exact ri C Z dX9_straw_46 (Or.inr ⟨hin, hq⟩)
      · refine r_bipush C (v := -3) dX9_straw_29 (by decide) ?_
        exact ri C Z dX9_straw_31 (Or.inr ⟨hin, Or.inl ⟨by omega, rfl, rfl⟩⟩)
    · refine r_iconst C (v := -1) dX9_straw_16 (by decide) ?_
      exact ri C Z dX9_straw_17 (Or.inl ⟨fun z => absurd z.2 (by assumption), rfl, rfl⟩)
