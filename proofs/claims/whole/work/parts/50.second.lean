set_option maxRecDepth 100000 in
theorem sX9_second {g : Gb} {d : Nat} (hd : 7 ≤ d) (I : Is) (J : Js) (b : Bool) (hNW : NW (I 1 1) (I 2)) (hTW : TW I b) (hv : VOk (gv I 16)) : MC9 g d mX9_second [.ref 0] I J b (Qi J b (fun v I' => (999 ≤ (I 16 2).toInt ∧ v = -5 ∧ I' = I) ∨ ((I 16 2).toInt < 999 ∧ ∃ I1 : Is, gv I1 16 = secF (en I b) (bit 7) (bit 0) (bit 0) (gv I 16) ∧ I1 16 3 = I 16 3 ∧ I1 16 4 = I 16 4 ∧ Fr [16, 17, 18, 19, 20, 21, 14, 15] I I1 ∧ v = I1 16 0 ∧ I' = u2 I1 16 3 (I1 16 3 + 1)))) := by
  refine ent9 (own := RX9) rfl rfl rfl (fun X hg hx C Z => ?_)
  subst hg
  refine r_aload_n C dX9_second_0 rfl ?_
  refine r_getR C flX9_37 dX9_second_1 rfl rfl rfl ?_
  refine r_getI C flX9_126 dX9_second_4 rfl rfl ?_
  refine r_sipush C (v := 999) dX9_second_7 (by decide) ?_
  refine b_iclt C (tgt := 16) (my := 999) rfl rfl dX9_second_10 rfl (fun h10_1 => ?_) (fun h10_1 => ?_)
  · refine r_aload_n C dX9_second_16 rfl ?_
    refine r_getR C flX9_37 dX9_second_17 rfl rfl rfl ?_
    refine r_bipush C (v := 7) dX9_second_20 (by decide) ?_
    refine r_iconst C (v := 0) dX9_second_22 (by decide) ?_
    refine r_iconst C (v := 0) dX9_second_23 (by decide) ?_
    refine cV (ci := 1) C hx (passT_16 (d := d - 1) (by omega) 7 0 0 I J b hNW hTW hv) moX1_pass mlX9_232 miX1_pass msX1_pass dX9_second_24 rfl rfl rfl rfl rfl (by omega) rfl rfl (kv (fun I_24_2 q_24_2 => ?_))
    have hq := q_24_2
    refine r_aload_n C dX9_second_27 rfl ?_
    refine r_getR C flX9_37 dX9_second_28 rfl rfl rfl ?_
    refine r_dup C dX9_second_31 rfl ?_
    refine r_getI C flX9_235 dX9_second_32 rfl rfl ?_
    refine r_iconst C (v := 1) dX9_second_35 (by decide) ?_
    refine r_iadd C dX9_second_36 ?_
    refine r_putI C flX9_235 dX9_second_37 rfl rfl rfl rfl rfl ?_
    refine r_aload_n C dX9_second_40 rfl ?_
    refine r_getR C flX9_37 dX9_second_41 rfl rfl rfl ?_
    refine r_getI C flX9_120 dX9_second_44 rfl rfl ?_
    exact ri C Z dX9_second_47 (Or.inr ⟨by omega, I_24_2, hq.1, hq.2.1, hq.2.2.1, hq.2.2.2, u2_ne _ _ _ _ (Or.inr (by decide)), rfl⟩)
  · refine r_bipush C (v := -5) dX9_second_13 (by decide) ?_
    exact ri C Z dX9_second_15 (Or.inl ⟨by omega, rfl, rfl⟩)
set_option maxRecDepth 100000 in
theorem sX9_put {g : Gb} {d : Nat} (hd : 3 ≤ d) (k i : Int32) (v : Int64) (I : Is) (J : Js) (b : Bool) (hsz : ∀ t, isSh t → 0 ≤ (I t 1).toInt ∧ (I t 1).toInt ≤ 60) : MC9 g d mX9_put [.ref 0, .int k, .int i, .long v] I J b (Qg (fun r I' J' b' => I' = I ∧ b' = b ∧ ((¬ reF I k i = 0 ∧ r = some (.int (reF I k i)) ∧ J' = J) ∨ (reF I k i = 0 ∧ r = some (.int 1) ∧ J' = u2 J (shT k + 1) (ix i) (cutF (I (shT k) 0) v))))) := by
  refine ent9 (own := RX9) rfl rfl rfl (fun X hg hx C Z => ?_)
  subst hg
  refine r_aload_n C dX9_put_0 rfl ?_
  refine r_iload_n C dX9_put_1 rfl ?_
  refine r_iload_n C dX9_put_2 rfl ?_
  refine cV (ci := 9) C hx (sX9_refusedElement (d := d - 1) (by omega) k i I J b) moX9_refusedElement mlX9_283 miX9_refusedElement msX9_refusedElement dX9_put_3 rfl rfl rfl rfl rfl (by omega) rfl rfl (kp ?_)
  refine r_istore C dX9_put_6 rfl rfl ?_
  refine r_iload C dX9_put_8 rfl ?_
  refine r_ifeq C (tgt := 16) dX9_put_10 rfl (fun h10_2 => ?_) (fun h10_2 => ?_)
  · have hin := re_in (by assumption)
    have hsh : inR k 5 := hin.1
    obtain ⟨h51, hT⟩ := sh_at b hsh
    obtain ⟨hc4, hr3, hc21, hl60⟩ := sh_all hT b
    refine r_aload_n C dX9_put_16 rfl ?_
    refine r_getR C flX9_69 dX9_put_17 rfl rfl rfl ?_
    refine r_iload_n C dX9_put_20 rfl ?_
    refine r_qald C rfl dX9_put_21 (vin hsh.1 (show k.toInt < 6 by have := hsh.2; omega)) h51 ?_
    refine r_astore C dX9_put_22 rfl rfl ?_
    refine r_aload C dX9_put_24 rfl ?_
    refine r_getR C flX9_286 dX9_put_26 hc4 rfl hr3 ?_
    refine r_iload_n C dX9_put_29 rfl ?_
    refine r_aload C dX9_put_30 rfl ?_
    refine r_getI C flX9_98 dX9_put_32 hc4 rfl ?_
    refine r_lload_n C dX9_put_35 rfl ?_
    refine cS C hx (sX4_cut (d := d - 1) (by omega) (I (shT k) 0) v I J b) moX4_cut mlX9_290 mtX4_cut dX9_put_36 rfl rfl (by omega) rfl rfl (kg (fun v_36_3 I_36_3 J_36_3 b_36_3 q_36_3 => ?_))
    obtain ⟨hrv, hI, hJ, hb⟩ := q_36_3
    rw [hI, hJ, hb]
    subst hrv
    refine r_last C hc21 dX9_put_39 (by rw [hl60]; have hz := hsz _ hT; exact vin hin.2.1 (show i.toInt < 60 by have := hin.2.2; omega)) ?_
    refine r_iconst C (v := 1) dX9_put_40 (by decide) ?_
    exact rgi C Z dX9_put_41 ⟨rfl, rfl, Or.inr ⟨by assumption, rfl, rfl⟩⟩
  · refine r_iload C dX9_put_13 rfl ?_
    exact rgi C Z dX9_put_15 ⟨rfl, rfl, Or.inl ⟨by assumption, rfl, rfl⟩⟩
