set_option maxRecDepth 100000 in
theorem sX9_reachFor {g : Gb} {d : Nat} (hd : 9 ≤ d) (k n w : Int32) (I : Is) (J : Js) (b : Bool) (hs0 : 0 ≤ (I 1 1).toInt) (hs3 : (I 1 1).toInt ≤ 3) (hNW : NW (I 1 1) (I 2)) (hTW : TW I b) (hv : VOk (gv I 16)) : MC9 g d mX9_reachFor [.ref 0, .int k, .int n, .int w] I J b (Qi J b (fun v I' => (¬ (inS I k ∧ inR n 60 ∧ inR w 3) ∧ v = -1 ∧ I' = I) ∨ ((inS I k ∧ inR n 60 ∧ inR w 3) ∧ v = (if w - w / 2 * 2 = 0 then (bnF (fun x => gsF (if 2 ≤ w.toInt then 1 else 0) (drW I b (8 * ix k + 2) (nI x) (I 1 1).toInt.toNat (ix n)) (ix k)) (bnGo I 2 (if 2 ≤ w.toInt then 1 else 0)) (ix (imin 999 (I 16 0 + I 16 1)) + 1) 0 0 (-1)).1 else (bnF (fun x => gsF (if 2 ≤ w.toInt then 1 else 0) (drW I b (8 * ix k + 2) (nI x) (I 1 1).toInt.toNat (ix n)) (ix k)) (bnGo I 2 (if 2 ≤ w.toInt then 1 else 0)) (ix (imin 999 (I 16 0 + I 16 1)) + 1) 0 0 (-1)).2) ∧ Fr (28 :: [32, 33, 34, 35, 36, 37, 14, 15]) I I'))) := by
  refine ent9 (own := RX9) rfl rfl rfl (fun X hg hx C Z => ?_)
  subst hg
  refine r_aload_n C dX9_reachFor_0 rfl ?_
  refine r_iload_n C dX9_reachFor_1 rfl ?_
  refine cV (ci := 9) C hx (sX9_isStraw (d := d - 1) (by omega) _ I J b hs0 hs3) moX9_isStraw mlX9_143 miX9_isStraw msX9_isStraw dX9_reachFor_2 rfl rfl rfl rfl rfl (by omega) rfl rfl (kp ?_)
  refine z_ifeq C (tgt := 25) dX9_reachFor_5 rfl (fun h5_2 => ?_) (fun h5_2 => ?_)
  · refine r_iconst C (v := -1) dX9_reachFor_25 (by decide) ?_
    exact ri C Z dX9_reachFor_26 (Or.inl ⟨fun z => absurd z.1 (by assumption), rfl, rfl⟩)
  · refine r_iload_n C dX9_reachFor_8 rfl ?_
    refine r_bipush C (v := 60) dX9_reachFor_9 (by decide) ?_
    refine cS C hx (sX9_isWithin (d := d - 1) (by omega) _ _ I J b) moX9_isWithin mlX9_146 mtX9_isWithin dX9_reachFor_11 rfl rfl (by omega) rfl rfl (kp ?_)
    refine z_ifeq C (tgt := 25) dX9_reachFor_14 rfl (fun h14_4 => ?_) (fun h14_4 => ?_)
    · refine r_iconst C (v := -1) dX9_reachFor_25 (by decide) ?_
      exact ri C Z dX9_reachFor_26 (Or.inl ⟨fun z => absurd z.2.1 (by assumption), rfl, rfl⟩)
    · refine r_iload_n C dX9_reachFor_17 rfl ?_
      refine r_iconst C (v := 3) dX9_reachFor_18 (by decide) ?_
      refine cS C hx (sX9_isWithin (d := d - 1) (by omega) _ _ I J b) moX9_isWithin mlX9_146 mtX9_isWithin dX9_reachFor_19 rfl rfl (by omega) rfl rfl (kp ?_)
      refine z_ifne C (tgt := 27) dX9_reachFor_22 rfl (fun h22_6 => ?_) (fun h22_6 => ?_)
      · have hin : inS I k ∧ inR n 60 ∧ inR w 3 := ⟨by assumption, by assumption, by assumption⟩
        obtain ⟨j, hj, rfl⟩ := nI_get hin.1.1 hin.1.2 (by omega)
        have jx : ix (nI j) = j := nIix (by omega)
        obtain ⟨N, hN, rfl⟩ := nI_get (n := 1000) hin.2.1.1 (by have := hin.2.1.2; omega) (by decide)
        have Nx : ix (nI N) = N := nIix (by omega)
        have hv1 : (0 ≤ (I 16 0).toInt ∧ (I 16 0).toInt ≤ 999) ∧ (0 ≤ (I 16 1).toInt ∧ (I 16 1).toInt ≤ 99) := hv
        have hsum : (I 16 0 + I 16 1).toInt = (I 16 0).toInt + (I 16 1).toInt := tI_add (by omega) (by omega)
        have e999 : (999 : Int32).toInt = 999 := rfl
        have hmin : 0 ≤ (imin 999 (I 16 0 + I 16 1)).toInt ∧ (imin 999 (I 16 0 + I 16 1)).toInt ≤ 999 := by
          rw [imin_int, e999, hsum]; omega
        obtain ⟨Mo, hMo, eMo⟩ := nI_get (n := 1000) hmin.1 (by have := hmin.2; omega) (by decide)
        have Mox : ix (nI Mo) = Mo := nIix (by omega)
        refine r_sipush C (v := 999) dX9_reachFor_27 (by decide) ?_
        refine r_aload_n C dX9_reachFor_30 rfl ?_
        refine r_getR C flX9_37 dX9_reachFor_31 rfl rfl rfl ?_
        refine r_getI C flX9_120 dX9_reachFor_34 rfl rfl ?_
        refine r_aload_n C dX9_reachFor_37 rfl ?_
        refine r_getR C flX9_37 dX9_reachFor_38 rfl rfl rfl ?_
        refine r_getI C flX9_123 dX9_reachFor_41 rfl rfl ?_
        refine r_iadd C dX9_reachFor_44 ?_
        refine cmin C hx mlX9_184 dX9_reachFor_45 (by omega) rfl rfl ?_
        refine r_istore C dX9_reachFor_48 rfl rfl ?_
        rw [eMo]
        refine r_aload_n C dX9_reachFor_50 rfl ?_
        refine r_getR C flX9_49 dX9_reachFor_51 rfl rfl rfl ?_
        refine r_iload_n C dX9_reachFor_54 rfl ?_
        refine r_iconst C (v := 2) dX9_reachFor_55 (by decide) ?_
        refine r_iload C dX9_reachFor_56 rfl ?_
        refine r_iload_n C dX9_reachFor_58 rfl ?_
        refine r_iload_n C dX9_reachFor_59 rfl ?_
        refine r_iconst C (v := 2) dX9_reachFor_60 (by decide) ?_
        refine b_iclt C (tgt := 68) (my := 2) rfl rfl dX9_reachFor_61 rfl (fun h61_7 => ?_) (fun h61_7 => ?_)
        · refine r_iconst C (v := 0) dX9_reachFor_68 (by decide) ?_
          refine cV (ci := 8) C hx (sX8_bestNumber (d := d - 1) (by omega) j 2 Mo N _ (Or.inr rfl) ⟨fun z => absurd z (by decide), fun _ => by omega⟩ (by omega) I J b (I 1 1).toInt.toNat (by omega) (by omega) (by omega) hNW hTW hv) moX8_bestNumber mlX9_189 miX8_bestNumber msX8_bestNumber dX9_reachFor_69 rfl rfl rfl rfl rfl (by omega) rfl rfl (ki (fun v_69_8 I_69_8 q_69_8 => ?_))
          have hq := q_69_8
          refine r_istore C dX9_reachFor_72 rfl rfl ?_
          refine r_iload_n C dX9_reachFor_74 rfl ?_
          refine r_iconst C (v := 2) dX9_reachFor_75 (by decide) ?_
          refine r_irem C dX9_reachFor_76 (by decide) ?_
          refine r_ifne C (tgt := 85) dX9_reachFor_77 rfl (fun h77_9 => ?_) (fun h77_9 => ?_)
          · refine r_aload_n C dX9_reachFor_85 rfl ?_
            refine r_getR C flX9_49 dX9_reachFor_86 rfl rfl rfl ?_
            refine r_getI C flX9_193 dX9_reachFor_89 rfl rfl ?_
            exact ri C Z dX9_reachFor_92 (Or.inr ⟨hin, by rw [if_neg (‹¬ w - w / 2 * 2 = 0›), if_neg (show ¬ 2 ≤ w.toInt by omega), jx, Nx, eMo, Mox]; exact hq.2.1, hq.2.2⟩)
          · refine r_iload C dX9_reachFor_80 rfl ?_
            refine r_goto C (tgt := 92) dX9_reachFor_82 rfl ?_
            exact ri C Z dX9_reachFor_92 (Or.inr ⟨hin, by rw [if_pos (‹w - w / 2 * 2 = 0›), if_neg (show ¬ 2 ≤ w.toInt by omega), jx, Nx, eMo, Mox]; exact hq.1, hq.2.2⟩)
        · refine r_iconst C (v := 1) dX9_reachFor_64 (by decide) ?_
          refine r_goto C (tgt := 69) dX9_reachFor_65 rfl ?_
          refine cV (ci := 8) C hx (sX8_bestNumber (d := d - 1) (by omega) j 2 Mo N _ (Or.inr rfl) ⟨fun z => absurd z (by decide), fun _ => by omega⟩ (by omega) I J b (I 1 1).toInt.toNat (by omega) (by omega) (by omega) hNW hTW hv) moX8_bestNumber mlX9_189 miX8_bestNumber msX8_bestNumber dX9_reachFor_69 rfl rfl rfl rfl rfl (by omega) rfl rfl (ki (fun v_69_10 I_69_10 q_69_10 => ?_))
          have hq := q_69_10
          refine r_istore C dX9_reachFor_72 rfl rfl ?_
          refine r_iload_n C dX9_reachFor_74 rfl ?_
          refine r_iconst C (v := 2) dX9_reachFor_75 (by decide) ?_
          refine r_irem C dX9_reachFor_76 (by decide) ?_
          refine r_ifne C (tgt := 85) dX9_reachFor_77 rfl (fun h77_11 => ?_) (fun h77_11 => ?_)
          · refine r_aload_n C dX9_reachFor_85 rfl ?_
            refine r_getR C flX9_49 dX9_reachFor_86 rfl rfl rfl ?_
            refine r_getI C flX9_193 dX9_reachFor_89 rfl rfl ?_
            exact ri C Z dX9_reachFor_92 (Or.inr ⟨hin, by rw [if_neg (‹¬ w - w / 2 * 2 = 0›), if_pos (show 2 ≤ w.toInt by omega), jx, Nx, eMo, Mox]; exact hq.2.1, hq.2.2⟩)
          · refine r_iload C dX9_reachFor_80 rfl ?_
            refine r_goto C (tgt := 92) dX9_reachFor_82 rfl ?_
            exact ri C Z dX9_reachFor_92 (Or.inr ⟨hin, by rw [if_pos (‹w - w / 2 * 2 = 0›), if_pos (show 2 ≤ w.toInt by omega), jx, Nx, eMo, Mox]; exact hq.1, hq.2.2⟩)
      · refine r_iconst C (v := -1) dX9_reachFor_25 (by decide) ?_
        exact ri C Z dX9_reachFor_26 (Or.inl ⟨fun z => absurd z.2.2 (by assumption), rfl, rfl⟩)
