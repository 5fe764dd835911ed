set_option maxRecDepth 100000 in
theorem sX9_turns {g : Gb} {d : Nat} (hd : 9 ≤ d) (n mf k : Int32) (I : Is) (J : Js) (b : Bool) (hs0 : 0 ≤ (I 1 1).toInt) (hs3 : (I 1 1).toInt ≤ 3) (hNW : NW (I 1 1) (I 2)) (hTW : TW I b) (hv : VOk (gv I 16)) : MC9 g d mX9_turns [.ref 0, .int n, .int mf, .int k] I J b (Qi J b (fun v I' => (¬ ((0 ≤ mf.toInt ∧ inR n 999 ∧ inS I k) ∧ (1 ≤ (mf / 10).toInt ∧ (mf / 10).toInt ≤ 60) ∧ inS I (mf - mf / 10 * 10)) ∧ v = -1 ∧ I' = I) ∨ (((0 ≤ mf.toInt ∧ inR n 999 ∧ inS I k) ∧ (1 ≤ (mf / 10).toInt ∧ (mf / 10).toInt ≤ 60) ∧ inS I (mf - mf / 10 * 10)) ∧ EqV (gv I' 32) (gwF (en I b) (tnF (I 1 1) (mf / 10) (mf - mf / 10 * 10)) (tnF (I 1 1) (mf / 10) (mf - mf / 10 * 10)) (fun _ => bit 0) (ix n) (bgF (gv I 16))) ∧ v = I' 34 (ix k) ∧ Fr [32, 33, 34, 35, 36, 37, 14, 15] I I'))) := by
  refine ent9 (own := RX9) rfl rfl rfl (fun X hg hx C Z => ?_)
  subst hg
  refine r_iload_n C dX9_turns_0 rfl ?_
  refine b_iflt C (tgt := 22) dX9_turns_1 rfl (fun h1_1 => ?_) (fun h1_1 => ?_)
  · refine r_iconst C (v := -1) dX9_turns_22 (by decide) ?_
    exact ri C Z dX9_turns_23 (Or.inl ⟨fun z => by have := z.1.1; omega, rfl, rfl⟩)
  · refine r_iload_n C dX9_turns_4 rfl ?_
    refine r_sipush C (v := 999) dX9_turns_5 (by decide) ?_
    refine cS C hx (sX9_isWithin (d := d - 1) (by omega) _ _ I J b) moX9_isWithin mlX9_146 mtX9_isWithin dX9_turns_8 rfl rfl (by omega) rfl rfl (kp ?_)
    refine z_ifeq C (tgt := 22) dX9_turns_11 rfl (fun h11_3 => ?_) (fun h11_3 => ?_)
    · refine r_iconst C (v := -1) dX9_turns_22 (by decide) ?_
      exact ri C Z dX9_turns_23 (Or.inl ⟨fun z => absurd z.1.2.1 (by assumption), rfl, rfl⟩)
    · refine r_aload_n C dX9_turns_14 rfl ?_
      refine r_iload_n C dX9_turns_15 rfl ?_
      refine cV (ci := 9) C hx (sX9_isStraw (d := d - 1) (by omega) _ I J b hs0 hs3) moX9_isStraw mlX9_143 miX9_isStraw msX9_isStraw dX9_turns_16 rfl rfl rfl rfl rfl (by omega) rfl rfl (kp ?_)
      refine z_ifne C (tgt := 24) dX9_turns_19 rfl (fun h19_5 => ?_) (fun h19_5 => ?_)
      · refine r_iload_n C dX9_turns_24 rfl ?_
        refine r_bipush C (v := 10) dX9_turns_25 (by decide) ?_
        refine r_idiv C dX9_turns_27 (by decide) ?_
        refine r_istore C dX9_turns_28 rfl rfl ?_
        refine r_iload_n C dX9_turns_30 rfl ?_
        refine r_bipush C (v := 10) dX9_turns_31 (by decide) ?_
        refine r_irem C dX9_turns_33 (by decide) ?_
        refine r_istore C dX9_turns_34 rfl rfl ?_
        refine r_iload C dX9_turns_36 rfl ?_
        refine r_iconst C (v := 1) dX9_turns_38 (by decide) ?_
        refine b_iclt C (tgt := 58) (my := 1) rfl rfl dX9_turns_39 rfl (fun h39_6 => ?_) (fun h39_6 => ?_)
        · refine r_iconst C (v := -1) dX9_turns_58 (by decide) ?_
          exact ri C Z dX9_turns_59 (Or.inl ⟨fun z => by have := z.2.1.1; omega, rfl, rfl⟩)
        · refine r_iload C dX9_turns_42 rfl ?_
          refine r_bipush C (v := 60) dX9_turns_44 (by decide) ?_
          refine b_icgt C (tgt := 58) (my := 60) rfl rfl dX9_turns_46 rfl (fun h46_7 => ?_) (fun h46_7 => ?_)
          · refine r_iconst C (v := -1) dX9_turns_58 (by decide) ?_
            exact ri C Z dX9_turns_59 (Or.inl ⟨fun z => by have := z.2.1.2; omega, rfl, rfl⟩)
          · refine r_aload_n C dX9_turns_49 rfl ?_
            refine r_iload C dX9_turns_50 rfl ?_
            refine cV (ci := 9) C hx (sX9_isStraw (d := d - 1) (by omega) _ I J b hs0 hs3) moX9_isStraw mlX9_143 miX9_isStraw msX9_isStraw dX9_turns_52 rfl rfl rfl rfl rfl (by omega) rfl rfl (kp ?_)
            refine z_ifne C (tgt := 60) dX9_turns_55 rfl (fun h55_9 => ?_) (fun h55_9 => ?_)
            · have hin : (0 ≤ mf.toInt ∧ inR n 999 ∧ inS I k) ∧ (1 ≤ (mf / 10).toInt ∧ (mf / 10).toInt ≤ 60) ∧ inS I (mf - mf / 10 * 10) := ⟨⟨by omega, by assumption, by assumption⟩, ⟨by omega, by omega⟩, by assumption⟩
              obtain ⟨N, hN, rfl⟩ := nI_get (n := 1000) hin.1.2.1.1 (by have := hin.1.2.1.2; omega) (by decide)
              have Nx : ix (nI N) = N := nIix (by omega)
              obtain ⟨j, hj, rfl⟩ := nI_get hin.1.2.2.1 hin.1.2.2.2 (by omega)
              have jx : ix (nI j) = j := nIix (by omega)
              refine r_aload_n C dX9_turns_60 rfl ?_
              refine r_getR C flX9_49 dX9_turns_61 rfl rfl rfl ?_
              refine r_iload_n C dX9_turns_64 rfl ?_
              refine r_iload C dX9_turns_65 rfl ?_
              refine r_iload C dX9_turns_67 rfl ?_
              refine cV (ci := 8) C hx (sX8_byTurns (d := d - 1) (by omega) N (by omega) (mf / 10) (mf - mf / 10 * 10) I J b (by omega) (by omega) hNW hTW hv) moX8_byTurns mlX9_171 miX8_byTurns msX8_byTurns dX9_turns_69 rfl rfl rfl rfl rfl (by omega) rfl rfl (kr (fun t_69_10 I_69_10 q_69_10 => ?_))
              obtain ⟨rfl, hE, hF⟩ := q_69_10
              refine r_getR C flX9_165 dX9_turns_72 rfl rfl rfl ?_
              refine r_iload_n C dX9_turns_75 rfl ?_
              refine r_iald C rfl dX9_turns_76 (vin (by rw [nIint (by omega)]; omega) (show (nI j).toInt < 3 by rw [nIint (by omega)]; omega)) ?_
              exact ri C Z dX9_turns_77 (Or.inr ⟨hin, by rw [Nx]; exact hE, by rw [jx], hF⟩)
            · refine r_iconst C (v := -1) dX9_turns_58 (by decide) ?_
              exact ri C Z dX9_turns_59 (Or.inl ⟨fun z => absurd z.2.2 (by assumption), rfl, rfl⟩)
      · refine r_iconst C (v := -1) dX9_turns_22 (by decide) ?_
        exact ri C Z dX9_turns_23 (Or.inl ⟨fun z => absurd z.1.2.2 (by assumption), rfl, rfl⟩)
set_option maxRecDepth 100000 in
theorem sX9_both {g : Gb} {d : Nat} (hd : 9 ≤ d) (n w : Int32) (I : Is) (J : Js) (b : Bool) (hs0 : 0 ≤ (I 1 1).toInt) (hs3 : (I 1 1).toInt ≤ 3) (hNW : NW (I 1 1) (I 2)) (hTW : TW I b) (hv : VOk (gv I 16)) (hst : ∀ j : Nat, (j : Int) < (I 1 1).toInt → 0 ≤ (I 2 (8 * j + 0)).toInt ∧ (I 2 (8 * j + 0)).toInt ≤ 20) : MC9 g d mX9_both [.ref 0, .int n, .int w] I J b (Qi J b (fun v I' => (¬ (inR n 60 ∧ inR w 1) ∧ v = -1 ∧ I' = I) ∨ ((inR n 60 ∧ inR w 1) ∧ (I 1 1).toInt < 2 ∧ v = -5 ∧ I' = I) ∨ ((inR n 60 ∧ inR w 1) ∧ 2 ≤ (I 1 1).toInt ∧ w = 0 ∧ slQ (g0F I b (I 1 1).toInt.toNat (ix n)) (g1F I b (I 1 1).toInt.toNat (ix n)) (ix (I 2 0)) (ix (I 2 8)) v ∧ Fr (30 :: 31 :: [32, 33, 34, 35, 36, 37, 14, 15]) I I') ∨ ((inR n 60 ∧ inR w 1) ∧ 2 ≤ (I 1 1).toInt ∧ ¬ w = 0 ∧ v = (toF (tgV I b (I 1 1).toInt.toNat (ix n)) (ix (I 2 8)) (ix (I 2 0) + 1) 0 0 (-1)).1 ∧ Fr [32, 33, 34, 35, 36, 37, 14, 15] I I'))) := by
  refine ent9 (own := RX9) rfl rfl rfl (fun X hg hx C Z => ?_)
  subst hg
  refine r_iload_n C dX9_both_0 rfl ?_
  refine r_bipush C (v := 60) dX9_both_1 (by decide) ?_
  refine cS C hx (sX9_isWithin (d := d - 1) (by omega) _ _ I J b) moX9_isWithin mlX9_146 mtX9_isWithin dX9_both_3 rfl rfl (by omega) rfl rfl (kp ?_)
  refine z_ifeq C (tgt := 17) dX9_both_6 rfl (fun h6_2 => ?_) (fun h6_2 => ?_)
  · refine r_iconst C (v := -1) dX9_both_17 (by decide) ?_
    exact ri C Z dX9_both_18 (Or.inl ⟨fun z => absurd z.1 (by assumption), rfl, rfl⟩)
  · refine r_iload_n C dX9_both_9 rfl ?_
    refine r_iconst C (v := 1) dX9_both_10 (by decide) ?_
    refine cS C hx (sX9_isWithin (d := d - 1) (by omega) _ _ I J b) moX9_isWithin mlX9_146 mtX9_isWithin dX9_both_11 rfl rfl (by omega) rfl rfl (kp ?_)
    refine z_ifne C (tgt := 19) dX9_both_14 rfl (fun h14_4 => ?_) (fun h14_4 => ?_)
    · have hin : inR n 60 ∧ inR w 1 := ⟨by assumption, by assumption⟩
      
      refine r_aload_n C dX9_both_19 rfl ?_
      refine r_getR C flX9_10 dX9_both_20 rfl rfl rfl ?_
      refine r_getI C flX9_82 dX9_both_23 rfl rfl ?_
      refine r_iconst C (v := 2) dX9_both_26 (by decide) ?_
      refine b_icge C (tgt := 33) (my := 2) rfl rfl dX9_both_27 rfl (fun h27_5 => ?_) (fun h27_5 => ?_)
      · obtain ⟨N, hN, rfl⟩ := nI_get (n := 1000) hin.1.1 (by have := hin.1.2; omega) (by decide)
        have Nx : ix (nI N) = N := nIix (by omega)
        have hs0 : 0 ≤ (I 2 0).toInt ∧ (I 2 0).toInt ≤ 20 := hst 0 (by omega)
        have hs8 : 0 ≤ (I 2 8).toInt ∧ (I 2 8).toInt ≤ 20 := hst 1 (by omega)
        obtain ⟨f, hf, e0⟩ := nI_get (n := 21) hs0.1 (by have := hs0.2; omega) (by decide)
        obtain ⟨S, hS, e8⟩ := nI_get (n := 21) hs8.1 (by have := hs8.2; omega) (by decide)
        have fx : ix (nI f) = f := nIix (by omega)
        have Sx : ix (nI S) = S := nIix (by omega)
        refine r_iload_n C dX9_both_33 rfl ?_
        refine r_ifne C (tgt := 48) dX9_both_34 rfl (fun h34_6 => ?_) (fun h34_6 => ?_)
        · refine r_aload_n C dX9_both_48 rfl ?_
          refine r_getR C flX9_49 dX9_both_49 rfl rfl rfl ?_
          refine r_iload_n C dX9_both_52 rfl ?_
          refine cV (ci := 8) C hx (sX8_together (d := d - 1) (by omega) N (by omega) I J b (I 1 1).toInt.toNat (by omega) (by omega) (by omega) f S e0 e8 (by omega) (by omega) hNW hTW hv) moX8_together mlX9_203 miX8_together msX8_together dX9_both_53 rfl rfl rfl rfl rfl (by omega) rfl rfl (ki (fun v_53_7 I_53_7 q_53_7 => ?_))
          have hq := q_53_7
          exact ri C Z dX9_both_56 (Or.inr (Or.inr (Or.inr ⟨hin, by omega, by assumption, by rw [Nx, e0, e8, fx, Sx]; exact hq.1, hq.2⟩)))
        · refine r_aload_n C dX9_both_37 rfl ?_
          refine r_getR C flX9_49 dX9_both_38 rfl rfl rfl ?_
          refine r_iload_n C dX9_both_41 rfl ?_
          refine cV (ci := 8) C hx (sX8_selfish (d := d - 1) (by omega) N (by omega) I J b (I 1 1).toInt.toNat (by omega) (by omega) (by omega) f S e0 e8 (by omega) (by omega) hNW hTW hv) moX8_selfish mlX9_199 miX8_selfish msX8_selfish dX9_both_42 rfl rfl rfl rfl rfl (by omega) rfl rfl (ki (fun v_42_8 I_42_8 q_42_8 => ?_))
          have hq := q_42_8
          refine r_goto C (tgt := 56) dX9_both_45 rfl ?_
          exact ri C Z dX9_both_56 (Or.inr (Or.inr (Or.inl ⟨hin, by omega, by assumption, by rw [Nx, e0, e8, fx, Sx]; exact hq.1, hq.2⟩)))
      · refine r_bipush C (v := -5) dX9_both_30 (by decide) ?_
        exact ri C Z dX9_both_32 (Or.inr (Or.inl ⟨hin, by omega, rfl, rfl⟩))
    · refine r_iconst C (v := -1) dX9_both_17 (by decide) ?_
      exact ri C Z dX9_both_18 (Or.inl ⟨fun z => absurd z.2 (by assumption), rfl, rfl⟩)
