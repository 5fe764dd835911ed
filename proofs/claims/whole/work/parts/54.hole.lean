set_option maxRecDepth 100000 in
theorem sX9_holeFor {g : Gb} {d : Nat} (hd : 9 ≤ d) (k h n : Int32) (I : Is) (J : Js) (b : Bool) (hs0 : 0 ≤ (I 1 1).toInt) (hs3 : (I 1 1).toInt ≤ 3) (hNW : NW (I 1 1) (I 2)) (hTW : TW I b) (hv : VOk (gv I 16)) : MC9 g d mX9_holeFor [.ref 0, .int k, .int h, .int n] I J b (Qi J b (fun v I' => (¬ (inS I k ∧ inR h 999 ∧ inR n 60) ∧ v = -2000000000 ∧ I' = I) ∨ ((inS I k ∧ inR h 999 ∧ inR n 60) ∧ ∃ I1 : Is, Fr [32, 33, 34, 35, 36, 37, 14, 15] I I1 ∧ v = (otF (drW I b (8 * ix k + 6) h (I 1 1).toInt.toNat (ix n)).2.2.2.2.1 (ix k) (I 1 1).toInt.toNat) - (otF (drW I1 b (8 * ix k + 6) (-1) (I 1 1).toInt.toNat (ix n)).2.2.2.2.1 (ix k) (I 1 1).toInt.toNat) ∧ Fr [32, 33, 34, 35, 36, 37, 14, 15] I I'))) := by
  refine ent9 (own := RX9) rfl rfl rfl (fun X hg hx C Z => ?_)
  subst hg
  refine r_aload_n C dX9_holeFor_0 rfl ?_
  refine r_iload_n C dX9_holeFor_1 rfl ?_
  refine cV (ci := 9) C hx (sX9_isStraw (d := d - 1) (by omega) _ I J b hs0 hs3) moX9_isStraw mlX9_143 miX9_isStraw msX9_isStraw dX9_holeFor_2 rfl rfl rfl rfl rfl (by omega) rfl rfl (kp ?_)
  refine z_ifeq C (tgt := 27) dX9_holeFor_5 rfl (fun h5_2 => ?_) (fun h5_2 => ?_)
  · refine r_ldc C kkX9_112 dX9_holeFor_27 ?_
    exact ri C Z dX9_holeFor_29 (Or.inl ⟨fun z => absurd z.1 (by assumption), rfl, rfl⟩)
  · refine r_iload_n C dX9_holeFor_8 rfl ?_
    refine r_sipush C (v := 999) dX9_holeFor_9 (by decide) ?_
    refine cS C hx (sX9_isWithin (d := d - 1) (by omega) _ _ I J b) moX9_isWithin mlX9_146 mtX9_isWithin dX9_holeFor_12 rfl rfl (by omega) rfl rfl (kp ?_)
    refine z_ifeq C (tgt := 27) dX9_holeFor_15 rfl (fun h15_4 => ?_) (fun h15_4 => ?_)
    · refine r_ldc C kkX9_112 dX9_holeFor_27 ?_
      exact ri C Z dX9_holeFor_29 (Or.inl ⟨fun z => absurd z.2.1 (by assumption), rfl, rfl⟩)
    · refine r_iload_n C dX9_holeFor_18 rfl ?_
      refine r_bipush C (v := 60) dX9_holeFor_19 (by decide) ?_
      refine cS C hx (sX9_isWithin (d := d - 1) (by omega) _ _ I J b) moX9_isWithin mlX9_146 mtX9_isWithin dX9_holeFor_21 rfl rfl (by omega) rfl rfl (kp ?_)
      refine z_ifne C (tgt := 30) dX9_holeFor_24 rfl (fun h24_6 => ?_) (fun h24_6 => ?_)
      · have hin : inS I k ∧ inR h 999 ∧ inR n 60 := ⟨by assumption, by assumption, by assumption⟩
        obtain ⟨j, hj, rfl⟩ := nI_get hin.1.1 hin.1.2 (by omega)
        have jx : ix (nI j) = j := nIix (by omega)
        obtain ⟨N, hN, rfl⟩ := nI_get (n := 1000) hin.2.2.1 (by have := hin.2.2.2; omega) (by decide)
        have Nx : ix (nI N) = N := nIix (by omega)
        have e999 : (999 : Int32).toInt = 999 := rfl
        have hh : -1 ≤ h.toInt ∧ h.toInt ≤ 999 := ⟨by have := hin.2.1.1; omega, hin.2.1.2⟩
        refine r_aload_n C dX9_holeFor_30 rfl ?_
        refine r_getR C flX9_49 dX9_holeFor_31 rfl rfl rfl ?_
        refine r_iload_n C dX9_holeFor_34 rfl ?_
        refine r_iload_n C dX9_holeFor_35 rfl ?_
        refine r_iload_n C dX9_holeFor_36 rfl ?_
        refine cV (ci := 8) C hx (sX8_othersGot (d := d - 1) (by omega) j N h (by omega) hh I J b (I 1 1).toInt.toNat (by omega) (by omega) (by omega) hNW hTW hv) moX8_othersGot mlX9_206 miX8_othersGot msX8_othersGot dX9_holeFor_37 rfl rfl rfl rfl rfl (by omega) rfl rfl (ki (fun v_37_7 I_37_7 q_37_7 => ?_))
        obtain ⟨ho1, hF1⟩ := q_37_7
        have r1 : ∀ c, c ∈ [1, 2] → I_37_7 c = I c := fun c hc => hF1 c (by revert hc; revert c; decide)
        have r2 : ∀ c, c ∈ [5, 7, 10, 12] → I_37_7 c = I c := fun c hc => hF1 c (by revert hc; revert c; decide)
        have r3 : ∀ c, c ∈ [16, 16 + 1, 16 + 2, 16 + 3, 16 + 4] → I_37_7 c = I c := fun c hc => hF1 c (by revert hc; revert c; decide)
        refine r_aload_n C dX9_holeFor_40 rfl ?_
        refine r_getR C flX9_49 dX9_holeFor_41 rfl rfl rfl ?_
        refine r_iload_n C dX9_holeFor_44 rfl ?_
        refine r_gets C (j := 2) rfl gsX9_86 dX9_holeFor_45 ?_
        refine r_bipush C (v := 6) dX9_holeFor_48 (by decide) ?_
        refine r_iaro C (j := 2) rfl dX9_holeFor_50 (vin (by decide) (show (6 : Int32).toInt < 12 by decide)) ?_
        rw [show roF (x_g X) 2 (ix 6) = -1 from rfl]
        refine r_iload_n C dX9_holeFor_51 rfl ?_
        refine cV (ci := 8) C hx (sX8_othersGot (d := d - 1) (by omega) j N (-1) (by omega) (by decide) _ J b (I 1 1).toInt.toNat (by rw [r1 1 (by decide)]; omega) (by omega) (by omega) (NW_rows r1 hNW) (TW_rows r2 hTW) (by rw [gv_rows r3]; exact hv)) moX8_othersGot mlX9_206 miX8_othersGot msX8_othersGot dX9_holeFor_52 rfl rfl rfl rfl rfl (by omega) rfl rfl (ki (fun v_52_8 I_52_8 q_52_8 => ?_))
        have hq := q_52_8
        refine r_isub C dX9_holeFor_55 ?_
        exact ri C Z dX9_holeFor_56 (Or.inr ⟨hin, I_37_7, hF1, by rw [jx, Nx, ← ho1, ← hq.1], hF1.tr hq.2 (by decide) (by decide)⟩)
      · refine r_ldc C kkX9_112 dX9_holeFor_27 ?_
        exact ri C Z dX9_holeFor_29 (Or.inl ⟨fun z => absurd z.2.2 (by assumption), rfl, rfl⟩)
