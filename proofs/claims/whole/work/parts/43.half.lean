abbrev inP (I : Is) (ab : Int32) : Prop := 0 ≤ ab.toInt ∧ (0 ≤ (ab / 10).toInt ∧ (ab / 10).toInt < (I 1 1).toInt) ∧ (0 ≤ (ab - ab / 10 * 10).toInt ∧ (ab - ab / 10 * 10).toInt < (I 1 1).toInt) ∧ ¬ ab / 10 = ab - ab / 10 * 10
set_option maxRecDepth 100000 in
theorem sX9_mark {g : Gb} {d : Nat} (hd : 9 ≤ d) (ab : Int32) (I : Is) (J : Js) (b : Bool) (hs0 : 0 ≤ (I 1 1).toInt) (hs3 : (I 1 1).toInt ≤ 3) (hNW : NW (I 1 1) (I 2)) (hTW : TW I b) (hv : VOk (gv I 16)) : MC9 g d mX9_mark [.ref 0, .int ab] I J b (Qi J b (fun v I' => (¬ inP I ab ∧ v = -1 ∧ I' = I) ∨ (inP I ab ∧ v = lmF (en I b) (ix (ab / 10)) (ix (ab - ab / 10 * 10)) 99 1 (bgF (gv I 16)) (I 16 0) ∧ Fr [32, 33, 34, 35, 36, 37, 38, 39, 40, 41, 42, 43, 14, 15] I I'))) := by
  refine ent9 (own := RX9) rfl rfl rfl (fun X hg hx C Z => ?_)
  subst hg
  refine r_aload_n C dX9_mark_0 rfl ?_
  refine r_iload_n C dX9_mark_1 rfl ?_
  refine cV (ci := 9) C hx (sX9_isPair (d := d - 1) (by omega) _ I J b hs0 hs3) moX9_isPair mlX9_175 miX9_isPair msX9_isPair dX9_mark_2 rfl rfl rfl rfl rfl (by omega) rfl rfl (kp ?_)
  refine z_ifeq C (tgt := 26) dX9_mark_5 rfl (fun h5_2 => ?_) (fun h5_2 => ?_)
  · refine r_iconst C (v := -1) dX9_mark_26 (by decide) ?_
    exact ri C Z dX9_mark_27 (Or.inl ⟨by assumption, rfl, rfl⟩)
  · have hin : inP I ab := by assumption
    obtain ⟨ja, hja, ea⟩ := nI_get hin.2.1.1 hin.2.1.2 (by omega)
    obtain ⟨jb, hjb, eb⟩ := nI_get hin.2.2.1.1 hin.2.2.1.2 (by omega)
    have jax : ix (nI ja) = ja := nIix (by omega)
    have jbx : ix (nI jb) = jb := nIix (by omega)
    refine r_aload_n C dX9_mark_8 rfl ?_
    refine r_getR C flX9_49 dX9_mark_9 rfl rfl rfl ?_
    refine r_iload_n C dX9_mark_12 rfl ?_
    refine r_bipush C (v := 10) dX9_mark_13 (by decide) ?_
    refine r_idiv C dX9_mark_15 (by decide) ?_
    refine r_iload_n C dX9_mark_16 rfl ?_
    refine r_bipush C (v := 10) dX9_mark_17 (by decide) ?_
    refine r_irem C dX9_mark_19 (by decide) ?_
    rw [eb, ea]
    refine cV (ci := 8) C hx (sX8_leastMark (d := d - 1) (by omega) ja jb (by omega) (by omega) I J b hNW hTW hv) moX8_leastMark mlX9_178 miX8_leastMark msX8_leastMark dX9_mark_20 rfl rfl rfl rfl rfl (by omega) rfl rfl (ki (fun v_20_3 I_20_3 q_20_3 => ?_))
    have hq := q_20_3
    refine r_goto C (tgt := 27) dX9_mark_23 rfl ?_
    exact ri C Z dX9_mark_27 (Or.inr ⟨hin, by rw [eb, ea, jax, jbx]; exact hq.1, hq.2⟩)
set_option maxRecDepth 100000 in
theorem sX9_halves {g : Gb} {d : Nat} (hd : 9 ≤ d) (ab w : Int32) (I : Is) (J : Js) (b : Bool) (hs0 : 0 ≤ (I 1 1).toInt) (hs3 : (I 1 1).toInt ≤ 3) (hNW : NW (I 1 1) (I 2)) (hTW : TW I b) (hv : VOk (gv I 16)) (hlv : 0 ≤ (I 16 0).toInt ∧ (I 16 0).toInt ≤ 999) : MC9 g d mX9_halves [.ref 0, .int ab, .int w] I J b (Qi J b (fun v I' => (¬ (inP I ab ∧ inR w 2) ∧ v = -1 ∧ I' = I) ∨ ((inP I ab ∧ inR w 2) ∧ v = (if w = 0 then nI (hlF (fun x => gfF I b (ix (ab / 10)) (nI x)) (fun x => gfF I b (ix (ab - ab / 10 * 10)) (nI x)) (ix (I 16 0)) (I 2 (8 * ix (ab / 10) + 2)) (ix (I 16 0) + 1) 0 0 (-1)).1 else if w = 1 then (hlF (fun x => gfF I b (ix (ab / 10)) (nI x)) (fun x => gfF I b (ix (ab - ab / 10 * 10)) (nI x)) (ix (I 16 0)) (I 2 (8 * ix (ab / 10) + 2)) (ix (I 16 0) + 1) 0 0 (-1)).2 else imax (gfF I b (ix (ab - ab / 10 * 10)) (nI (hlF (fun x => gfF I b (ix (ab / 10)) (nI x)) (fun x => gfF I b (ix (ab - ab / 10 * 10)) (nI x)) (ix (I 16 0)) (I 2 (8 * ix (ab / 10) + 2)) (ix (I 16 0) + 1) 0 0 (-1)).1)) (gfF I b (ix (ab - ab / 10 * 10)) (nI (ix (I 16 0) - (hlF (fun x => gfF I b (ix (ab / 10)) (nI x)) (fun x => gfF I b (ix (ab - ab / 10 * 10)) (nI x)) (ix (I 16 0)) (I 2 (8 * ix (ab / 10) + 2)) (ix (I 16 0) + 1) 0 0 (-1)).1)))) ∧ Fr (29 :: [32, 33, 34, 35, 36, 37, 14, 15]) I I'))) := by
  refine ent9 (own := RX9) rfl rfl rfl (fun X hg hx C Z => ?_)
  subst hg
  refine r_aload_n C dX9_halves_0 rfl ?_
  refine r_iload_n C dX9_halves_1 rfl ?_
  refine cV (ci := 9) C hx (sX9_isPair (d := d - 1) (by omega) _ I J b hs0 hs3) moX9_isPair mlX9_175 miX9_isPair msX9_isPair dX9_halves_2 rfl rfl rfl rfl rfl (by omega) rfl rfl (kp ?_)
  refine z_ifeq C (tgt := 16) dX9_halves_5 rfl (fun h5_2 => ?_) (fun h5_2 => ?_)
  · refine r_iconst C (v := -1) dX9_halves_16 (by decide) ?_
    exact ri C Z dX9_halves_17 (Or.inl ⟨fun z => absurd z.1 (by assumption), rfl, rfl⟩)
  · refine r_iload_n C dX9_halves_8 rfl ?_
    refine r_iconst C (v := 2) dX9_halves_9 (by decide) ?_
    refine cS C hx (sX9_isWithin (d := d - 1) (by omega) _ _ I J b) moX9_isWithin mlX9_146 mtX9_isWithin dX9_halves_10 rfl rfl (by omega) rfl rfl (kp ?_)
    refine z_ifne C (tgt := 18) dX9_halves_13 rfl (fun h13_4 => ?_) (fun h13_4 => ?_)
    · have hin : inP I ab ∧ inR w 2 := ⟨by assumption, by assumption⟩
      obtain ⟨ja, hja, ea⟩ := nI_get hin.1.2.1.1 hin.1.2.1.2 (by omega)
      obtain ⟨jb, hjb, eb⟩ := nI_get hin.1.2.2.1.1 hin.1.2.2.1.2 (by omega)
      have jax : ix (nI ja) = ja := nIix (by omega)
      have jbx : ix (nI jb) = jb := nIix (by omega)
      obtain ⟨Wn, hWl, hWn⟩ := nI_get (n := 1000) hlv.1 (by have := hlv.2; omega) (by decide)
      have Wnx : ix (nI Wn) = Wn := nIix (by omega)
      refine r_aload_n C dX9_halves_18 rfl ?_
      refine r_getR C flX9_49 dX9_halves_19 rfl rfl rfl ?_
      refine r_iload_n C dX9_halves_22 rfl ?_
      refine r_bipush C (v := 10) dX9_halves_23 (by decide) ?_
      refine r_idiv C dX9_halves_25 (by decide) ?_
      refine r_iload_n C dX9_halves_26 rfl ?_
      refine r_bipush C (v := 10) dX9_halves_27 (by decide) ?_
      refine r_irem C dX9_halves_29 (by decide) ?_
      refine r_iload_n C dX9_halves_30 rfl ?_
      rw [eb, ea]
      refine cV (ci := 8) C hx (sX8_halved (d := d - 1) (by omega) ja jb Wn w (by omega) (by omega) I J b hWn (by omega) hNW hTW hv) moX8_halved mlX9_181 miX8_halved msX8_halved dX9_halves_31 rfl rfl rfl rfl rfl (by omega) rfl rfl (ki (fun v_31_5 I_31_5 q_31_5 => ?_))
      have hq := q_31_5
      exact ri C Z dX9_halves_34 (Or.inr ⟨hin, by rw [eb, ea, jax, jbx, hWn, Wnx]; exact hq.1, hq.2⟩)
    · refine r_iconst C (v := -1) dX9_halves_16 (by decide) ?_
      exact ri C Z dX9_halves_17 (Or.inl ⟨fun z => absurd z.2 (by assumption), rfl, rfl⟩)
set_option maxRecDepth 100000 in
theorem sX9_slow {g : Gb} {d : Nat} (hd : 9 ≤ d) (k n : Int32) (I : Is) (J : Js) (b : Bool) (hs0 : 0 ≤ (I 1 1).toInt) (hs3 : (I 1 1).toInt ≤ 3) (hNW : NW (I 1 1) (I 2)) (hTW : TW I b) (hv : VOk (gv I 16)) (hst : ∀ j : Nat, (j : Int) < (I 1 1).toInt → 0 ≤ (I 2 (8 * j + 0)).toInt ∧ (I 2 (8 * j + 0)).toInt ≤ 20) : MC9 g d mX9_slow [.ref 0, .int k, .int n] I J b (Qi J b (fun v I' => (¬ (inS I k ∧ inR n 60) ∧ v = -1 ∧ I' = I) ∨ ((inS I k ∧ inR n 60) ∧ v = (bnF (fun x => gsF 0 (drW I b (8 * ix k + 0) (nI x) (I 1 1).toInt.toNat (ix n)) (ix k)) (bnGo I 0 0) (ix (I 2 (8 * ix k + 0)) + 1) 0 0 (-1)).1 ∧ I' 28 0 = (bnF (fun x => gsF 0 (drW I b (8 * ix k + 0) (nI x) (I 1 1).toInt.toNat (ix n)) (ix k)) (bnGo I 0 0) (ix (I 2 (8 * ix k + 0)) + 1) 0 0 (-1)).2 ∧ Fr (28 :: [32, 33, 34, 35, 36, 37, 14, 15]) I I'))) := by
  refine ent9 (own := RX9) rfl rfl rfl (fun X hg hx C Z => ?_)
  subst hg
  refine r_aload_n C dX9_slow_0 rfl ?_
  refine r_iload_n C dX9_slow_1 rfl ?_
  refine cV (ci := 9) C hx (sX9_isStraw (d := d - 1) (by omega) _ I J b hs0 hs3) moX9_isStraw mlX9_143 miX9_isStraw msX9_isStraw dX9_slow_2 rfl rfl rfl rfl rfl (by omega) rfl rfl (kp ?_)
  refine z_ifeq C (tgt := 17) dX9_slow_5 rfl (fun h5_2 => ?_) (fun h5_2 => ?_)
  · refine r_iconst C (v := -1) dX9_slow_17 (by decide) ?_
    exact ri C Z dX9_slow_18 (Or.inl ⟨fun z => absurd z.1 (by assumption), rfl, rfl⟩)
  · refine r_iload_n C dX9_slow_8 rfl ?_
    refine r_bipush C (v := 60) dX9_slow_9 (by decide) ?_
    refine cS C hx (sX9_isWithin (d := d - 1) (by omega) _ _ I J b) moX9_isWithin mlX9_146 mtX9_isWithin dX9_slow_11 rfl rfl (by omega) rfl rfl (kp ?_)
    refine z_ifne C (tgt := 19) dX9_slow_14 rfl (fun h14_4 => ?_) (fun h14_4 => ?_)
    · have hin : inS I k ∧ inR n 60 := ⟨by assumption, by assumption⟩
      obtain ⟨j, hj, rfl⟩ := nI_get hin.1.1 hin.1.2 (by omega)
      have jx : ix (nI j) = j := nIix (by omega)
      obtain ⟨N, hN, rfl⟩ := nI_get (n := 1000) hin.2.1 (by have := hin.2.2; omega) (by decide)
      have Nx : ix (nI N) = N := nIix (by omega)
      obtain ⟨Mo, hMo, eMo⟩ := nI_get (n := 21) (hst j hj).1 (by have := (hst j hj).2; omega) (by decide)
      have Mox : ix (nI Mo) = Mo := nIix (by omega)
      refine r_aload_n C dX9_slow_19 rfl ?_
      refine r_getR C flX9_49 dX9_slow_20 rfl rfl rfl ?_
      refine r_iload_n C dX9_slow_23 rfl ?_
      refine r_iconst C (v := 0) dX9_slow_24 (by decide) ?_
      refine r_aload_n C dX9_slow_25 rfl ?_
      refine r_getR C flX9_10 dX9_slow_26 rfl rfl rfl ?_
      refine r_iload_n C dX9_slow_29 rfl ?_
      refine r_iconst C (v := 0) dX9_slow_30 (by decide) ?_
      refine cV (ci := 3) C hx (sOf (d := d - 1) j 0 (by omega) (by decide) I J b) moX3_ofStraw mlX9_196 miX3_ofStraw msX3_ofStraw dX9_slow_31 rfl rfl rfl rfl rfl (by omega) rfl rfl (kp ?_)
      rw [eMo]
      refine r_iload_n C dX9_slow_34 rfl ?_
      refine r_iconst C (v := 0) dX9_slow_35 (by decide) ?_
      refine cV (ci := 8) C hx (sX8_bestNumber (d := d - 1) (by omega) j 0 Mo N 0 (Or.inl rfl) ⟨fun _ => by omega, fun z => absurd z (by decide)⟩ (by omega) I J b (I 1 1).toInt.toNat (by omega) (by omega) (by omega) hNW hTW hv) moX8_bestNumber mlX9_189 miX8_bestNumber msX8_bestNumber dX9_slow_36 rfl rfl rfl rfl rfl (by omega) rfl rfl (ki (fun v_36_6 I_36_6 q_36_6 => ?_))
      have hq := q_36_6
      exact ri C Z dX9_slow_39 (Or.inr ⟨hin, by rw [jx, Nx, eMo, Mox]; exact hq.1, by rw [jx, Nx, eMo, Mox]; exact hq.2.1, hq.2.2⟩)
    · refine r_iconst C (v := -1) dX9_slow_17 (by decide) ?_
      exact ri C Z dX9_slow_18 (Or.inl ⟨fun z => absurd z.2 (by assumption), rfl, rfl⟩)
