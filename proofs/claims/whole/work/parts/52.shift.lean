set_option maxRecDepth 100000 in
theorem sX9_shift {g : Gb} {d : Nat} (hd : 2 ≤ d) (k i k2 j n : Int32) (I : Is) (J : Js) (b : Bool) (hsz : ∀ t, isSh t → 0 ≤ (I t 1).toInt ∧ (I t 1).toInt ≤ 60) : MC9 g d mX9_shift [.ref 0, .int k, .int i, .int k2, .int j, .int n] I J b (Qg (fun r I' J' b' => I' = I ∧ b' = b ∧ ((¬ (inR k 5 ∧ inR k2 5) ∧ r = some (.int (-1)) ∧ J' = J) ∨ ((inR k 5 ∧ inR k2 5) ∧ (I (shT k) 0 = -2 ∨ I (shT k2) 0 = -2) ∧ r = some (.int (-11)) ∧ J' = J) ∨ ((inR k 5 ∧ inR k2 5) ∧ ¬ (I (shT k) 0 = -2 ∨ I (shT k2) 0 = -2) ∧ (I (shT k) 0 = -1 ∨ ¬ I (shT k) 0 = I (shT k2) 0) ∧ r = some (.int (-12)) ∧ J' = J) ∨ ((inR k 5 ∧ inR k2 5) ∧ ¬ (I (shT k) 0 = -2 ∨ I (shT k2) 0 = -2) ∧ ¬ (I (shT k) 0 = -1 ∨ ¬ I (shT k) 0 = I (shT k2) 0) ∧ ¬ ((0 ≤ i.toInt ∧ 0 ≤ n.toInt ∧ i.toInt + n.toInt ≤ (I (shT k) 1).toInt) ∧ (0 ≤ j.toInt ∧ 0 ≤ n.toInt ∧ j.toInt + n.toInt ≤ (I (shT k2) 1).toInt)) ∧ r = some (.int (-13)) ∧ J' = J) ∨ ((inR k 5 ∧ inR k2 5) ∧ ¬ (I (shT k) 0 = -2 ∨ I (shT k2) 0 = -2) ∧ ¬ (I (shT k) 0 = -1 ∨ ¬ I (shT k) 0 = I (shT k2) 0) ∧ ((0 ≤ i.toInt ∧ 0 ≤ n.toInt ∧ i.toInt + n.toInt ≤ (I (shT k) 1).toInt) ∧ (0 ≤ j.toInt ∧ 0 ≤ n.toInt ∧ j.toInt + n.toInt ≤ (I (shT k2) 1).toInt)) ∧ r = some (.int n) ∧ J' = cpy2 J (shT k2 + 1) (J (shT k + 1)) (ix i) (ix j) (ix n))))) := by
  refine ent9 (own := RX9) rfl rfl rfl (fun X hg hx C Z => ?_)
  subst hg
  refine r_iload_n C dX9_shift_0 rfl ?_
  refine cS C hx (sX9_isShelf (d := d - 1) (by omega) _ I J b) moX9_isShelf mlX9_94 mtX9_isShelf dX9_shift_1 rfl rfl (by omega) rfl rfl (kp ?_)
  refine z_ifeq C (tgt := 14) dX9_shift_4 rfl (fun h4_2 => ?_) (fun h4_2 => ?_)
  · refine r_iconst C (v := -1) dX9_shift_14 (by decide) ?_
    exact rgi C Z dX9_shift_15 ⟨rfl, rfl, Or.inl ⟨fun z => absurd z.1 (by assumption), rfl, rfl⟩⟩
  · refine r_iload_n C dX9_shift_7 rfl ?_
    refine cS C hx (sX9_isShelf (d := d - 1) (by omega) _ I J b) moX9_isShelf mlX9_94 mtX9_isShelf dX9_shift_8 rfl rfl (by omega) rfl rfl (kp ?_)
    refine z_ifne C (tgt := 16) dX9_shift_11 rfl (fun h11_4 => ?_) (fun h11_4 => ?_)
    · have hA : inR k 5 ∧ inR k2 5 := ⟨by assumption, by assumption⟩
      obtain ⟨hsh, hsh2⟩ := hA
      obtain ⟨h51, hT⟩ := sh_at b hsh
      obtain ⟨hc4, hr3, hc21, hl60⟩ := sh_all hT b
      obtain ⟨h512, hT2⟩ := sh_at b hsh2
      obtain ⟨hc42, hr32, hc212, hl602⟩ := sh_all hT2 b
      refine r_aload_n C dX9_shift_16 rfl ?_
      refine r_getR C flX9_69 dX9_shift_17 rfl rfl rfl ?_
      refine r_iload_n C dX9_shift_20 rfl ?_
      refine r_qald C rfl dX9_shift_21 (vin hsh.1 (show k.toInt < 6 by have := hsh.2; omega)) h51 ?_
      refine r_astore C dX9_shift_22 rfl rfl ?_
      refine r_aload_n C dX9_shift_24 rfl ?_
      refine r_getR C flX9_69 dX9_shift_25 rfl rfl rfl ?_
      refine r_iload_n C dX9_shift_28 rfl ?_
      refine r_qald C rfl dX9_shift_29 (vin hsh2.1 (show k2.toInt < 6 by have := hsh2.2; omega)) h512 ?_
      refine r_astore C dX9_shift_30 rfl rfl ?_
      refine r_aload C dX9_shift_32 rfl ?_
      refine r_getI C flX9_98 dX9_shift_34 hc4 rfl ?_
      refine r_bipush C (v := -2) dX9_shift_37 (by decide) ?_
      refine r_iceq C (tgt := 52) dX9_shift_39 rfl (fun h39_5 => ?_) (fun h39_5 => ?_)
      · refine r_bipush C (v := -11) dX9_shift_52 (by decide) ?_
        exact rgi C Z dX9_shift_54 ⟨rfl, rfl, Or.inr (Or.inl ⟨⟨hsh, hsh2⟩, Or.inl (by assumption), rfl, rfl⟩)⟩
      · refine r_aload C dX9_shift_42 rfl ?_
        refine r_getI C flX9_98 dX9_shift_44 hc42 rfl ?_
        refine r_bipush C (v := -2) dX9_shift_47 (by decide) ?_
        refine r_icne C (tgt := 55) dX9_shift_49 rfl (fun h49_6 => ?_) (fun h49_6 => ?_)
        · have hX : ¬ (I (shT k) 0 = -2 ∨ I (shT k2) 0 = -2) := fun z => z.elim (by assumption) (by assumption)
          refine r_aload C dX9_shift_55 rfl ?_
          refine r_getI C flX9_98 dX9_shift_57 hc4 rfl ?_
          refine r_iconst C (v := -1) dX9_shift_60 (by decide) ?_
          refine r_iceq C (tgt := 77) dX9_shift_61 rfl (fun h61_7 => ?_) (fun h61_7 => ?_)
          · refine r_bipush C (v := -12) dX9_shift_77 (by decide) ?_
            exact rgi C Z dX9_shift_79 ⟨rfl, rfl, Or.inr (Or.inr (Or.inl ⟨⟨hsh, hsh2⟩, hX, Or.inl (by assumption), rfl, rfl⟩))⟩
          · refine r_aload C dX9_shift_64 rfl ?_
            refine r_getI C flX9_98 dX9_shift_66 hc4 rfl ?_
            refine r_aload C dX9_shift_69 rfl ?_
            refine r_getI C flX9_98 dX9_shift_71 hc42 rfl ?_
            refine r_iceq C (tgt := 80) dX9_shift_74 rfl (fun h74_8 => ?_) (fun h74_8 => ?_)
            · have hY : ¬ (I (shT k) 0 = -1 ∨ ¬ I (shT k) 0 = I (shT k2) 0) := fun z => z.elim (by assumption) (fun z => z (by assumption))
              refine r_aload C dX9_shift_80 rfl ?_
              refine r_iload_n C dX9_shift_82 rfl ?_
              refine r_iload C dX9_shift_83 rfl ?_
              refine cV (ci := 4) C hx (sX4_hasPlaces (d := d - 1) (by omega) (shT k) hc4 i n I J b (hsz _ hT).1 (hsz _ hT).2) moX4_hasPlaces mlX9_101 miX4_hasPlaces msX4_hasPlaces dX9_shift_85 rfl rfl hc4 rfl rfl (by omega) rfl rfl (kp ?_)
              refine z_ifeq C (tgt := 103) dX9_shift_88 rfl (fun h88_10 => ?_) (fun h88_10 => ?_)
              · refine r_bipush C (v := -13) dX9_shift_103 (by decide) ?_
                exact rgi C Z dX9_shift_105 ⟨rfl, rfl, Or.inr (Or.inr (Or.inr (Or.inl ⟨⟨hsh, hsh2⟩, hX, hY, fun z => absurd z.1 (by assumption), rfl, rfl⟩)))⟩
              · refine r_aload C dX9_shift_91 rfl ?_
                refine r_iload C dX9_shift_93 rfl ?_
                refine r_iload C dX9_shift_95 rfl ?_
                refine cV (ci := 4) C hx (sX4_hasPlaces (d := d - 1) (by omega) (shT k2) hc42 j n I J b (hsz _ hT2).1 (hsz _ hT2).2) moX4_hasPlaces mlX9_101 miX4_hasPlaces msX4_hasPlaces dX9_shift_97 rfl rfl hc42 rfl rfl (by omega) rfl rfl (kp ?_)
                refine z_ifne C (tgt := 106) dX9_shift_100 rfl (fun h100_12 => ?_) (fun h100_12 => ?_)
                · have hp : (0 ≤ i.toInt ∧ 0 ≤ n.toInt ∧ i.toInt + n.toInt ≤ (I (shT k) 1).toInt) := by assumption
                  have hp2 : (0 ≤ j.toInt ∧ 0 ≤ n.toInt ∧ j.toInt + n.toInt ≤ (I (shT k2) 1).toInt) := by assumption
                  have e1 : ((ix i : Nat) : Int) = i.toInt := ix_nn hp.1
                  have e2 : ((ix j : Nat) : Int) = j.toInt := ix_nn hp2.1
                  have e3 : ((ix n : Nat) : Int) = n.toInt := ix_nn hp.2.1
                  have z1 := (hsz _ hT).2
                  have z2 := (hsz _ hT2).2
                  obtain ⟨p1, p2, p3⟩ := hp
                  obtain ⟨p4, p5, p6⟩ := hp2
                  refine r_aload C dX9_shift_106 rfl ?_
                  refine r_getR C flX9_286 dX9_shift_108 hc4 rfl hr3 ?_
                  refine r_iload_n C dX9_shift_111 rfl ?_
                  refine r_aload C dX9_shift_112 rfl ?_
                  refine r_getR C flX9_286 dX9_shift_114 hc42 rfl hr32 ?_
                  refine r_iload C dX9_shift_117 rfl ?_
                  refine r_iload C dX9_shift_119 rfl ?_
                  refine r_copyl C hc21 hc212 (fun z => by have := Int32.lt_iff_toInt_lt.mp z; have e0 : (0 : Int32).toInt = 0 := rfl; omega) (fun z => by have := Int32.lt_iff_toInt_lt.mp z; have e0 : (0 : Int32).toInt = 0 := rfl; omega) (fun z => by have := Int32.lt_iff_toInt_lt.mp z; have e0 : (0 : Int32).toInt = 0 := rfl; omega) (by rw [hl60]; omega) (by rw [hl602]; omega) mlX9_298 dX9_shift_121 (by omega) rfl (Nat.le_of_ble_eq_true rfl) ?_
                  refine r_iload C dX9_shift_124 rfl ?_
                  exact rgi C Z dX9_shift_126 ⟨rfl, rfl, Or.inr (Or.inr (Or.inr (Or.inr ⟨⟨hsh, hsh2⟩, hX, hY, ⟨⟨p1, p2, p3⟩, p4, p5, p6⟩, rfl, rfl⟩)))⟩
                · refine r_bipush C (v := -13) dX9_shift_103 (by decide) ?_
                  exact rgi C Z dX9_shift_105 ⟨rfl, rfl, Or.inr (Or.inr (Or.inr (Or.inl ⟨⟨hsh, hsh2⟩, hX, hY, fun z => absurd z.2 (by assumption), rfl, rfl⟩)))⟩
            · refine r_bipush C (v := -12) dX9_shift_77 (by decide) ?_
              exact rgi C Z dX9_shift_79 ⟨rfl, rfl, Or.inr (Or.inr (Or.inl ⟨⟨hsh, hsh2⟩, hX, Or.inr (by assumption), rfl, rfl⟩))⟩
        · refine r_bipush C (v := -11) dX9_shift_52 (by decide) ?_
          exact rgi C Z dX9_shift_54 ⟨rfl, rfl, Or.inr (Or.inl ⟨⟨hsh, hsh2⟩, Or.inr (by assumption), rfl, rfl⟩)⟩
    · refine r_iconst C (v := -1) dX9_shift_14 (by decide) ?_
      exact rgi C Z dX9_shift_15 ⟨rfl, rfl, Or.inl ⟨fun z => absurd z.2 (by assumption), rfl, rfl⟩⟩
