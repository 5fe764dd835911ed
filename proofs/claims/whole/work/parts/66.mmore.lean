theorem bs_lt (f : Nat → Int32) : ∀ n, bsF f (n + 1) ≤ n := by
  intro n
  induction n with
  | zero => unfold bsF; split <;> exact Nat.le_refl 0
  | succ n ih =>
    show (if (f (bsF f (n + 1))).toInt < (f (n + 1)).toInt then n + 1 else bsF f (n + 1)) ≤ n + 1
    split
    · exact Nat.le_refl _
    · omega
set_option maxRecDepth 100000 in
set_option maxHeartbeats 400000 in
theorem sX10_more {g : Gb} {d : Nat} (hd : 84 ≤ d) (n w : Int32) (I : Is) (J : Js) (b : Bool) (hN : NM I) (hv : VOk (gvT I)) : MC9 g d mX10_more [.ref 64, .int n, .int w] I J b (Qi J b (fun v I' => ((¬ (inR n 999 ∧ inR w 1) ∧ v = -1 ∧ I' = I) ∨ ((inR n 999 ∧ inR w 1) ∧ I 64 6 = 0 ∧ v = (if w = 0 then -2 else 0) ∧ I' = I) ∨ ((inR n 999 ∧ inR w 1) ∧ ¬ I 64 6 = 0 ∧ TH I I' (bit 7) (bit 0) (bit 0) (goF (enM I) (bit 7) (bit 0) (bit 0) (ix n) (bgF (gvT I))) ∧ v = (if w = 0 then nI (bsF (I' 74) (I 64 6).toInt.toNat) else I' 74 (bsF (I' 74) (I 64 6).toInt.toNat) - lsF (I' 74) (I 64 6).toInt.toNat))))) := by
  have hvb : VOk (bgF (gvT I)) := hv
  have hs0 := hN.1.1
  have hs3 := hN.1.2.1
  obtain ⟨s, hs⟩ : ∃ s : Nat, (I 64 6).toInt = (s : Int) := ⟨(I 64 6).toInt.toNat, by omega⟩
  have hsn : (I 64 6).toInt.toNat = s := by omega
  rw [hsn]
  refine ent9 (own := RX10) rfl rfl rfl (fun X hg hx C Z => ?_)
  subst hg
  have loop : ∀ (m k l : Nat) (I' : Is), m + k = s → 1 ≤ k → l < k → (inR n 999 ∧ inR w 1) → ¬ I 64 6 = 0 → TH I I' (bit 7) (bit 0) (bit 0) (goF (enM I) (bit 7) (bit 0) (bit 0) (ix n) (bgF (gvT I))) → I' 74 l = lsF (I' 74) k → Aw X 59 [some (.ref 64), some (.int n), some (.int w), some (.int (nI (bsF (I' 74) k))), some (.int (nI l)), some (.int (nI k))] [] (st9 I' J b) := by
    intro m
    induction m with
    | zero =>
      intro k l I' hm hk1 hlk hin hne hT hl
      have ink : (nI k).toInt = (k : Int) := nIint (by omega)
      have inl : (nI l).toInt = (l : Int) := nIint (by omega)
      have lx : ix (nI l) = l := nIix (by omega)
      have e6 : (I' 64 6).toInt = (s : Int) := by rw [hT.1.2 6 (by decide)]; exact hs
      have hks : k = s := by omega
      have hbl : bsF (I' 74) k < k := by
        obtain ⟨q, rfl⟩ : ∃ q, k = q + 1 := ⟨k - 1, by omega⟩
        have := bs_lt (I' 74) q; omega
      have inb : (nI (bsF (I' 74) k)).toInt = ((bsF (I' 74) k : Nat) : Int) := nIint (by omega)
      have bx : ix (nI (bsF (I' 74) k)) = bsF (I' 74) k := nIix (by omega)
      refine r_iload C dX10_more_59 rfl ?_
      refine r_aload_n C dX10_more_61 rfl ?_
      refine r_getI C flX10_102 dX10_more_62 rfl rfl ?_
      refine b_icge C (tgt := 123) rfl rfl dX10_more_65 rfl (fun h65_1 => ?_) (fun h65_1 => ?_)
      · refine r_iload_n C dX10_more_123 rfl ?_
        refine r_ifne C (tgt := 131) dX10_more_124 rfl (fun h124_2 => ?_) (fun h124_2 => ?_)
        · refine r_aload_n C dX10_more_131 rfl ?_
          refine r_getR C flX10_37 dX10_more_132 rfl rfl rfl ?_
          refine r_iload_n C dX10_more_135 rfl ?_
          refine r_iald C rfl dX10_more_136 (vin (by omega) (show (nI (bsF (I' 74) k)).toInt < 3 by omega)) ?_
          rw [bx]
          refine r_aload_n C dX10_more_137 rfl ?_
          refine r_getR C flX10_37 dX10_more_138 rfl rfl rfl ?_
          refine r_iload C dX10_more_141 rfl ?_
          refine r_iald C rfl dX10_more_143 (vin (by omega) (show (nI l).toInt < 3 by omega)) ?_
          rw [lx, hl]
          refine r_isub C dX10_more_144 ?_
          exact ri C Z dX10_more_145 (show (_ ∨ _ ∨ _) from Or.inr (Or.inr ⟨hin, hne, hT, by rw [hks]; exact (if_neg (by assumption)).symm⟩))
        · refine r_iload_n C dX10_more_127 rfl ?_
          refine r_goto C (tgt := 145) dX10_more_128 rfl ?_
          exact ri C Z dX10_more_145 (show (_ ∨ _ ∨ _) from Or.inr (Or.inr ⟨hin, hne, hT, by rw [hks]; exact (if_pos (by assumption)).symm⟩))
      · exfalso; omega
    | succ m ih =>
      intro k l I' hm hk1 hlk hin hne hT hl
      have ink : (nI k).toInt = (k : Int) := nIint (by omega)
      have inl : (nI l).toInt = (l : Int) := nIint (by omega)
      have lx : ix (nI l) = l := nIix (by omega)
      have kx : ix (nI k) = k := nIix (by omega)
      have e6 : (I' 64 6).toInt = (s : Int) := by rw [hT.1.2 6 (by decide)]; exact hs
      have hbl : bsF (I' 74) k < k := by
        obtain ⟨q, rfl⟩ : ∃ q, k = q + 1 := ⟨k - 1, by omega⟩
        have := bs_lt (I' 74) q; omega
      have inb : (nI (bsF (I' 74) k)).toInt = ((bsF (I' 74) k : Nat) : Int) := nIint (by omega)
      have bx : ix (nI (bsF (I' 74) k)) = bsF (I' 74) k := nIix (by omega)
      have hb1 : bsF (I' 74) (k + 1) = if (I' 74 (bsF (I' 74) k)).toInt < (I' 74 k).toInt then k else bsF (I' 74) k := rfl
      have hl1 : lsF (I' 74) (k + 1) = imin (lsF (I' 74) k) (I' 74 k) := rfl
      refine r_iload C dX10_more_59 rfl ?_
      refine r_aload_n C dX10_more_61 rfl ?_
      refine r_getI C flX10_102 dX10_more_62 rfl rfl ?_
      refine b_icge C (tgt := 123) rfl rfl dX10_more_65 rfl (fun h65_1 => ?_) (fun h65_1 => ?_)
      · exfalso; omega
      · refine r_aload_n C dX10_more_68 rfl ?_
        refine r_getR C flX10_37 dX10_more_69 rfl rfl rfl ?_
        refine r_iload C dX10_more_72 rfl ?_
        refine r_iald C rfl dX10_more_74 (vin (by omega) (show (nI k).toInt < 3 by omega)) ?_
        rw [kx]
        refine r_aload_n C dX10_more_75 rfl ?_
        refine r_getR C flX10_37 dX10_more_76 rfl rfl rfl ?_
        refine r_iload_n C dX10_more_79 rfl ?_
        refine r_iald C rfl dX10_more_80 (vin (by omega) (show (nI (bsF (I' 74) k)).toInt < 3 by omega)) ?_
        rw [bx]
        refine b_icle C (tgt := 89) rfl rfl dX10_more_81 rfl (fun h81_2 => ?_) (fun h81_2 => ?_)
        · refine r_iload_n C dX10_more_89 rfl ?_
          refine r_istore_n C dX10_more_90 rfl rfl ?_
          refine r_aload_n C dX10_more_91 rfl ?_
          refine r_getR C flX10_37 dX10_more_92 rfl rfl rfl ?_
          refine r_iload C dX10_more_95 rfl ?_
          refine r_iald C rfl dX10_more_97 (vin (by omega) (show (nI k).toInt < 3 by omega)) ?_
          rw [kx]
          refine r_aload_n C dX10_more_98 rfl ?_
          refine r_getR C flX10_37 dX10_more_99 rfl rfl rfl ?_
          refine r_iload C dX10_more_102 rfl ?_
          refine r_iald C rfl dX10_more_104 (vin (by omega) (show (nI l).toInt < 3 by omega)) ?_
          rw [lx]
          refine b_icge C (tgt := 113) rfl rfl dX10_more_105 rfl (fun h105_3 => ?_) (fun h105_3 => ?_)
          · refine r_iload C dX10_more_113 rfl ?_
            refine r_istore C dX10_more_115 rfl rfl ?_
            refine r_iinc C (v := 1) dX10_more_117 rfl (by decide) rfl ?_
            refine r_goto C (tgt := 59) dX10_more_120 rfl ?_
            rw [nI_s]
            have h2 := ih (k + 1) l I' (by omega) (by omega) (by omega) hin hne hT (by rw [hl1, ← hl]; unfold imin; exact (if_neg (fun z => by have := Int32.lt_iff_toInt_lt.mp z; omega)).symm)
            rw [hb1, if_neg (by omega)] at h2
            exact h2
          · refine r_iload C dX10_more_108 rfl ?_
            refine r_goto C (tgt := 115) dX10_more_110 rfl ?_
            refine r_istore C dX10_more_115 rfl rfl ?_
            refine r_iinc C (v := 1) dX10_more_117 rfl (by decide) rfl ?_
            refine r_goto C (tgt := 59) dX10_more_120 rfl ?_
            rw [nI_s]
            have h2 := ih (k + 1) k I' (by omega) (by omega) (by omega) hin hne hT (by rw [hl1, ← hl]; unfold imin; exact (if_pos (Int32.lt_iff_toInt_lt.mpr (by assumption))).symm)
            rw [hb1, if_neg (by omega)] at h2
            exact h2
        · refine r_iload C dX10_more_84 rfl ?_
          refine r_goto C (tgt := 90) dX10_more_86 rfl ?_
          refine r_istore_n C dX10_more_90 rfl rfl ?_
          refine r_aload_n C dX10_more_91 rfl ?_
          refine r_getR C flX10_37 dX10_more_92 rfl rfl rfl ?_
          refine r_iload C dX10_more_95 rfl ?_
          refine r_iald C rfl dX10_more_97 (vin (by omega) (show (nI k).toInt < 3 by omega)) ?_
          rw [kx]
          refine r_aload_n C dX10_more_98 rfl ?_
          refine r_getR C flX10_37 dX10_more_99 rfl rfl rfl ?_
          refine r_iload C dX10_more_102 rfl ?_
          refine r_iald C rfl dX10_more_104 (vin (by omega) (show (nI l).toInt < 3 by omega)) ?_
          rw [lx]
          refine b_icge C (tgt := 113) rfl rfl dX10_more_105 rfl (fun h105_4 => ?_) (fun h105_4 => ?_)
          · refine r_iload C dX10_more_113 rfl ?_
            refine r_istore C dX10_more_115 rfl rfl ?_
            refine r_iinc C (v := 1) dX10_more_117 rfl (by decide) rfl ?_
            refine r_goto C (tgt := 59) dX10_more_120 rfl ?_
            rw [nI_s]
            have h2 := ih (k + 1) l I' (by omega) (by omega) (by omega) hin hne hT (by rw [hl1, ← hl]; unfold imin; exact (if_neg (fun z => by have := Int32.lt_iff_toInt_lt.mp z; omega)).symm)
            rw [hb1, if_pos (by assumption)] at h2
            exact h2
          · refine r_iload C dX10_more_108 rfl ?_
            refine r_goto C (tgt := 115) dX10_more_110 rfl ?_
            refine r_istore C dX10_more_115 rfl rfl ?_
            refine r_iinc C (v := 1) dX10_more_117 rfl (by decide) rfl ?_
            refine r_goto C (tgt := 59) dX10_more_120 rfl ?_
            rw [nI_s]
            have h2 := ih (k + 1) k I' (by omega) (by omega) (by omega) hin hne hT (by rw [hl1, ← hl]; unfold imin; exact (if_pos (Int32.lt_iff_toInt_lt.mpr (by assumption))).symm)
            rw [hb1, if_pos (by assumption)] at h2
            exact h2
  refine r_iload_n C dX10_more_0 rfl ?_
  refine r_i2l C dX10_more_1 ?_
  refine r_lconst C (v := 0) dX10_more_2 (by decide) ?_
  refine r_ldc2 C kkX10_113 dX10_more_3 ?_
  refine cS C hx (sWi (d := d - 1) _ (lo := 0) (hi := 999) rfl rfl I J b) moX10_within mlX10_105 mtX10_within dX10_more_6 rfl rfl (by omega) rfl rfl (kp ?_)
  refine z_ifeq C (tgt := 22) dX10_more_9 rfl (fun h9_2 => ?_) (fun h9_2 => ?_)
  · refine r_iconst C (v := -1) dX10_more_22 (by decide) ?_
    exact ri C Z dX10_more_23 (show (_ ∨ _ ∨ _) from Or.inl ⟨fun z => absurd z.1 (by assumption), rfl, rfl⟩)
  · refine r_iload_n C dX10_more_12 rfl ?_
    refine r_i2l C dX10_more_13 ?_
    refine r_lconst C (v := 0) dX10_more_14 (by decide) ?_
    refine r_lconst C (v := 1) dX10_more_15 (by decide) ?_
    refine cS C hx (sWi (d := d - 1) _ (lo := 0) (hi := 1) rfl rfl I J b) moX10_within mlX10_105 mtX10_within dX10_more_16 rfl rfl (by omega) rfl rfl (kp ?_)
    refine z_ifne C (tgt := 24) dX10_more_19 rfl (fun h19_4 => ?_) (fun h19_4 => ?_)
    · have hin : (inR n 999 ∧ inR w 1) := ⟨by assumption, by assumption⟩
      refine r_aload_n C dX10_more_24 rfl ?_
      refine r_getI C flX10_102 dX10_more_25 rfl rfl ?_
      refine r_ifne C (tgt := 42) dX10_more_28 rfl (fun h28_5 => ?_) (fun h28_5 => ?_)
      · refine r_aload_n C dX10_more_42 rfl ?_
        refine cV (ci := 10) C hx (sX10_begins1 (d := d - 1) (by omega) I J b) moX10_begins1 mlX10_258 miX10_begins1 msX10_begins1 dX10_more_43 rfl rfl rfl rfl rfl (by omega) rfl rfl (kv (fun I_43_6 q_43_6 => ?_))
        have hT := th_bg (I := I) hN FrM.rf q_43_6
        refine r_aload_n C dX10_more_46 rfl ?_
        refine r_iload_n C dX10_more_47 rfl ?_
        refine cV (ci := 10) C hx (sX10_goes (d := d - 1) (by omega) (ix n) n (ix_of0 hin.1.1) I _ J b hN (hvb) hT) moX10_goes mlX10_261 miX10_goes msX10_goes dX10_more_48 rfl rfl rfl rfl rfl (by omega) rfl rfl (kv (fun I_48_7 q_48_7 => ?_))
        have hT2 := q_48_7
        refine r_iconst C (v := 0) dX10_more_51 (by decide) ?_
        refine r_istore_n C dX10_more_52 rfl rfl ?_
        refine r_iconst C (v := 0) dX10_more_53 (by decide) ?_
        refine r_istore C dX10_more_54 rfl rfl ?_
        refine r_iconst C (v := 1) dX10_more_56 (by decide) ?_
        refine r_istore C dX10_more_57 rfl rfl ?_
        have h2 := loop (s - 1) 1 0 _ (by have := ne_int (show ¬ I 64 6 = 0 by assumption); rw [show (0 : Int32).toInt = 0 from rfl] at this; omega) (by decide) (by decide) hin (by assumption) hT2 (by show _ = imin (lsF _ 0) _; unfold imin lsF; split <;> rfl)
        rw [show bsF _ 1 = 0 from by unfold bsF; split <;> rfl] at h2
        exact h2
      · refine r_iload_n C dX10_more_31 rfl ?_
        refine r_ifne C (tgt := 40) dX10_more_32 rfl (fun h32_8 => ?_) (fun h32_8 => ?_)
        · refine r_iconst C (v := 0) dX10_more_40 (by decide) ?_
          exact ri C Z dX10_more_41 (show (_ ∨ _ ∨ _) from Or.inr (Or.inl ⟨hin, by assumption, (if_neg (by assumption)).symm, rfl⟩))
        · refine r_bipush C (v := -2) dX10_more_35 (by decide) ?_
          refine r_goto C (tgt := 41) dX10_more_37 rfl ?_
          exact ri C Z dX10_more_41 (show (_ ∨ _ ∨ _) from Or.inr (Or.inl ⟨hin, by assumption, (if_pos (by assumption)).symm, rfl⟩))
    · refine r_iconst C (v := -1) dX10_more_22 (by decide) ?_
      exact ri C Z dX10_more_23 (show (_ ∨ _ ∨ _) from Or.inl ⟨fun z => absurd z.2 (by assumption), rfl, rfl⟩)
set_option maxRecDepth 100000 in
set_option maxHeartbeats 400000 in
theorem sX10_turns {g : Gb} {d : Nat} (hd : 84 ≤ d) (n mf k : Int32) (I : Is) (J : Js) (b : Bool) (hN : NM I) (hv : VOk (gvT I)) : MC9 g d mX10_turns [.ref 64, .int n, .int mf, .int k] I J b (Qi J b (fun v I' => (¬ (inR n 999 ∧ 0 ≤ mf.toInt ∧ (1 ≤ (mf / 10).toInt ∧ (mf / 10).toInt ≤ 60) ∧ inM I (mf - mf / 10 * 10) ∧ inM I k) ∧ v = -1 ∧ I' = I) ∨ ((inR n 999 ∧ 0 ≤ mf.toInt ∧ (1 ≤ (mf / 10).toInt ∧ (mf / 10).toInt ≤ 60) ∧ inM I (mf - mf / 10 * 10) ∧ inM I k) ∧ v = (gwF (enM I) (tnF (I 64 6) (mf / 10) (mf - mf / 10 * 10)) (fun _ _ => true) (fun _ => bit 0) (ix n) (bgF (gvT I))).2.2.2.2.1 (ix k) ∧ FrM RTM FTM I I'))) := by
  have hvb : VOk (bgF (gvT I)) := hv
  have hEO := enM_ok hN
  have hs0 := hN.1.1
  have hs3 := hN.1.2.1
  refine ent9 (own := RX10) rfl rfl rfl (fun X hg hx C Z => ?_)
  subst hg
  have loop : ∀ (q i : Nat) (I' : Is), q + i = ix n → (inR n 999 ∧ 0 ≤ mf.toInt ∧ (1 ≤ (mf / 10).toInt ∧ (mf / 10).toInt ≤ 60) ∧ inM I (mf - mf / 10 * 10) ∧ inM I k) → TH I I' (if i = 0 then bit 7 else tnF (I 64 6) (mf / 10) (mf - mf / 10 * 10) (i - 1)) (fun _ => true) (bit 0) (gwF (enM I) (tnF (I 64 6) (mf / 10) (mf - mf / 10 * 10)) (fun _ _ => true) (fun _ => bit 0) i (bgF (gvT I))) → Aw X 64 [some (.ref 64), some (.int n), some (.int mf), some (.int k), some (.int (nI i))] [] (st9 I' J b) := by
    intro q
    induction q with
    | zero =>
      intro i I' hq hin hT
      have hnn := ix_of0 hin.1.1
      have hn9 := hin.1.2
      have ini : (nI i).toInt = (i : Int) := nIint (by omega)
      rw [show i = ix n by omega] at hT
      have hkj := ix_nn hin.2.2.2.2.1
      have hkl := hin.2.2.2.2.2
      refine r_iload C dX10_turns_64 rfl ?_
      refine r_iload_n C dX10_turns_66 rfl ?_
      refine b_icge C (tgt := 103) rfl rfl dX10_turns_67 rfl (fun h67_1 => ?_) (fun h67_1 => ?_)
      · refine r_aload_n C dX10_turns_103 rfl ?_
        refine r_getR C flX10_37 dX10_turns_104 rfl rfl rfl ?_
        refine r_iload_n C dX10_turns_107 rfl ?_
        refine r_iald C rfl dX10_turns_108 (vin (by omega) (show k.toInt < 3 by omega)) ?_
        exact ri C Z dX10_turns_109 (show (_ ∨ _) from Or.inr ⟨hin, hT.2.1.2.2.2.2.1 (ix k) (by omega), hT.1⟩)
      · exfalso; omega
    | succ q ih =>
      intro i I' hq hin hT
      have hnn := ix_of0 hin.1.1
      have hn9 := hin.1.2
      have ini : (nI i).toInt = (i : Int) := nIint (by omega)
      have e6 : I' 64 6 = I 64 6 := hT.1.2 6 (by decide)
      have hs1 : ¬ I 64 6 = 0 := fun z => by have h9 : 0 ≤ k.toInt ∧ k.toInt < (I 64 6).toInt := hin.2.2.2.2; rw [z] at h9; have z8 : (0 : Int32).toInt = 0 := rfl; omega
      have hm1 : ¬ mf / 10 = 0 := fun z => by have := hin.2.2.1.1; rw [z] at this; exact absurd this (by decide)
      refine r_iload C dX10_turns_64 rfl ?_
      refine r_iload_n C dX10_turns_66 rfl ?_
      refine b_icge C (tgt := 103) rfl rfl dX10_turns_67 rfl (fun h67_1 => ?_) (fun h67_1 => ?_)
      · exfalso; omega
      · refine r_aload_n C dX10_turns_70 rfl ?_
        refine r_iconst C (v := 1) dX10_turns_71 (by decide) ?_
        refine r_iload_n C dX10_turns_72 rfl ?_
        refine r_bipush C (v := 10) dX10_turns_73 (by decide) ?_
        refine r_irem C dX10_turns_75 (by decide) ?_
        refine r_iload C dX10_turns_76 rfl ?_
        refine r_iload_n C dX10_turns_78 rfl ?_
        refine r_bipush C (v := 10) dX10_turns_79 (by decide) ?_
        refine r_idiv C dX10_turns_81 (by decide) ?_
        refine r_idiv C dX10_turns_82 hm1 ?_
        refine r_iadd C dX10_turns_83 ?_
        refine r_aload_n C dX10_turns_84 rfl ?_
        refine r_getI C flX10_102 dX10_turns_85 rfl rfl ?_
        refine r_irem C dX10_turns_88 (by rw [e6]; exact hs1) ?_
        refine r_ishl C dX10_turns_89 ?_
        refine r_putI C flX10_234 dX10_turns_90 rfl rfl rfl rfl rfl ?_
        rw [e6]
        have hT3 : TH I _ (tnF (I 64 6) (mf / 10) (mf - mf / 10 * 10) i) (fun _ => true) (bit 0) _ := hT.pt hN (1 <<< (irm (mf - mf / 10 * 10 + nI i / (mf / 10)) (I 64 6) &&& 31))
        refine r_aload_n C dX10_turns_93 rfl ?_
        refine cV (ci := 10) C hx (sX10_secondGoes (d := d - 1) (by omega) _ J b (hT3.nm hN) (VOk.eqv hT3.2.1 (gw_ok hEO hvb i))) moX10_secondGoes mlX10_253 miX10_secondGoes msX10_secondGoes dX10_turns_94 rfl rfl rfl rfl rfl (by omega) rfl rfl (kv (fun I_94_2 q_94_2 => ?_))
        have hT2 := th_sec hN hT3 q_94_2
        refine r_iinc C (v := 1) dX10_turns_97 rfl (by decide) rfl ?_
        refine r_goto C (tgt := 64) dX10_turns_100 rfl ?_
        rw [nI_s]
        exact ih (i + 1) _ (by omega) hin (by rw [if_neg (by omega), Nat.add_sub_cancel]; exact hT2)
  refine r_iload_n C dX10_turns_0 rfl ?_
  refine r_i2l C dX10_turns_1 ?_
  refine r_lconst C (v := 0) dX10_turns_2 (by decide) ?_
  refine r_ldc2 C kkX10_113 dX10_turns_3 ?_
  refine cS C hx (sWi (d := d - 1) _ (lo := 0) (hi := 999) rfl rfl I J b) moX10_within mlX10_105 mtX10_within dX10_turns_6 rfl rfl (by omega) rfl rfl (kp ?_)
  refine z_ifeq C (tgt := 50) dX10_turns_9 rfl (fun h9_2 => ?_) (fun h9_2 => ?_)
  · refine r_iconst C (v := -1) dX10_turns_50 (by decide) ?_
    exact ri C Z dX10_turns_51 (show (_ ∨ _) from Or.inl ⟨fun z => absurd z.1 (by assumption), rfl, rfl⟩)
  · refine r_iload_n C dX10_turns_12 rfl ?_
    refine b_iflt C (tgt := 50) dX10_turns_13 rfl (fun h13_3 => ?_) (fun h13_3 => ?_)
    · refine r_iconst C (v := -1) dX10_turns_50 (by decide) ?_
      exact ri C Z dX10_turns_51 (show (_ ∨ _) from Or.inl ⟨fun z => absurd z.2.1 (by omega), rfl, rfl⟩)
    · refine r_iload_n C dX10_turns_16 rfl ?_
      refine r_bipush C (v := 10) dX10_turns_17 (by decide) ?_
      refine r_idiv C dX10_turns_19 (by decide) ?_
      refine r_i2l C dX10_turns_20 ?_
      refine r_lconst C (v := 1) dX10_turns_21 (by decide) ?_
      refine r_ldc2 C kkX10_139 dX10_turns_22 ?_
      refine cS C hx (sWi (d := d - 1) _ (lo := 1) (hi := 60) rfl rfl I J b) moX10_within mlX10_105 mtX10_within dX10_turns_25 rfl rfl (by omega) rfl rfl (kp ?_)
      refine z_ifeq C (tgt := 50) dX10_turns_28 rfl (fun h28_5 => ?_) (fun h28_5 => ?_)
      · refine r_iconst C (v := -1) dX10_turns_50 (by decide) ?_
        exact ri C Z dX10_turns_51 (show (_ ∨ _) from Or.inl ⟨fun z => absurd z.2.2.1 (by assumption), rfl, rfl⟩)
      · refine r_aload_n C dX10_turns_31 rfl ?_
        refine r_iload_n C dX10_turns_32 rfl ?_
        refine r_bipush C (v := 10) dX10_turns_33 (by decide) ?_
        refine r_irem C dX10_turns_35 (by decide) ?_
        refine cV (ci := 10) C hx (sX10_isStraw (d := d - 1) (by omega) _ I J b hs0 hs3) moX10_isStraw mlX10_130 miX10_isStraw msX10_isStraw dX10_turns_36 rfl rfl rfl rfl rfl (by omega) rfl rfl (kp ?_)
        refine z_ifeq C (tgt := 50) dX10_turns_39 rfl (fun h39_7 => ?_) (fun h39_7 => ?_)
        · refine r_iconst C (v := -1) dX10_turns_50 (by decide) ?_
          exact ri C Z dX10_turns_51 (show (_ ∨ _) from Or.inl ⟨fun z => absurd z.2.2.2.1 (by assumption), rfl, rfl⟩)
        · refine r_aload_n C dX10_turns_42 rfl ?_
          refine r_iload_n C dX10_turns_43 rfl ?_
          refine cV (ci := 10) C hx (sX10_isStraw (d := d - 1) (by omega) _ I J b hs0 hs3) moX10_isStraw mlX10_130 miX10_isStraw msX10_isStraw dX10_turns_44 rfl rfl rfl rfl rfl (by omega) rfl rfl (kp ?_)
          refine z_ifne C (tgt := 52) dX10_turns_47 rfl (fun h47_9 => ?_) (fun h47_9 => ?_)
          · have hin : (inR n 999 ∧ 0 ≤ mf.toInt ∧ (1 ≤ (mf / 10).toInt ∧ (mf / 10).toInt ≤ 60) ∧ inM I (mf - mf / 10 * 10) ∧ inM I k) := ⟨by assumption, by assumption, by assumption, by assumption, by assumption⟩
            refine r_aload_n C dX10_turns_52 rfl ?_
            refine cV (ci := 10) C hx (sX10_begins1 (d := d - 1) (by omega) I J b) moX10_begins1 mlX10_258 miX10_begins1 msX10_begins1 dX10_turns_53 rfl rfl rfl rfl rfl (by omega) rfl rfl (kv (fun I_53_10 q_53_10 => ?_))
            have hT := th_bg (I := I) hN FrM.rf q_53_10
            refine r_aload_n C dX10_turns_56 rfl ?_
            refine r_iconst C (v := 1) dX10_turns_57 (by decide) ?_
            refine r_putI C flX10_237 dX10_turns_58 rfl rfl rfl rfl rfl ?_
            refine r_iconst C (v := 0) dX10_turns_61 (by decide) ?_
            refine r_istore C dX10_turns_62 rfl rfl ?_
            exact loop (ix n) 0 _ rfl hin (by rw [if_pos rfl]; exact hT.fr)
          · refine r_iconst C (v := -1) dX10_turns_50 (by decide) ?_
            exact ri C Z dX10_turns_51 (show (_ ∨ _) from Or.inl ⟨fun z => absurd z.2.2.2.2 (by assumption), rfl, rfl⟩)
