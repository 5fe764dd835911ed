theorem sec_add {e : EV} {pt fr hc : Nat → Bool} (v : GV) (k : Nat) : (secF e pt fr hc v).2.2.2.2.1 k = v.2.2.2.2.1 k + (secF e pt fr hc (bgF v)).2.2.2.2.1 k ∧ (secF e pt fr hc v).2.2.2.2.2.1 k = v.2.2.2.2.2.1 k + (secF e pt fr hc (bgF v)).2.2.2.2.2.1 k ∧ (secF e pt fr hc v).2.2.2.2.2.2 k = v.2.2.2.2.2.2 k + (secF e pt fr hc (bgF v)).2.2.2.2.2.2 k := by
  have hw : wVF e pt fr hc (bgF v) = wVF e pt fr hc v := rfl
  have hp : pdF e pt fr (bgF v) = pdF e pt fr v := rfl
  refine ⟨?_, ?_, ?_⟩
  · show (if k < e.1 then _ else _) = _ + (if k < e.1 then _ else _)
    by_cases c : k < e.1
    · rw [if_pos c, if_pos c, hw]
      show _ = _ + (0 + _)
      rw [Int32.zero_add]
      rfl
    · rw [if_neg c, if_neg c]
      exact (Int32.add_zero _).symm
  · show (if k < e.1 then _ else _) = _ + (if k < e.1 then _ else _)
    by_cases c : k < e.1
    · rw [if_pos c, if_pos c, hw]
      show _ = _ + (0 + _)
      rw [Int32.zero_add]
      rfl
    · rw [if_neg c, if_neg c]
      exact (Int32.add_zero _).symm
  · show (if k < e.1 ∧ pdF e pt fr v k = true ∧ hc k = false ∧ (v.1 - e.2.1 (8 * k + 2)).toInt ≤ 0 then _ else _) = _ + (if k < e.1 ∧ pdF e pt fr (bgF v) k = true ∧ hc k = false ∧ (v.1 - e.2.1 (8 * k + 2)).toInt ≤ 0 then _ else _)
    rw [hp]
    by_cases c : k < e.1 ∧ pdF e pt fr v k = true ∧ hc k = false ∧ (v.1 - e.2.1 (8 * k + 2)).toInt ≤ 0
    · rw [if_pos c, if_pos c]
      show _ = _ + (0 + 1)
      rw [Int32.zero_add]
    · rw [if_neg c, if_neg c]
      exact (Int32.add_zero _).symm
theorem sec_out {e : EV} {pt fr hc : Nat → Bool} (v : GV) {k : Nat} (hk : ¬ k < e.1) : (secF e pt fr hc v).2.2.2.1 k = v.2.2.2.1 k ∧ (secF e pt fr hc v).2.2.2.2.1 k = v.2.2.2.2.1 k ∧ (secF e pt fr hc v).2.2.2.2.2.1 k = v.2.2.2.2.2.1 k ∧ (secF e pt fr hc v).2.2.2.2.2.2 k = v.2.2.2.2.2.2 k := ⟨if_neg (fun z => hk z.1), if_neg hk, if_neg hk, if_neg (fun z => hk z.1)⟩
set_option maxRecDepth 100000 in
set_option maxHeartbeats 400000 in
theorem sX10_second {g : Gb} {d : Nat} (hd : 84 ≤ d) (I : Is) (J : Js) (b : Bool) (hN : NM I) (hv : VOk (gvT I)) : MC9 g d mX10_second [.ref 64] I J b (Qi J b (fun v I' => (I 64 9 = 999 ∧ v = -5 ∧ I' = I) ∨ (¬ I 64 9 = 999 ∧ (EqV (gvT I') (secF (enM I) (bit 7) (bit 0) (bit 0) (gvT I)) ∧ I' 64 38 = I 64 38 + 1 ∧ v = I' 64 7 ∧ FrM (69 :: 81 :: 82 :: 83 :: RTM) (7 :: 8 :: 9 :: 38 :: FTM) I I')))) := by
  have hvb : VOk (bgF (gvT I)) := hv
  have hs0 := hN.1.1
  have hs3 := hN.1.2.1
  obtain ⟨s, hs⟩ : ∃ s : Nat, (I 64 6).toInt = (s : Int) := ⟨(I 64 6).toInt.toNat, by omega⟩
  have he1 : (enM I).1 = s := by show ix (I 64 6) = s; have := ix_nn hs0; omega
  obtain ⟨V, hV⟩ : ∃ V, V = (secF (enM I) (bit 7) (bit 0) (bit 0) (bgF (gvT I))) := ⟨_, rfl⟩
  refine ent9 (own := RX10) rfl rfl rfl (fun X hg hx C Z => ?_)
  subst hg
  have loop : ∀ (m k : Nat) (I2 I' : Is), ¬ I 64 9 = 999 → m + k = s → TH I I2 (bit 7) (bit 0) (bit 0) V → FrM [69, 81, 82, 83] [7, 8, 9] I2 I' → I' 64 7 = V.1 → I' 64 8 = V.2.1 → I' 64 9 = V.2.2.1 → (∀ j, I' 69 j = if j < k then V.2.2.2.1 j else I 69 j) → (∀ j, I' 81 j = if j < k then I 81 j + V.2.2.2.2.1 j else I 81 j) → (∀ j, I' 82 j = if j < k then I 82 j + V.2.2.2.2.2.1 j else I 82 j) → (∀ j, I' 83 j = if j < k then I 83 j + V.2.2.2.2.2.2 j else I 83 j) → Aw X 47 [some (.ref 64), some (.int (nI k))] [] (st9 I' J b) := by
    intro m
    induction m with
    | zero =>
      intro k I2 I' hp hm hT hF e7 e8 e9 r69 r81 r82 r83
      have ink : (nI k).toInt = (k : Int) := nIint (by omega)
      have e6 : (I' 64 6).toInt = (s : Int) := by rw [hF.2 6 (by decide), hT.1.2 6 (by decide)]; exact hs
      rw [show k = s by omega] at r69 r81 r82 r83
      have e38 : I' 64 38 = I 64 38 := by rw [hF.2 38 (by decide), hT.1.2 38 (by decide)]
      have hFI : FrM (69 :: 81 :: 82 :: 83 :: RTM) (7 :: 8 :: 9 :: FTM) I I' := hT.1.tr hF (by decide) (by decide) (by decide) (by decide)
      have hq : EqV (gvT I') (secF (enM I) (bit 7) (bit 0) (bit 0) (gvT I)) := by
        refine ⟨e7.trans (by rw [hV]; rfl), e8.trans (by rw [hV]; rfl), e9.trans (by rw [hV]; rfl), fun j hj => ?_, fun j hj => ?_, fun j hj => ?_, fun j hj => ?_⟩
        · refine (r69 j).trans ?_
          by_cases c : j < s
          · rw [if_pos c, hV]; rfl
          · rw [if_neg c]; exact (sec_out (gvT I) (by rw [he1]; exact c)).1.symm
        · refine (r81 j).trans ?_
          by_cases c : j < s
          · rw [if_pos c, hV]; exact (sec_add (gvT I) j).1.symm
          · rw [if_neg c]; exact (sec_out (gvT I) (by rw [he1]; exact c)).2.1.symm
        · refine (r82 j).trans ?_
          by_cases c : j < s
          · rw [if_pos c, hV]; exact (sec_add (gvT I) j).2.1.symm
          · rw [if_neg c]; exact (sec_out (gvT I) (by rw [he1]; exact c)).2.2.1.symm
        · refine (r83 j).trans ?_
          by_cases c : j < s
          · rw [if_pos c, hV]; exact (sec_add (gvT I) j).2.2.symm
          · rw [if_neg c]; exact (sec_out (gvT I) (by rw [he1]; exact c)).2.2.2.symm
      refine r_iload_n C dX10_second_47 rfl ?_
      refine r_aload_n C dX10_second_48 rfl ?_
      refine r_getI C flX10_102 dX10_second_49 rfl rfl ?_
      refine b_icge C (tgt := 123) rfl rfl dX10_second_52 rfl (fun h52_1 => ?_) (fun h52_1 => ?_)
      · refine r_aload_n C dX10_second_123 rfl ?_
        refine r_dup C dX10_second_124 rfl ?_
        refine r_getI C flX10_301 dX10_second_125 rfl rfl ?_
        refine r_iconst C (v := 1) dX10_second_128 (by decide) ?_
        refine r_iadd C dX10_second_129 ?_
        rw [e38]
        refine r_putI C flX10_301 dX10_second_130 rfl rfl rfl rfl rfl ?_
        refine r_aload_n C dX10_second_133 rfl ?_
        refine r_getI C flX10_93 dX10_second_134 rfl rfl ?_
        exact ri C Z dX10_second_137 (show (_ ∨ _) from Or.inr ⟨hp, hq, u2_same .., rfl, (hFI.mo (by decide) (by decide)).sf (by decide)⟩)
      · exfalso; omega
    | succ m ih =>
      intro k I2 I' hp hm hT hF e7 e8 e9 r69 r81 r82 r83
      have ink : (nI k).toInt = (k : Int) := nIint (by omega)
      have kx : ix (nI k) = k := nIix (by omega)
      have hk3 : k < 3 := by omega
      have e6 : (I' 64 6).toInt = (s : Int) := by rw [hF.2 6 (by decide), hT.1.2 6 (by decide)]; exact hs
      have g73 : I' 73 k = V.2.2.2.1 k := by rw [hF.1 73 (by decide) (by decide)]; exact hT.2.1.2.2.2.1 k hk3
      have g74 : I' 74 k = V.2.2.2.2.1 k := by rw [hF.1 74 (by decide) (by decide)]; exact hT.2.1.2.2.2.2.1 k hk3
      have g75 : I' 75 k = V.2.2.2.2.2.2 k := by rw [hF.1 75 (by decide) (by decide)]; exact hT.2.1.2.2.2.2.2.2 k hk3
      have h65 : I' 65 = I2 65 := hF.1 65 (by decide) (by decide)
      have gsw : V.2.2.2.2.1 k * swF (I' 65) k = V.2.2.2.2.2.1 k := by
        rw [h65, ← hT.2.1.2.2.2.2.1 k hk3]; exact hT.2.1.2.2.2.2.2.1 k hk3
      have a81 : I' 81 k = I 81 k := by rw [r81 k, if_neg (Nat.lt_irrefl k)]
      have a82 : I' 82 k = I 82 k := by rw [r82 k, if_neg (Nat.lt_irrefl k)]
      have a83 : I' 83 k = I 83 k := by rw [r83 k, if_neg (Nat.lt_irrefl k)]
      obtain ⟨Ia, hIa⟩ : ∃ z, z = u2 I' 69 k (V.2.2.2.1 k) := ⟨_, rfl⟩
      obtain ⟨Ib, hIb⟩ : ∃ z, z = u2 Ia 81 k (I 81 k + V.2.2.2.2.1 k) := ⟨_, rfl⟩
      obtain ⟨Ic, hIc⟩ : ∃ z, z = u2 Ib 82 k (I 82 k + V.2.2.2.2.2.1 k) := ⟨_, rfl⟩
      have na : ∀ c, c ≠ 69 → Ia c = I' c := fun c hc => by rw [hIa]; exact u2_row hc
      have nb : ∀ c, c ≠ 81 → Ib c = Ia c := fun c hc => by rw [hIb]; exact u2_row hc
      have nc : ∀ c, c ≠ 82 → Ic c = Ib c := fun c hc => by rw [hIc]; exact u2_row hc
      have stp : ∀ (r r' : Nat → Int32) (f f' : Nat → Int32), r' k = f k → (∀ j, j ≠ k → r' j = r j) → (∀ j, r j = if j < k then f j else f' j) → ∀ j, r' j = if j < k + 1 then f j else f' j := by
        intro r r' f f' h1 h2 h3 j
        by_cases e : j = k
        · rw [e, if_pos (Nat.lt_succ_self k)]; exact h1
        · rw [h2 j e, h3 j]
          by_cases c : j < k
          · rw [if_pos c, if_pos (by omega)]
          · rw [if_neg c, if_neg (by omega)]
      refine r_iload_n C dX10_second_47 rfl ?_
      refine r_aload_n C dX10_second_48 rfl ?_
      refine r_getI C flX10_102 dX10_second_49 rfl rfl ?_
      refine b_icge C (tgt := 123) rfl rfl dX10_second_52 rfl (fun h52_1 => ?_) (fun h52_1 => ?_)
      · exfalso; omega
      · refine r_aload_n C dX10_second_55 rfl ?_
        refine r_getR C flX10_22 dX10_second_56 rfl rfl rfl ?_
        refine r_iload_n C dX10_second_59 rfl ?_
        refine r_aload_n C dX10_second_60 rfl ?_
        refine r_getR C flX10_34 dX10_second_61 rfl rfl rfl ?_
        refine r_iload_n C dX10_second_64 rfl ?_
        refine r_iald C rfl dX10_second_65 (vin (by omega) (show (nI k).toInt < 3 by omega)) ?_
        rw [kx, g73]
        refine r_iast C rfl dX10_second_66 (vin (by omega) (show (nI k).toInt < 3 by omega)) ?_
        rw [kx, ← hIa]
        refine r_aload_n C dX10_second_67 rfl ?_
        refine r_getR C flX10_58 dX10_second_68 rfl rfl rfl ?_
        refine r_iload_n C dX10_second_71 rfl ?_
        refine r_dup2 C dX10_second_72 rfl rfl ?_
        refine r_iald C rfl dX10_second_73 (vin (by omega) (show (nI k).toInt < 3 by omega)) ?_
        rw [kx, na 81 (by decide), a81]
        refine r_aload_n C dX10_second_74 rfl ?_
        refine r_getR C flX10_37 dX10_second_75 rfl rfl rfl ?_
        refine r_iload_n C dX10_second_78 rfl ?_
        refine r_iald C rfl dX10_second_79 (vin (by omega) (show (nI k).toInt < 3 by omega)) ?_
        rw [kx, na 74 (by decide), g74]
        refine r_iadd C dX10_second_80 ?_
        refine r_iast C rfl dX10_second_81 (vin (by omega) (show (nI k).toInt < 3 by omega)) ?_
        rw [kx, ← hIb]
        refine r_aload_n C dX10_second_82 rfl ?_
        refine r_getR C flX10_61 dX10_second_83 rfl rfl rfl ?_
        refine r_iload_n C dX10_second_86 rfl ?_
        refine r_dup2 C dX10_second_87 rfl rfl ?_
        refine r_iald C rfl dX10_second_88 (vin (by omega) (show (nI k).toInt < 3 by omega)) ?_
        rw [kx, nb 82 (by decide), na 82 (by decide), a82]
        refine r_aload_n C dX10_second_89 rfl ?_
        refine r_iload_n C dX10_second_90 rfl ?_
        refine r_aload_n C dX10_second_91 rfl ?_
        refine r_getR C flX10_37 dX10_second_92 rfl rfl rfl ?_
        refine r_iload_n C dX10_second_95 rfl ?_
        refine r_iald C rfl dX10_second_96 (vin (by omega) (show (nI k).toInt < 3 by omega)) ?_
        rw [kx, nb 74 (by decide), na 74 (by decide), g74]
        refine cV (ci := 10) C hx (sX10_sweetOf (d := d - 1) (by omega) k hk3 _ Ib J b) moX10_sweetOf mlX10_265 miX10_sweetOf msX10_sweetOf dX10_second_97 rfl rfl rfl rfl rfl (by omega) rfl rfl (kp ?_)
        rw [nb 65 (by decide), na 65 (by decide), gsw]
        refine r_iadd C dX10_second_100 ?_
        refine r_iast C rfl dX10_second_101 (vin (by omega) (show (nI k).toInt < 3 by omega)) ?_
        rw [kx, ← hIc]
        refine r_aload_n C dX10_second_102 rfl ?_
        refine r_getR C flX10_64 dX10_second_103 rfl rfl rfl ?_
        refine r_iload_n C dX10_second_106 rfl ?_
        refine r_dup2 C dX10_second_107 rfl rfl ?_
        refine r_iald C rfl dX10_second_108 (vin (by omega) (show (nI k).toInt < 3 by omega)) ?_
        rw [kx, nc 83 (by decide), nb 83 (by decide), na 83 (by decide), a83]
        refine r_aload_n C dX10_second_109 rfl ?_
        refine r_getR C flX10_40 dX10_second_110 rfl rfl rfl ?_
        refine r_iload_n C dX10_second_113 rfl ?_
        refine r_iald C rfl dX10_second_114 (vin (by omega) (show (nI k).toInt < 3 by omega)) ?_
        rw [kx, nc 75 (by decide), nb 75 (by decide), na 75 (by decide), g75]
        refine r_iadd C dX10_second_115 ?_
        refine r_iast C rfl dX10_second_116 (vin (by omega) (show (nI k).toInt < 3 by omega)) ?_
        rw [kx]
        refine r_iinc C (v := 1) dX10_second_117 rfl (by decide) rfl ?_
        refine r_goto C (tgt := 47) dX10_second_120 rfl ?_
        rw [nI_s]
        refine ih (k + 1) I2 _ hp (by omega) hT (?_) ?_ ?_ ?_ ?_ ?_ ?_ ?_
        · rw [hIc, hIb, hIa]
          exact (((hF.st (by decide) (by decide)).st (by decide) (by decide)).st (by decide) (by decide)).st (by decide) (by decide)
        · rw [u2_row (t := 83) (t' := 64) (by decide), nc 64 (by decide), nb 64 (by decide), na 64 (by decide)]; exact e7
        · rw [u2_row (t := 83) (t' := 64) (by decide), nc 64 (by decide), nb 64 (by decide), na 64 (by decide)]; exact e8
        · rw [u2_row (t := 83) (t' := 64) (by decide), nc 64 (by decide), nb 64 (by decide), na 64 (by decide)]; exact e9
        · rw [u2_row (t := 83) (t' := 69) (by decide), nc 69 (by decide), nb 69 (by decide), hIa]
          exact stp (I' 69) _ _ _ (u2_same ..) (fun j hj => u2_ne _ _ _ _ (Or.inr hj)) r69
        · rw [u2_row (t := 83) (t' := 81) (by decide), nc 81 (by decide), hIb]
          refine stp (I' 81) _ (fun j => I 81 j + V.2.2.2.2.1 j) _ (u2_same ..) (fun j hj => ?_) r81
          rw [u2_ne _ _ _ _ (Or.inr hj), na 81 (by decide)]
        · rw [u2_row (t := 83) (t' := 82) (by decide), hIc]
          refine stp (I' 82) _ (fun j => I 82 j + V.2.2.2.2.2.1 j) _ (u2_same ..) (fun j hj => ?_) r82
          rw [u2_ne _ _ _ _ (Or.inr hj), nb 82 (by decide), na 82 (by decide)]
        · refine stp (I' 83) _ (fun j => I 83 j + V.2.2.2.2.2.2 j) _ (u2_same ..) (fun j hj => ?_) r83
          rw [u2_ne _ _ _ _ (Or.inr hj), nc 83 (by decide), nb 83 (by decide), na 83 (by decide)]
  refine r_aload_n C dX10_second_0 rfl ?_
  refine r_getI C flX10_160 dX10_second_1 rfl rfl ?_
  refine r_sipush C (v := 999) dX10_second_4 (by decide) ?_
  refine r_icne C (tgt := 13) dX10_second_7 rfl (fun h7_1 => ?_) (fun h7_1 => ?_)
  · have hp : ¬ I 64 9 = 999 := by assumption
    refine r_aload_n C dX10_second_13 rfl ?_
    refine cV (ci := 10) C hx (sX10_begins1 (d := d - 1) (by omega) I J b) moX10_begins1 mlX10_258 miX10_begins1 msX10_begins1 dX10_second_14 rfl rfl rfl rfl rfl (by omega) rfl rfl (kv (fun I_14_2 q_14_2 => ?_))
    have hT := th_bg (I := I) hN FrM.rf q_14_2
    refine r_aload_n C dX10_second_17 rfl ?_
    refine cV (ci := 10) C hx (sX10_secondGoes (d := d - 1) (by omega) _ J b (hT.nm hN) (VOk.eqv hT.2.1 hvb)) moX10_secondGoes mlX10_253 miX10_secondGoes msX10_secondGoes dX10_second_18 rfl rfl rfl rfl rfl (by omega) rfl rfl (kv (fun I_18_3 q_18_3 => ?_))
    have hT2 := th_sec hN hT q_18_3
    rw [← hV] at hT2
    have hFx : FrM [69, 81, 82, 83] [7, 8, 9] I_18_3 (u2 (u2 (u2 I_18_3 64 7 (I_18_3 64 21)) 64 8 (I_18_3 64 22)) 64 9 (I_18_3 64 23)) := ((FrM.rf.sf (by decide)).sf (by decide)).sf (by decide)
    refine r_aload_n C dX10_second_21 rfl ?_
    refine r_aload_n C dX10_second_22 rfl ?_
    refine r_getI C flX10_225 dX10_second_23 rfl rfl ?_
    refine r_putI C flX10_93 dX10_second_26 rfl rfl rfl rfl rfl ?_
    refine r_aload_n C dX10_second_29 rfl ?_
    refine r_aload_n C dX10_second_30 rfl ?_
    refine r_getI C flX10_228 dX10_second_31 rfl rfl ?_
    refine r_putI C flX10_157 dX10_second_34 rfl rfl rfl rfl rfl ?_
    refine r_aload_n C dX10_second_37 rfl ?_
    refine r_aload_n C dX10_second_38 rfl ?_
    refine r_getI C flX10_231 dX10_second_39 rfl rfl ?_
    refine r_putI C flX10_160 dX10_second_42 rfl rfl rfl rfl rfl ?_
    refine r_iconst C (v := 0) dX10_second_45 (by decide) ?_
    refine r_istore_n C dX10_second_46 rfl rfl ?_
    exact loop s 0 _ _ hp rfl hT2 hFx hT2.2.1.1 hT2.2.1.2.1 hT2.2.1.2.2.1 (fun j => by rw [if_neg (Nat.not_lt_zero j)]; exact congrFun (hT2.1.1 69 (by decide) (by decide)) j) (fun j => by rw [if_neg (Nat.not_lt_zero j)]; exact congrFun (hT2.1.1 81 (by decide) (by decide)) j) (fun j => by rw [if_neg (Nat.not_lt_zero j)]; exact congrFun (hT2.1.1 82 (by decide) (by decide)) j) (fun j => by rw [if_neg (Nat.not_lt_zero j)]; exact congrFun (hT2.1.1 83 (by decide) (by decide)) j)
  · refine r_bipush C (v := -5) dX10_second_10 (by decide) ?_
    exact ri C Z dX10_second_12 (show (_ ∨ _) from Or.inl ⟨by assumption, rfl, rfl⟩)
