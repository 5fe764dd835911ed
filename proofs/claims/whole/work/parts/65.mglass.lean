abbrev inM (I : Is) (k : Int32) : Prop := 0 ≤ k.toInt ∧ k.toInt < (I 64 6).toInt
theorem ix_of0 {n : Int32} (h : 0 ≤ n.toInt) : n.toInt = ((ix n : Nat) : Int) := (ix_nn h).symm
set_option maxRecDepth 100000 in
set_option maxHeartbeats 400000 in
theorem sX10_glass {g : Gb} {d : Nat} (hd : 84 ≤ d) (n k w : Int32) (I : Is) (J : Js) (b : Bool) (hN : NM I) (hv : VOk (gvT I)) : MC9 g d mX10_glass [.ref 64, .int n, .int k, .int w] I J b (Qi J b (fun v I' => (¬ (inR n 999 ∧ inM I k ∧ inR w 2) ∧ v = -1 ∧ I' = I) ∨ ((inR n 999 ∧ inM I k ∧ inR w 2) ∧ v = (if w = 0 then (goF (enM I) (bit 7) (bit 0) (bit 0) (ix n) (bgF (gvT I))).2.2.2.2.1 (ix k) else if w = 1 then (goF (enM I) (bit 7) (bit 0) (bit 0) (ix n) (bgF (gvT I))).2.2.2.2.2.1 (ix k) else (goF (enM I) (bit 7) (bit 0) (bit 0) (ix n) (bgF (gvT I))).2.2.2.2.2.2 (ix k)) ∧ FrM RTM FTM I I'))) := by
  have hvb : VOk (bgF (gvT I)) := hv
  have hs0 := hN.1.1
  have hs3 := hN.1.2.1
  refine ent9 (own := RX10) rfl rfl rfl (fun X hg hx C Z => ?_)
  subst hg
  refine r_iload_n C dX10_glass_0 rfl ?_
  refine r_i2l C dX10_glass_1 ?_
  refine r_lconst C (v := 0) dX10_glass_2 (by decide) ?_
  refine r_ldc2 C kkX10_113 dX10_glass_3 ?_
  refine cS C hx (sWi (d := d - 1) _ (lo := 0) (hi := 999) rfl rfl I J b) moX10_within mlX10_105 mtX10_within dX10_glass_6 rfl rfl (by omega) rfl rfl (kp ?_)
  refine z_ifeq C (tgt := 32) dX10_glass_9 rfl (fun h9_2 => ?_) (fun h9_2 => ?_)
  · refine r_iconst C (v := -1) dX10_glass_32 (by decide) ?_
    exact ri C Z dX10_glass_33 (Or.inl ⟨fun z => absurd z.1 (by assumption), rfl, rfl⟩)
  · refine r_aload_n C dX10_glass_12 rfl ?_
    refine r_iload_n C dX10_glass_13 rfl ?_
    refine cV (ci := 10) C hx (sX10_isStraw (d := d - 1) (by omega) _ I J b hs0 hs3) moX10_isStraw mlX10_130 miX10_isStraw msX10_isStraw dX10_glass_14 rfl rfl rfl rfl rfl (by omega) rfl rfl (kp ?_)
    refine z_ifeq C (tgt := 32) dX10_glass_17 rfl (fun h17_4 => ?_) (fun h17_4 => ?_)
    · refine r_iconst C (v := -1) dX10_glass_32 (by decide) ?_
      exact ri C Z dX10_glass_33 (Or.inl ⟨fun z => absurd z.2.1 (by assumption), rfl, rfl⟩)
    · refine r_iload_n C dX10_glass_20 rfl ?_
      refine r_i2l C dX10_glass_21 ?_
      refine r_lconst C (v := 0) dX10_glass_22 (by decide) ?_
      refine r_ldc2 C kkX10_256 dX10_glass_23 ?_
      refine cS C hx (sWi (d := d - 1) _ (lo := 0) (hi := 2) rfl rfl I J b) moX10_within mlX10_105 mtX10_within dX10_glass_26 rfl rfl (by omega) rfl rfl (kp ?_)
      refine z_ifne C (tgt := 34) dX10_glass_29 rfl (fun h29_6 => ?_) (fun h29_6 => ?_)
      · have hin : (inR n 999 ∧ inM I k ∧ inR w 2) := ⟨by assumption, by assumption, by assumption⟩
        obtain ⟨j, hj, rfl⟩ := nI_get hin.2.1.1 hin.2.1.2 (by omega)
        have hj3 : j < 3 := by omega
        have hjx : ix (nI j) = j := nIix (by omega)
        have hji : (nI j).toInt = (j : Int) := nIint (by omega)
        rw [hjx] at Z
        refine r_aload_n C dX10_glass_34 rfl ?_
        refine cV (ci := 10) C hx (sX10_begins1 (d := d - 1) (by omega) I J b) moX10_begins1 mlX10_258 miX10_begins1 msX10_begins1 dX10_glass_35 rfl rfl rfl rfl rfl (by omega) rfl rfl (kv (fun I_35_7 q_35_7 => ?_))
        have hT := th_bg (I := I) hN FrM.rf q_35_7
        refine r_aload_n C dX10_glass_38 rfl ?_
        refine r_iload_n C dX10_glass_39 rfl ?_
        refine cV (ci := 10) C hx (sX10_goes (d := d - 1) (by omega) (ix n) n (ix_of0 hin.1.1) I _ J b hN (hvb) hT) moX10_goes mlX10_261 miX10_goes msX10_goes dX10_glass_40 rfl rfl rfl rfl rfl (by omega) rfl rfl (kv (fun I_40_8 q_40_8 => ?_))
        have hT2 := q_40_8
        refine r_iload_n C dX10_glass_43 rfl ?_
        refine r_ifne C (tgt := 56) dX10_glass_44 rfl (fun h44_9 => ?_) (fun h44_9 => ?_)
        · refine r_iload_n C dX10_glass_56 rfl ?_
          refine r_iconst C (v := 1) dX10_glass_57 (by decide) ?_
          refine r_icne C (tgt := 75) dX10_glass_58 rfl (fun h58_10 => ?_) (fun h58_10 => ?_)
          · refine r_aload_n C dX10_glass_75 rfl ?_
            refine r_getR C flX10_40 dX10_glass_76 rfl rfl rfl ?_
            refine r_iload_n C dX10_glass_79 rfl ?_
            refine r_iald C rfl dX10_glass_80 (vin (by omega) (show (nI j).toInt < 3 by omega)) ?_
            rw [hjx]
            exact ri C Z dX10_glass_81 (Or.inr ⟨hin, ((hT2.2.1.2.2.2.2.2.2 j hj3).trans ((if_neg (by assumption)).trans (if_neg (by assumption))).symm), hT2.1⟩)
          · refine r_aload_n C dX10_glass_61 rfl ?_
            refine r_iload_n C dX10_glass_62 rfl ?_
            refine r_aload_n C dX10_glass_63 rfl ?_
            refine r_getR C flX10_37 dX10_glass_64 rfl rfl rfl ?_
            refine r_iload_n C dX10_glass_67 rfl ?_
            refine r_iald C rfl dX10_glass_68 (vin (by omega) (show (nI j).toInt < 3 by omega)) ?_
            rw [hjx]
            refine cV (ci := 10) C hx (sX10_sweetOf (d := d - 1) (by omega) j hj3 _ _ J b) moX10_sweetOf mlX10_265 miX10_sweetOf msX10_sweetOf dX10_glass_69 rfl rfl rfl rfl rfl (by omega) rfl rfl (kp ?_)
            refine r_goto C (tgt := 81) dX10_glass_72 rfl ?_
            exact ri C Z dX10_glass_81 (Or.inr ⟨hin, ((hT2.2.1.2.2.2.2.2.1 j hj3).trans ((if_neg (by assumption)).trans (if_pos (by assumption))).symm), hT2.1⟩)
        · refine r_aload_n C dX10_glass_47 rfl ?_
          refine r_getR C flX10_37 dX10_glass_48 rfl rfl rfl ?_
          refine r_iload_n C dX10_glass_51 rfl ?_
          refine r_iald C rfl dX10_glass_52 (vin (by omega) (show (nI j).toInt < 3 by omega)) ?_
          rw [hjx]
          refine r_goto C (tgt := 81) dX10_glass_53 rfl ?_
          exact ri C Z dX10_glass_81 (Or.inr ⟨hin, ((hT2.2.1.2.2.2.2.1 j hj3).trans (if_pos (by assumption)).symm), hT2.1⟩)
      · refine r_iconst C (v := -1) dX10_glass_32 (by decide) ?_
        exact ri C Z dX10_glass_33 (Or.inl ⟨fun z => absurd z.2.2 (by assumption), rfl, rfl⟩)
set_option maxRecDepth 100000 in
set_option maxHeartbeats 400000 in
theorem sX10_level {g : Gb} {d : Nat} (hd : 84 ≤ d) (n w : Int32) (I : Is) (J : Js) (b : Bool) (hN : NM I) (hv : VOk (gvT I)) : MC9 g d mX10_level [.ref 64, .int n, .int w] I J b (Qi J b (fun v I' => (¬ (inR n 999 ∧ inR w 1) ∧ v = -1 ∧ I' = I) ∨ ((inR n 999 ∧ inR w 1) ∧ v = (if w = 0 then (goF (enM I) (bit 7) (bit 0) (bit 0) (ix n) (bgF (gvT I))).1 else (goF (enM I) (bit 7) (bit 0) (bit 0) (ix n) (bgF (gvT I))).2.1) ∧ FrM RTM FTM I I'))) := by
  have hvb : VOk (bgF (gvT I)) := hv
  have hs0 := hN.1.1
  have hs3 := hN.1.2.1
  refine ent9 (own := RX10) rfl rfl rfl (fun X hg hx C Z => ?_)
  subst hg
  refine r_iload_n C dX10_level_0 rfl ?_
  refine r_i2l C dX10_level_1 ?_
  refine r_lconst C (v := 0) dX10_level_2 (by decide) ?_
  refine r_ldc2 C kkX10_113 dX10_level_3 ?_
  refine cS C hx (sWi (d := d - 1) _ (lo := 0) (hi := 999) rfl rfl I J b) moX10_within mlX10_105 mtX10_within dX10_level_6 rfl rfl (by omega) rfl rfl (kp ?_)
  refine z_ifeq C (tgt := 22) dX10_level_9 rfl (fun h9_2 => ?_) (fun h9_2 => ?_)
  · refine r_iconst C (v := -1) dX10_level_22 (by decide) ?_
    exact ri C Z dX10_level_23 (Or.inl ⟨fun z => absurd z.1 (by assumption), rfl, rfl⟩)
  · refine r_iload_n C dX10_level_12 rfl ?_
    refine r_i2l C dX10_level_13 ?_
    refine r_lconst C (v := 0) dX10_level_14 (by decide) ?_
    refine r_lconst C (v := 1) dX10_level_15 (by decide) ?_
    refine cS C hx (sWi (d := d - 1) _ (lo := 0) (hi := 1) rfl rfl I J b) moX10_within mlX10_105 mtX10_within dX10_level_16 rfl rfl (by omega) rfl rfl (kp ?_)
    refine z_ifne C (tgt := 24) dX10_level_19 rfl (fun h19_4 => ?_) (fun h19_4 => ?_)
    · have hin : (inR n 999 ∧ inR w 1) := ⟨by assumption, by assumption⟩
      refine r_aload_n C dX10_level_24 rfl ?_
      refine cV (ci := 10) C hx (sX10_begins1 (d := d - 1) (by omega) I J b) moX10_begins1 mlX10_258 miX10_begins1 msX10_begins1 dX10_level_25 rfl rfl rfl rfl rfl (by omega) rfl rfl (kv (fun I_25_5 q_25_5 => ?_))
      have hT := th_bg (I := I) hN FrM.rf q_25_5
      refine r_aload_n C dX10_level_28 rfl ?_
      refine r_iload_n C dX10_level_29 rfl ?_
      refine cV (ci := 10) C hx (sX10_goes (d := d - 1) (by omega) (ix n) n (ix_of0 hin.1.1) I _ J b hN (hvb) hT) moX10_goes mlX10_261 miX10_goes msX10_goes dX10_level_30 rfl rfl rfl rfl rfl (by omega) rfl rfl (kv (fun I_30_6 q_30_6 => ?_))
      have hT2 := q_30_6
      refine r_iload_n C dX10_level_33 rfl ?_
      refine r_ifne C (tgt := 44) dX10_level_34 rfl (fun h34_7 => ?_) (fun h34_7 => ?_)
      · refine r_aload_n C dX10_level_44 rfl ?_
        refine r_getI C flX10_228 dX10_level_45 rfl rfl ?_
        exact ri C Z dX10_level_48 (Or.inr ⟨hin, (hT2.2.1.2.1.trans (if_neg (by assumption)).symm), hT2.1⟩)
      · refine r_aload_n C dX10_level_37 rfl ?_
        refine r_getI C flX10_225 dX10_level_38 rfl rfl ?_
        refine r_goto C (tgt := 48) dX10_level_41 rfl ?_
        exact ri C Z dX10_level_48 (Or.inr ⟨hin, (hT2.2.1.1.trans (if_pos (by assumption)).symm), hT2.1⟩)
    · refine r_iconst C (v := -1) dX10_level_22 (by decide) ?_
      exact ri C Z dX10_level_23 (Or.inl ⟨fun z => absurd z.2 (by assumption), rfl, rfl⟩)
set_option maxRecDepth 100000 in
set_option maxHeartbeats 400000 in
theorem sX10_gets {g : Gb} {d : Nat} (hd : 84 ≤ d) (j : Nat) (hj : j < 3) (n : Int32) (hn0 : 0 ≤ n.toInt) (I I1 : Is) (J : Js) (b : Bool) (hN : NM I) (hv : VOk (gvT I)) (hF : FrM RTM FTM I I1) : MC9 g d mX10_gets [.ref 64, .int (nI j), .int n] I1 J b (Qi J b (fun v I' => v = (goF (enM I) (bit 7) (bit 0) (bit 0) (ix n) (bgF (gvT I))).2.2.2.2.1 j ∧ v * swF (I 65) j = (goF (enM I) (bit 7) (bit 0) (bit 0) (ix n) (bgF (gvT I))).2.2.2.2.2.1 j ∧ FrM RTM FTM I I')) := by
  have hvb : VOk (bgF (gvT I)) := hv
  refine ent9 (own := RX10) rfl rfl rfl (fun X hg hx C Z => ?_)
  subst hg
  refine r_aload_n C dX10_gets_0 rfl ?_
  refine cV (ci := 10) C hx (sX10_begins1 (d := d - 1) (by omega) I1 J b) moX10_begins1 mlX10_258 miX10_begins1 msX10_begins1 dX10_gets_1 rfl rfl rfl rfl rfl (by omega) rfl rfl (kv (fun I_1_1 q_1_1 => ?_))
  have hT := th_bg (I := I) hN hF q_1_1
  refine r_aload_n C dX10_gets_4 rfl ?_
  refine r_iload_n C dX10_gets_5 rfl ?_
  refine cV (ci := 10) C hx (sX10_goes (d := d - 1) (by omega) (ix n) n (ix_of0 hn0) I _ J b hN (hvb) hT) moX10_goes mlX10_261 miX10_goes msX10_goes dX10_gets_6 rfl rfl rfl rfl rfl (by omega) rfl rfl (kv (fun I_6_2 q_6_2 => ?_))
  have hT2 := q_6_2
  refine r_aload_n C dX10_gets_9 rfl ?_
  refine r_getR C flX10_37 dX10_gets_10 rfl rfl rfl ?_
  refine r_iload_n C dX10_gets_13 rfl ?_
  refine r_iald C rfl dX10_gets_14 (vin (by rw [nIint (by omega)]; omega) (show (nI j).toInt < 3 by rw [nIint (by omega)]; omega)) ?_
  rw [nIix (show j < 1000000 by omega)]
  exact ri C Z dX10_gets_15 ⟨hT2.2.1.2.2.2.2.1 j hj, by rw [← hT2.1.1 65 (by decide) (by decide)]; exact hT2.2.1.2.2.2.2.2.1 j hj, hT2.1⟩
def ovB (e : EV) (v : GV) : Nat → Bool
  | 0 => decide (v.2.1 = 0)
  | n + 1 => ovB e v n && decide ((e.2.1 (8 * n + 7)).toInt ≤ v.2.2.1.toInt ∨ v.1.toInt ≤ (e.2.1 (8 * n + 2)).toInt)
theorem ovB_n {e : EV} {v : GV} (h0 : 0 ≤ v.2.1.toInt) : ∀ n, ovB e v n = true ↔ (v.2.1.toInt ≤ 0 ∧ ∀ k, k < n → v.2.2.1.toInt < (e.2.1 (8 * k + 7)).toInt → v.1.toInt ≤ (e.2.1 (8 * k + 2)).toInt) := by
  intro n
  induction n with
  | zero =>
    unfold ovB
    rw [decide_eq_true_iff]
    constructor
    · intro h
      exact ⟨by rw [h]; decide, fun k hk => absurd hk (Nat.not_lt_zero k)⟩
    · intro h
      exact Int32.toInt_inj.mp (by rw [show (0 : Int32).toInt = 0 from rfl]; have := h.1; omega)
  | succ n ih =>
    unfold ovB
    rw [Bool.and_eq_true, ih, decide_eq_true_iff]
    constructor
    · rintro ⟨⟨h1, h2⟩, h3⟩
      refine ⟨h1, fun k hk hs => ?_⟩
      by_cases c : k < n
      · exact h2 k c hs
      · rw [show k = n by omega] at hs ⊢
        omega
    · rintro ⟨h1, h2⟩
      refine ⟨⟨h1, fun k hk => h2 k (by omega)⟩, ?_⟩
      have := h2 n (Nat.lt_succ_self n)
      omega
theorem bI_and {p : Prop} [Decidable p] : bI p &&& 1 = bI p ∧ bI p &&& 0 = 0 := by
  unfold bI
  by_cases h : p
  · rw [if_pos h]; decide
  · rw [if_neg h]; decide
set_option maxRecDepth 100000 in
set_option maxHeartbeats 400000 in
theorem sX10_isEmpty {g : Gb} {d : Nat} (hd : 1 ≤ d) (I : Is) (J : Js) (b : Bool) (s : Nat) (hs : (I 64 6).toInt = (s : Int)) (hs3 : s ≤ 3) : MC9 g d mX10_isEmpty [.ref 64] I J b (Qp (bI (ovB (enM I) (gvM I) s = true)) I J b) := by
  refine ent9 (own := RX10) rfl rfl rfl (fun X hg hx C Z => ?_)
  subst hg
  have loop : ∀ (m k : Nat), m + k = s → Aw X 15 [some (.ref 64), some (.int (bI (ovB (enM I) (gvM I) k = true))), some (.int (nI k))] [] (st9 I J b) := by
    intro m
    induction m with
    | zero =>
      intro k hm
      have ink : (nI k).toInt = (k : Int) := nIint (by omega)
      refine r_iload_n C dX10_isEmpty_15 rfl ?_
      refine r_aload_n C dX10_isEmpty_16 rfl ?_
      refine r_getI C flX10_102 dX10_isEmpty_17 rfl rfl ?_
      refine b_icge C (tgt := 64) rfl rfl dX10_isEmpty_20 rfl (fun h20_1 => ?_) (fun h20_1 => ?_)
      · refine r_iload_n C dX10_isEmpty_64 rfl ?_
        exact rpz C Z dX10_isEmpty_65 bI_nar (by rw [show k = s by omega])
      · exfalso; omega
    | succ m ih =>
      intro k hm
      have ink : (nI k).toInt = (k : Int) := nIint (by omega)
      have hB : ovB (enM I) (gvM I) (k + 1) = (ovB (enM I) (gvM I) k && decide ((I 65 (8 * k + 7)).toInt ≤ (I 64 23).toInt ∨ (I 64 21).toInt ≤ (I 65 (8 * k + 2)).toInt)) := rfl
      refine r_iload_n C dX10_isEmpty_15 rfl ?_
      refine r_aload_n C dX10_isEmpty_16 rfl ?_
      refine r_getI C flX10_102 dX10_isEmpty_17 rfl rfl ?_
      refine b_icge C (tgt := 64) rfl rfl dX10_isEmpty_20 rfl (fun h20_1 => ?_) (fun h20_1 => ?_)
      · exfalso; omega
      · refine r_iload_n C dX10_isEmpty_23 rfl ?_
        refine r_aload_n C dX10_isEmpty_24 rfl ?_
        refine r_getI C flX10_231 dX10_isEmpty_25 rfl rfl ?_
        refine r_aload_n C dX10_isEmpty_28 rfl ?_
        refine r_iload_n C dX10_isEmpty_29 rfl ?_
        refine r_bipush C (v := 7) dX10_isEmpty_30 (by decide) ?_
        refine cV (ci := 10) C hx (sX10_ofStraw (d := d - 1) k 7 (by omega) (by decide) I J b) moX10_ofStraw mlX10_218 miX10_ofStraw msX10_ofStraw dX10_isEmpty_32 rfl rfl rfl rfl rfl (by omega) rfl rfl (kp ?_)
        refine b_icge C (tgt := 51) rfl rfl dX10_isEmpty_35 rfl (fun h35_3 => ?_) (fun h35_3 => ?_)
        · refine r_iconst C (v := 1) dX10_isEmpty_51 (by decide) ?_
          refine r_goto C (tgt := 56) dX10_isEmpty_52 rfl ?_
          refine r_iand C dX10_isEmpty_56 ?_
          refine r_istore_n C dX10_isEmpty_57 rfl rfl ?_
          refine r_iinc C (v := 1) dX10_isEmpty_58 rfl (by decide) rfl ?_
          refine r_goto C (tgt := 15) dX10_isEmpty_61 rfl ?_
          rw [nI_s, bI_and.1]
          have h2 := ih (k + 1) (by omega)
          rw [hB, decide_eq_true (by omega), Bool.and_true] at h2
          exact h2
        · refine r_aload_n C dX10_isEmpty_38 rfl ?_
          refine r_getI C flX10_225 dX10_isEmpty_39 rfl rfl ?_
          refine r_aload_n C dX10_isEmpty_42 rfl ?_
          refine r_iload_n C dX10_isEmpty_43 rfl ?_
          refine r_iconst C (v := 2) dX10_isEmpty_44 (by decide) ?_
          refine cV (ci := 10) C hx (sX10_ofStraw (d := d - 1) k 2 (by omega) (by decide) I J b) moX10_ofStraw mlX10_218 miX10_ofStraw msX10_ofStraw dX10_isEmpty_45 rfl rfl rfl rfl rfl (by omega) rfl rfl (kp ?_)
          refine b_icgt C (tgt := 55) rfl rfl dX10_isEmpty_48 rfl (fun h48_5 => ?_) (fun h48_5 => ?_)
          · refine r_iconst C (v := 0) dX10_isEmpty_55 (by decide) ?_
            refine r_iand C dX10_isEmpty_56 ?_
            refine r_istore_n C dX10_isEmpty_57 rfl rfl ?_
            refine r_iinc C (v := 1) dX10_isEmpty_58 rfl (by decide) rfl ?_
            refine r_goto C (tgt := 15) dX10_isEmpty_61 rfl ?_
            rw [nI_s, bI_and.2]
            have h2 := ih (k + 1) (by omega)
            rw [hB, decide_eq_false (by omega), Bool.and_false, bI_f (p := (false = true)) Bool.false_ne_true] at h2
            exact h2
          · refine r_iconst C (v := 1) dX10_isEmpty_51 (by decide) ?_
            refine r_goto C (tgt := 56) dX10_isEmpty_52 rfl ?_
            refine r_iand C dX10_isEmpty_56 ?_
            refine r_istore_n C dX10_isEmpty_57 rfl rfl ?_
            refine r_iinc C (v := 1) dX10_isEmpty_58 rfl (by decide) rfl ?_
            refine r_goto C (tgt := 15) dX10_isEmpty_61 rfl ?_
            rw [nI_s, bI_and.1]
            have h2 := ih (k + 1) (by omega)
            rw [hB, decide_eq_true (by omega), Bool.and_true] at h2
            exact h2
  refine r_aload_n C dX10_isEmpty_0 rfl ?_
  refine r_getI C flX10_228 dX10_isEmpty_1 rfl rfl ?_
  refine r_ifne C (tgt := 11) dX10_isEmpty_4 rfl (fun h4_1 => ?_) (fun h4_1 => ?_)
  · refine r_iconst C (v := 0) dX10_isEmpty_11 (by decide) ?_
    refine r_istore_n C dX10_isEmpty_12 rfl rfl ?_
    refine r_iconst C (v := 0) dX10_isEmpty_13 (by decide) ?_
    refine r_istore_n C dX10_isEmpty_14 rfl rfl ?_
    have h0 := loop s 0 rfl
    rw [show bI (ovB (enM I) (gvM I) 0 = true) = 0 from bI_f (p := (decide (I 64 22 = 0) = true)) (by simpa using (show ¬ I 64 22 = 0 by assumption))] at h0
    exact h0
  · refine r_iconst C (v := 1) dX10_isEmpty_7 (by decide) ?_
    refine r_goto C (tgt := 12) dX10_isEmpty_8 rfl ?_
    refine r_istore_n C dX10_isEmpty_12 rfl rfl ?_
    refine r_iconst C (v := 0) dX10_isEmpty_13 (by decide) ?_
    refine r_istore_n C dX10_isEmpty_14 rfl rfl ?_
    have h0 := loop s 0 rfl
    rw [show bI (ovB (enM I) (gvM I) 0 = true) = 1 from bI_t (p := (decide (I 64 22 = 0) = true)) (by simpa using (show I 64 22 = 0 by assumption))] at h0
    exact h0
theorem ovB_eqv {e : EV} {v w : GV} (h : EqV v w) (n : Nat) : ovB e v n = ovB e w n := by
  induction n with
  | zero => unfold ovB; rw [h.2.1]
  | succ n ih => unfold ovB; rw [ih, h.1, h.2.2.1]
set_option maxRecDepth 100000 in
set_option maxHeartbeats 400000 in
theorem sX10_empty {g : Gb} {d : Nat} (hd : 83 ≤ d) (I : Is) (J : Js) (b : Bool) (hN : NM I) (hv : VOk (gvT I)) : MC9 g d mX10_empty [.ref 64] I J b (Qi J b (fun v I' => ((∃ i : Nat, i ≤ 999 ∧ v = nI i ∧ ovF (enM I) (goF (enM I) (bit 7) (bit 0) (bit 0) i (bgF (gvT I))) ∧ ∀ k, k < i → ¬ ovF (enM I) (goF (enM I) (bit 7) (bit 0) (bit 0) k (bgF (gvT I)))) ∨ (v = -2 ∧ ∀ k, k ≤ 999 → ¬ ovF (enM I) (goF (enM I) (bit 7) (bit 0) (bit 0) k (bgF (gvT I))))) ∧ FrM RTM FTM I I')) := by
  have hEO := enM_ok hN
  have hvb : VOk (bgF (gvT I)) := hv
  have hsN : (I 64 6).toInt = ((ix (I 64 6) : Nat) : Int) := (ix_nn hN.1.1).symm
  have hs3 := hN.1.2.1
  have ovI : ∀ (I' : Is) (k : Nat), TH I I' (bit 7) (bit 0) (bit 0) (goF (enM I) (bit 7) (bit 0) (bit 0) k (bgF (gvT I))) → (ovB (enM I') (gvM I') (ix (I 64 6)) = true ↔ ovF (enM I) (goF (enM I) (bit 7) (bit 0) (bit 0) k (bgF (gvT I)))) := by
    intro I' k hT
    rw [hT.en, ovB_eqv hT.2.1]
    exact ovB_n (go_ok hEO hvb k).2.1 _
  refine ent9 (own := RX10) rfl rfl rfl (fun X hg hx C Z => ?_)
  subst hg
  have loop : ∀ (m k : Nat) (I' : Is), m + k = 1000 → TH I I' (bit 7) (bit 0) (bit 0) (goF (enM I) (bit 7) (bit 0) (bit 0) k (bgF (gvT I))) → (∀ i, i < k → ¬ ovF (enM I) (goF (enM I) (bit 7) (bit 0) (bit 0) i (bgF (gvT I)))) → Aw X 6 [some (.ref 64), some (.int (nI k))] [] (st9 I' J b) := by
    intro m
    induction m with
    | zero =>
      intro k I' hm hT hno
      have ink : (nI k).toInt = (k : Int) := nIint (by omega)
      refine r_iload_n C dX10_empty_6 rfl ?_
      refine r_sipush C (v := 999) dX10_empty_7 (by decide) ?_
      refine b_icgt C (tgt := 32) (my := 999) rfl rfl dX10_empty_10 rfl (fun h10_1 => ?_) (fun h10_1 => ?_)
      · refine r_bipush C (v := -2) dX10_empty_32 (by decide) ?_
        exact ri C Z dX10_empty_34 ⟨Or.inr ⟨rfl, fun i hi => hno i (by omega)⟩, hT.1⟩
      · exfalso; omega
    | succ m ih =>
      intro k I' hm hT hno
      have ink : (nI k).toInt = (k : Int) := nIint (by omega)
      refine r_iload_n C dX10_empty_6 rfl ?_
      refine r_sipush C (v := 999) dX10_empty_7 (by decide) ?_
      refine b_icgt C (tgt := 32) (my := 999) rfl rfl dX10_empty_10 rfl (fun h10_1 => ?_) (fun h10_1 => ?_)
      · exfalso; omega
      · refine r_aload_n C dX10_empty_13 rfl ?_
        refine cV (ci := 10) C hx (sX10_isEmpty (d := d - 1) (by omega) I' J b (ix (I 64 6)) (by rw [hT.1.2 6 (by decide)]; exact hsN) (by omega)) moX10_isEmpty mlX10_268 miX10_isEmpty msX10_isEmpty dX10_empty_14 rfl rfl rfl rfl rfl (by omega) rfl rfl (kp ?_)
        refine z_ifeq C (tgt := 22) dX10_empty_17 rfl (fun h17_3 => ?_) (fun h17_3 => ?_)
        · refine r_aload_n C dX10_empty_22 rfl ?_
          refine cV (ci := 10) C hx (sX10_secondGoes (d := d - 1) (by omega) I' J b (hT.nm hN) (VOk.eqv hT.2.1 (go_ok hEO hvb k))) moX10_secondGoes mlX10_253 miX10_secondGoes msX10_secondGoes dX10_empty_23 rfl rfl rfl rfl rfl (by omega) rfl rfl (kv (fun I_23_4 q_23_4 => ?_))
          have hT2 := th_sec hN hT q_23_4
          refine r_iinc C (v := 1) dX10_empty_26 rfl (by decide) rfl ?_
          refine r_goto C (tgt := 6) dX10_empty_29 rfl ?_
          rw [nI_s]
          exact ih (k + 1) _ (by omega) hT2 (fun i hi => by
            by_cases e : i = k
            · rw [e]; exact fun z => absurd ((ovI I' k hT).mpr z) (by assumption)
            · exact hno i (by omega))
        · refine r_iload_n C dX10_empty_20 rfl ?_
          exact ri C Z dX10_empty_21 ⟨Or.inl ⟨k, by omega, rfl, (ovI I' k hT).mp (by assumption), hno⟩, hT.1⟩
  refine r_aload_n C dX10_empty_0 rfl ?_
  refine cV (ci := 10) C hx (sX10_begins1 (d := d - 1) (by omega) I J b) moX10_begins1 mlX10_258 miX10_begins1 msX10_begins1 dX10_empty_1 rfl rfl rfl rfl rfl (by omega) rfl rfl (kv (fun I_1_1 q_1_1 => ?_))
  have hT := th_bg (I := I) hN FrM.rf q_1_1
  refine r_iconst C (v := 0) dX10_empty_4 (by decide) ?_
  refine r_istore_n C dX10_empty_5 rfl rfl ?_
  exact loop 1000 0 _ rfl hT (fun i hi => absurd hi (Nat.not_lt_zero i))
