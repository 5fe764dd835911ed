abbrev inB (I : Is) (x : Int32) : Prop := 0 ≤ x.toInt ∧ x.toInt < (I 48 0).toInt
def elF (I : Is) (J : Js) (k i : Int32) : Int64 := if reF I k i = 0 then J (shT k + 1) (ix i) else -9223372036854775808
def tkF (I : Is) (k w : Int32) : Int32 := if inR k 5 ∧ inR w 7 then (if I (shT k) 0 = -2 then -11 else if I (shT k) 0 = -1 then (if unF w 8 (if inB I (I (shT k) 2) then I 49 (ix (I (shT k) 2)) else 0) = 0 then -12 else (if inB I (I (shT k) 2) then I 49 (ix (I (shT k) 2)) else 0)) else -12) else -1
set_option maxRecDepth 100000 in
theorem sX9_element {g : Gb} {d : Nat} (hd : 3 ≤ d) (k i : Int32) (I : Is) (J : Js) (b : Bool) (hsz : ∀ t, isSh t → 0 ≤ (I t 1).toInt ∧ (I t 1).toInt ≤ 60) : MC9 g d mX9_element [.ref 0, .int k, .int i] I J b (Qg (fun r I' J' b' => r = some (.long (elF I J k i)) ∧ I' = I ∧ J' = J ∧ b' = b)) := by
  refine ent9 (own := RX9) rfl rfl rfl (fun X hg hx C Z => ?_)
  subst hg
  refine r_aload_n C dX9_element_0 rfl ?_
  refine r_iload_n C dX9_element_1 rfl ?_
  refine r_iload_n C dX9_element_2 rfl ?_
  refine cV (ci := 9) C hx (sX9_refusedElement (d := d - 1) (by omega) k i I J b) moX9_refusedElement mlX9_283 miX9_refusedElement msX9_refusedElement dX9_element_3 rfl rfl rfl rfl rfl (by omega) rfl rfl (kp ?_)
  refine r_ifeq C (tgt := 15) dX9_element_6 rfl (fun h6_2 => ?_) (fun h6_2 => ?_)
  · have hin := re_in (by assumption)
    have hsh : inR k 5 := hin.1
    obtain ⟨h51, hT⟩ := sh_at b hsh
    obtain ⟨hc4, hr3, hc21, hl60⟩ := sh_all hT b
    refine r_aload_n C dX9_element_15 rfl ?_
    refine r_getR C flX9_69 dX9_element_16 rfl rfl rfl ?_
    refine r_iload_n C dX9_element_19 rfl ?_
    refine r_qald C rfl dX9_element_20 (vin hsh.1 (show k.toInt < 6 by have := hsh.2; omega)) h51 ?_
    refine r_getR C flX9_286 dX9_element_21 hc4 rfl hr3 ?_
    refine r_iload_n C dX9_element_24 rfl ?_
    refine r_lald C hc21 dX9_element_25 (by rw [hl60]; have hz := hsz _ hT; exact vin hin.2.1 (show i.toInt < 60 by have := hin.2.2; omega)) ?_
    exact rgl C Z dX9_element_26 ⟨congrArg (fun z => some (Value.long z)) (Eq.symm (if_pos (by assumption))), rfl, rfl, rfl⟩
  · refine r_ldc2 C kkX9_296 dX9_element_9 ?_
    refine r_goto C (tgt := 26) dX9_element_12 rfl ?_
    exact rgl C Z dX9_element_26 ⟨congrArg (fun z => some (Value.long z)) (Eq.symm (if_neg (by assumption))), rfl, rfl, rfl⟩
set_option maxRecDepth 100000 in
theorem sX9_keep {g : Gb} {d : Nat} (hd : 2 ≤ d) (k x : Int32) (I : Is) (J : Js) (b : Bool) : MC9 g d mX9_keep [.ref 0, .int k, .int x] I J b (Qi J b (fun v I' => (¬ (inR k 5 ∧ (x = -1 ∨ inB I x)) ∧ v = -1 ∧ I' = I) ∨ ((inR k 5 ∧ (x = -1 ∨ inB I x)) ∧ v = 1 ∧ I' = if x = -1 then u2 (u2 I (shT k) 0 (-2)) (shT k) 1 0 else u2 (u2 (u2 I (shT k) 0 (-1)) (shT k) 1 0) (shT k) 2 x))) := by
  refine ent9 (own := RX9) rfl rfl rfl (fun X hg hx C Z => ?_)
  subst hg
  refine r_iload_n C dX9_keep_0 rfl ?_
  refine cS C hx (sX9_isShelf (d := d - 1) (by omega) _ I J b) moX9_isShelf mlX9_94 mtX9_isShelf dX9_keep_1 rfl rfl (by omega) rfl rfl (kp ?_)
  refine z_ifeq C (tgt := 23) dX9_keep_4 rfl (fun h4_2 => ?_) (fun h4_2 => ?_)
  · refine r_iconst C (v := -1) dX9_keep_23 (by decide) ?_
    exact ri C Z dX9_keep_24 (Or.inl ⟨fun z => absurd z.1 (by assumption), rfl, rfl⟩)
  · refine r_iload_n C dX9_keep_7 rfl ?_
    refine r_iconst C (v := -1) dX9_keep_8 (by decide) ?_
    refine r_iceq C (tgt := 25) dX9_keep_9 rfl (fun h9_3 => ?_) (fun h9_3 => ?_)
    · have hsh : inR k 5 := by assumption
      obtain ⟨h51, hT⟩ := sh_at b hsh
      obtain ⟨hc4, hr3, hc21, hl60⟩ := sh_all hT b
      refine r_iload_n C dX9_keep_25 rfl ?_
      refine r_iconst C (v := -1) dX9_keep_26 (by decide) ?_
      refine r_icne C (tgt := 42) dX9_keep_27 rfl (fun h27_4 => ?_) (fun h27_4 => ?_)
      · refine r_aload_n C dX9_keep_42 rfl ?_
        refine r_getR C flX9_69 dX9_keep_43 rfl rfl rfl ?_
        refine r_iload_n C dX9_keep_46 rfl ?_
        refine r_qald C rfl dX9_keep_47 (vin hsh.1 (show k.toInt < 6 by have := hsh.2; omega)) h51 ?_
        refine r_iload_n C dX9_keep_48 rfl ?_
        refine cV (ci := 4) C hx (sX4_holdSip (d := d - 1) (by omega) (shT k) hT x I J b) moX4_holdSip mlX9_276 miX4_holdSip msX4_holdSip dX9_keep_49 rfl rfl hc4 rfl rfl (by omega) rfl rfl (kv (fun I_49_5 q_49_5 => ?_))
        have hq := q_49_5
        refine r_iconst C (v := 1) dX9_keep_52 (by decide) ?_
        exact ri C Z dX9_keep_53 (Or.inr ⟨⟨hsh, Or.inl (by assumption)⟩, rfl, hq.trans (if_neg (by assumption)).symm⟩)
      · refine r_aload_n C dX9_keep_30 rfl ?_
        refine r_getR C flX9_69 dX9_keep_31 rfl rfl rfl ?_
        refine r_iload_n C dX9_keep_34 rfl ?_
        refine r_qald C rfl dX9_keep_35 (vin hsh.1 (show k.toInt < 6 by have := hsh.2; omega)) h51 ?_
        refine cV (ci := 4) C hx (sX4_clear (d := d - 1) (by omega) (shT k) hT I J b) moX4_clear mlX9_273 miX4_clear msX4_clear dX9_keep_36 rfl rfl hc4 rfl rfl (by omega) rfl rfl (kv (fun I_36_6 q_36_6 => ?_))
        have hq := q_36_6
        refine r_goto C (tgt := 52) dX9_keep_39 rfl ?_
        refine r_iconst C (v := 1) dX9_keep_52 (by decide) ?_
        exact ri C Z dX9_keep_53 (Or.inr ⟨⟨hsh, Or.inl (by assumption)⟩, rfl, hq.trans (if_pos (by assumption)).symm⟩)
    · refine r_aload_n C dX9_keep_12 rfl ?_
      refine r_getR C flX9_63 dX9_keep_13 rfl rfl rfl ?_
      refine r_iload_n C dX9_keep_16 rfl ?_
      refine cV (ci := 5) C hx (sX5_has (d := d - 1) (by omega) x I J b) moX5_has mlX9_270 miX5_has msX5_has dX9_keep_17 rfl rfl rfl rfl rfl (by omega) rfl rfl (kp ?_)
      refine z_ifne C (tgt := 25) dX9_keep_20 rfl (fun h20_8 => ?_) (fun h20_8 => ?_)
      · have hsh : inR k 5 := by assumption
        obtain ⟨h51, hT⟩ := sh_at b hsh
        obtain ⟨hc4, hr3, hc21, hl60⟩ := sh_all hT b
        refine r_iload_n C dX9_keep_25 rfl ?_
        refine r_iconst C (v := -1) dX9_keep_26 (by decide) ?_
        refine r_icne C (tgt := 42) dX9_keep_27 rfl (fun h27_9 => ?_) (fun h27_9 => ?_)
        · refine r_aload_n C dX9_keep_42 rfl ?_
          refine r_getR C flX9_69 dX9_keep_43 rfl rfl rfl ?_
          refine r_iload_n C dX9_keep_46 rfl ?_
          refine r_qald C rfl dX9_keep_47 (vin hsh.1 (show k.toInt < 6 by have := hsh.2; omega)) h51 ?_
          refine r_iload_n C dX9_keep_48 rfl ?_
          refine cV (ci := 4) C hx (sX4_holdSip (d := d - 1) (by omega) (shT k) hT x I J b) moX4_holdSip mlX9_276 miX4_holdSip msX4_holdSip dX9_keep_49 rfl rfl hc4 rfl rfl (by omega) rfl rfl (kv (fun I_49_10 q_49_10 => ?_))
          have hq := q_49_10
          refine r_iconst C (v := 1) dX9_keep_52 (by decide) ?_
          exact ri C Z dX9_keep_53 (Or.inr ⟨⟨hsh, Or.inr (by assumption)⟩, rfl, hq.trans (if_neg (by assumption)).symm⟩)
        · refine r_aload_n C dX9_keep_30 rfl ?_
          refine r_getR C flX9_69 dX9_keep_31 rfl rfl rfl ?_
          refine r_iload_n C dX9_keep_34 rfl ?_
          refine r_qald C rfl dX9_keep_35 (vin hsh.1 (show k.toInt < 6 by have := hsh.2; omega)) h51 ?_
          refine cV (ci := 4) C hx (sX4_clear (d := d - 1) (by omega) (shT k) hT I J b) moX4_clear mlX9_273 miX4_clear msX4_clear dX9_keep_36 rfl rfl hc4 rfl rfl (by omega) rfl rfl (kv (fun I_36_11 q_36_11 => ?_))
          have hq := q_36_11
          refine r_goto C (tgt := 52) dX9_keep_39 rfl ?_
          refine r_iconst C (v := 1) dX9_keep_52 (by decide) ?_
          exact ri C Z dX9_keep_53 (Or.inr ⟨⟨hsh, Or.inr (by assumption)⟩, rfl, hq.trans (if_pos (by assumption)).symm⟩)
      · refine r_iconst C (v := -1) dX9_keep_23 (by decide) ?_
        exact ri C Z dX9_keep_24 (Or.inl ⟨fun z => z.2.elim (by assumption) (by assumption), rfl, rfl⟩)
set_option maxRecDepth 100000 in
theorem sX9_taken {g : Gb} {d : Nat} (hd : 3 ≤ d) (k w : Int32) (I : Is) (J : Js) (b : Bool) (h50 : (I 48 0).toInt ≤ 50) : MC9 g d mX9_taken [.ref 0, .int k, .int w] I J b (Qi J b (fun v I' => v = tkF I k w ∧ I' = I)) := by
  refine ent9 (own := RX9) rfl rfl rfl (fun X hg hx C Z => ?_)
  subst hg
  refine r_iload_n C dX9_taken_0 rfl ?_
  refine cS C hx (sX9_isShelf (d := d - 1) (by omega) _ I J b) moX9_isShelf mlX9_94 mtX9_isShelf dX9_taken_1 rfl rfl (by omega) rfl rfl (kp ?_)
  refine z_ifeq C (tgt := 16) dX9_taken_4 rfl (fun h4_2 => ?_) (fun h4_2 => ?_)
  · refine r_iconst C (v := -1) dX9_taken_16 (by decide) ?_
    exact ri C Z dX9_taken_17 ⟨(if_neg (fun z => absurd z.1 (by assumption))).symm, rfl⟩
  · refine r_iload_n C dX9_taken_7 rfl ?_
    refine r_bipush C (v := 7) dX9_taken_8 (by decide) ?_
    refine cS C hx (sX9_isWithin (d := d - 1) (by omega) _ _ I J b) moX9_isWithin mlX9_146 mtX9_isWithin dX9_taken_10 rfl rfl (by omega) rfl rfl (kp ?_)
    refine z_ifne C (tgt := 18) dX9_taken_13 rfl (fun h13_4 => ?_) (fun h13_4 => ?_)
    · have hsh : inR k 5 := by assumption
      obtain ⟨h51, hT⟩ := sh_at b hsh
      obtain ⟨hc4, hr3, hc21, hl60⟩ := sh_all hT b
      have hw : inR w 7 := by assumption
      refine r_aload_n C dX9_taken_18 rfl ?_
      refine r_getR C flX9_69 dX9_taken_19 rfl rfl rfl ?_
      refine r_iload_n C dX9_taken_22 rfl ?_
      refine r_qald C rfl dX9_taken_23 (vin hsh.1 (show k.toInt < 6 by have := hsh.2; omega)) h51 ?_
      refine r_astore_n C dX9_taken_24 rfl rfl ?_
      refine r_aload_n C dX9_taken_25 rfl ?_
      refine r_getI C flX9_98 dX9_taken_26 hc4 rfl ?_
      refine r_bipush C (v := -2) dX9_taken_29 (by decide) ?_
      refine r_icne C (tgt := 37) dX9_taken_31 rfl (fun h31_5 => ?_) (fun h31_5 => ?_)
      · refine r_aload_n C dX9_taken_37 rfl ?_
        refine r_getI C flX9_98 dX9_taken_38 hc4 rfl ?_
        refine r_iconst C (v := -1) dX9_taken_41 (by decide) ?_
        refine r_iceq C (tgt := 48) dX9_taken_42 rfl (fun h42_6 => ?_) (fun h42_6 => ?_)
        · refine r_aload_n C dX9_taken_48 rfl ?_
          refine r_getR C flX9_63 dX9_taken_49 rfl rfl rfl ?_
          refine r_aload_n C dX9_taken_52 rfl ?_
          refine r_getI C flX9_304 dX9_taken_53 hc4 rfl ?_
          refine cV (ci := 5) C hx (sX5_kindOf (d := d - 1) (by omega) _ I J b h50) moX5_kindOf mlX9_307 miX5_kindOf msX5_kindOf dX9_taken_56 rfl rfl rfl rfl rfl (by omega) rfl rfl (kp ?_)
          refine r_istore C dX9_taken_59 rfl rfl ?_
          refine r_iload C dX9_taken_61 rfl ?_
          refine r_iload_n C dX9_taken_63 rfl ?_
          refine cS C hx (sX5_isUnder (d := d - 1) (by omega) _ w I J b) moX5_isUnder mlX9_310 mtX5_isUnder dX9_taken_64 rfl rfl (by omega) rfl rfl (ki (fun v_64_8 I_64_8 q_64_8 => ?_))
          obtain ⟨hII, rfl⟩ := q_64_8
          rw [hII]
          clear hII
          refine r_ifeq C (tgt := 75) dX9_taken_67 rfl (fun h67_9 => ?_) (fun h67_9 => ?_)
          · refine r_bipush C (v := -12) dX9_taken_75 (by decide) ?_
            exact ri C Z dX9_taken_77 ⟨((if_pos ⟨hsh, hw⟩).trans ((if_neg (by assumption)).trans ((if_pos (by assumption)).trans (if_pos (by assumption))))).symm, rfl⟩
          · refine r_iload C dX9_taken_70 rfl ?_
            refine r_goto C (tgt := 77) dX9_taken_72 rfl ?_
            exact ri C Z dX9_taken_77 ⟨((if_pos ⟨hsh, hw⟩).trans ((if_neg (by assumption)).trans ((if_pos (by assumption)).trans (if_neg (by assumption))))).symm, rfl⟩
        · refine r_bipush C (v := -12) dX9_taken_45 (by decide) ?_
          exact ri C Z dX9_taken_47 ⟨((if_pos ⟨hsh, hw⟩).trans ((if_neg (by assumption)).trans (if_neg (by assumption)))).symm, rfl⟩
      · refine r_bipush C (v := -11) dX9_taken_34 (by decide) ?_
        exact ri C Z dX9_taken_36 ⟨((if_pos ⟨hsh, hw⟩).trans (if_pos (by assumption))).symm, rfl⟩
    · refine r_iconst C (v := -1) dX9_taken_16 (by decide) ?_
      exact ri C Z dX9_taken_17 ⟨(if_neg (fun z => absurd z.2 (by assumption))).symm, rfl⟩
set_option maxRecDepth 100000 in
theorem sX9_drawn {g : Gb} {d : Nat} (hd : 9 ≤ d) (sd n x : Int32) (I : Is) (J : Js) (b : Bool) (hs0 : 0 ≤ (I 1 1).toInt) (hs3 : (I 1 1).toInt ≤ 3) (hNW : NW (I 1 1) (I 2)) (hTW : TW I b) (hv : VOk (gv I 16)) : MC9 g d mX9_drawn [.ref 0, .int sd, .int n, .int x] I J b (Qi J b (fun v I' => (¬ ((1 ≤ n.toInt ∧ n.toInt ≤ 20) ∧ (x = -1 ∨ inS I x)) ∧ v = -1 ∧ I' = I) ∨ (((1 ≤ n.toInt ∧ n.toInt ≤ 20) ∧ (x = -1 ∨ inS I x)) ∧ v = hgF (en I b) (I 2 27) (I 1 1).toInt.toNat (bgF (gv I 16)) x (ix n) sd 0 ∧ Fr [32, 33, 34, 35, 36, 37, 14, 15] I I'))) := by
  refine ent9 (own := RX9) rfl rfl rfl (fun X hg hx C Z => ?_)
  subst hg
  refine r_iload_n C dX9_drawn_0 rfl ?_
  refine r_iconst C (v := 1) dX9_drawn_1 (by decide) ?_
  refine b_iclt C (tgt := 24) (my := 1) rfl rfl dX9_drawn_2 rfl (fun h2_1 => ?_) (fun h2_1 => ?_)
  · refine r_iconst C (v := -1) dX9_drawn_24 (by decide) ?_
    exact ri C Z dX9_drawn_25 (Or.inl ⟨fun z => by have := z.1.1; omega, rfl, rfl⟩)
  · refine r_iload_n C dX9_drawn_5 rfl ?_
    refine r_bipush C (v := 20) dX9_drawn_6 (by decide) ?_
    refine b_icgt C (tgt := 24) (my := 20) rfl rfl dX9_drawn_8 rfl (fun h8_2 => ?_) (fun h8_2 => ?_)
    · refine r_iconst C (v := -1) dX9_drawn_24 (by decide) ?_
      exact ri C Z dX9_drawn_25 (Or.inl ⟨fun z => by have := z.1.2; omega, rfl, rfl⟩)
    · refine r_iload_n C dX9_drawn_11 rfl ?_
      refine r_iconst C (v := -1) dX9_drawn_12 (by decide) ?_
      refine r_iceq C (tgt := 26) dX9_drawn_13 rfl (fun h13_3 => ?_) (fun h13_3 => ?_)
      · have hin : (1 ≤ n.toInt ∧ n.toInt ≤ 20) ∧ (x = -1 ∨ inS I x) := ⟨⟨by omega, by omega⟩, by first | exact Or.inl (by assumption) | exact Or.inr (by assumption)⟩
        obtain ⟨N, hN, rfl⟩ := nI_get (n := 21) (by omega : 0 ≤ n.toInt) (by omega) (by decide)
        have Nx : ix (nI N) = N := nIix (by omega)
        refine r_aload_n C dX9_drawn_26 rfl ?_
        refine r_getR C flX9_49 dX9_drawn_27 rfl rfl rfl ?_
        refine r_iload_n C dX9_drawn_30 rfl ?_
        refine r_iload_n C dX9_drawn_31 rfl ?_
        refine r_iload_n C dX9_drawn_32 rfl ?_
        refine cV (ci := 8) C hx (sX8_hiccupped (d := d - 1) (by omega) sd x N (by omega) I J b (hin.2.elim (fun e => Or.inl (by rw [e]; decide)) (fun e => Or.inr ⟨e.1, by have := e.2; omega⟩)) (I 1 1).toInt.toNat (by omega) (by omega) hNW hTW hv) moX8_hiccupped mlX9_229 miX8_hiccupped msX8_hiccupped dX9_drawn_33 rfl rfl rfl rfl rfl (by omega) rfl rfl (ki (fun v_33_4 I_33_4 q_33_4 => ?_))
        have hq := q_33_4
        exact ri C Z dX9_drawn_36 (Or.inr ⟨hin, by rw [Nx]; exact hq.1, hq.2⟩)
      · refine r_aload_n C dX9_drawn_16 rfl ?_
        refine r_iload_n C dX9_drawn_17 rfl ?_
        refine cV (ci := 9) C hx (sX9_isStraw (d := d - 1) (by omega) _ I J b hs0 hs3) moX9_isStraw mlX9_143 miX9_isStraw msX9_isStraw dX9_drawn_18 rfl rfl rfl rfl rfl (by omega) rfl rfl (kp ?_)
        refine z_ifne C (tgt := 26) dX9_drawn_21 rfl (fun h21_6 => ?_) (fun h21_6 => ?_)
        · have hin : (1 ≤ n.toInt ∧ n.toInt ≤ 20) ∧ (x = -1 ∨ inS I x) := ⟨⟨by omega, by omega⟩, by first | exact Or.inl (by assumption) | exact Or.inr (by assumption)⟩
          obtain ⟨N, hN, rfl⟩ := nI_get (n := 21) (by omega : 0 ≤ n.toInt) (by omega) (by decide)
          have Nx : ix (nI N) = N := nIix (by omega)
          refine r_aload_n C dX9_drawn_26 rfl ?_
          refine r_getR C flX9_49 dX9_drawn_27 rfl rfl rfl ?_
          refine r_iload_n C dX9_drawn_30 rfl ?_
          refine r_iload_n C dX9_drawn_31 rfl ?_
          refine r_iload_n C dX9_drawn_32 rfl ?_
          refine cV (ci := 8) C hx (sX8_hiccupped (d := d - 1) (by omega) sd x N (by omega) I J b (hin.2.elim (fun e => Or.inl (by rw [e]; decide)) (fun e => Or.inr ⟨e.1, by have := e.2; omega⟩)) (I 1 1).toInt.toNat (by omega) (by omega) hNW hTW hv) moX8_hiccupped mlX9_229 miX8_hiccupped msX8_hiccupped dX9_drawn_33 rfl rfl rfl rfl rfl (by omega) rfl rfl (ki (fun v_33_7 I_33_7 q_33_7 => ?_))
          have hq := q_33_7
          exact ri C Z dX9_drawn_36 (Or.inr ⟨hin, by rw [Nx]; exact hq.1, hq.2⟩)
        · refine r_iconst C (v := -1) dX9_drawn_24 (by decide) ?_
          exact ri C Z dX9_drawn_25 (Or.inl ⟨fun z => z.2.elim (by assumption) (by assumption), rfl, rfl⟩)
