theorem nI_get {k : Int32} {n : Int} (h0 : 0 ≤ k.toInt) (h1 : k.toInt < n) (hn : n ≤ 100000) : ∃ j : Nat, (j : Int) < n ∧ k = nI j := ⟨k.toInt.toNat, by omega, Int32.toInt_inj.mp (by rw [nIint (by omega)]; omega)⟩
def cnF (I : Is) (w : Int32) : Int32 := if w = 0 then I 1 1 else if w = 1 then I 3 1 else if w = 2 then I 44 1 else if w = 3 then I 48 0 else if w = 4 then I 48 1 else -1
def icF (I : Is) (v : Int32) : Int32 × Is := if v.toInt < 1 ∨ 99 < v.toInt then (-1, I) else if 99 < (I 16 1 + v).toInt then (-5, I) else (I 16 1 + v, u2 I 16 1 (I 16 1 + v))
/-- asked within its range -/
abbrev inR (v : Int32) (m : Int) : Prop := 0 ≤ v.toInt ∧ v.toInt ≤ m
abbrev inS (I : Is) (k : Int32) : Prop := 0 ≤ k.toInt ∧ k.toInt < (I 1 1).toInt
set_option maxRecDepth 100000 in
theorem sX9_count {g : Gb} {d : Nat} (hd : 0 ≤ d) (w : Int32) (I : Is) (J : Js) (b : Bool) : MC9 g d mX9_count [.ref 0, .int w] I J b (Qp (cnF I w) I J b) := by
  refine ent9 (own := RX9) rfl rfl rfl (fun X hg hx C Z => ?_)
  subst hg
  refine r_iload_n C dX9_count_0 rfl ?_
  by_cases c0 : w = 0
  · subst c0
    refine r_tabIn C (tgt := 36) dX9_count_1 (by decide) (by decide) rfl rfl ?_
    refine r_aload_n C dX9_count_36 rfl ?_
    refine r_getR C flX9_10 dX9_count_37 rfl rfl rfl ?_
    refine r_getI C flX9_82 dX9_count_40 rfl rfl ?_
    exact rp C Z dX9_count_43 ((if_pos rfl).symm)
  have n0 := ne_int c0
  have m0 : (0 : Int32).toInt = 0 := rfl
  by_cases c1 : w = 1
  · subst c1
    refine r_tabIn C (tgt := 44) dX9_count_1 (by decide) (by decide) rfl rfl ?_
    refine r_aload_n C dX9_count_44 rfl ?_
    refine r_getR C flX9_19 dX9_count_45 rfl rfl rfl ?_
    refine r_getI C flX9_131 dX9_count_48 rfl rfl ?_
    exact rp C Z dX9_count_51 (((if_neg (by decide)).trans (if_pos rfl)).symm)
  have n1 := ne_int c1
  have m1 : (1 : Int32).toInt = 1 := rfl
  by_cases c2 : w = 2
  · subst c2
    refine r_tabIn C (tgt := 52) dX9_count_1 (by decide) (by decide) rfl rfl ?_
    refine r_aload_n C dX9_count_52 rfl ?_
    refine r_getR C flX9_56 dX9_count_53 rfl rfl rfl ?_
    refine r_getI C flX9_253 dX9_count_56 rfl rfl ?_
    exact rp C Z dX9_count_59 (((if_neg (by decide)).trans ((if_neg (by decide)).trans (if_pos rfl))).symm)
  have n2 := ne_int c2
  have m2 : (2 : Int32).toInt = 2 := rfl
  by_cases c3 : w = 3
  · subst c3
    refine r_tabIn C (tgt := 60) dX9_count_1 (by decide) (by decide) rfl rfl ?_
    refine r_aload_n C dX9_count_60 rfl ?_
    refine r_getR C flX9_63 dX9_count_61 rfl rfl rfl ?_
    refine r_getI C flX9_313 dX9_count_64 rfl rfl ?_
    exact rp C Z dX9_count_67 (((if_neg (by decide)).trans ((if_neg (by decide)).trans ((if_neg (by decide)).trans (if_pos rfl)))).symm)
  have n3 := ne_int c3
  have m3 : (3 : Int32).toInt = 3 := rfl
  by_cases c4 : w = 4
  · subst c4
    refine r_tabIn C (tgt := 68) dX9_count_1 (by decide) (by decide) rfl rfl ?_
    refine r_aload_n C dX9_count_68 rfl ?_
    refine r_getR C flX9_63 dX9_count_69 rfl rfl rfl ?_
    refine r_getI C flX9_316 dX9_count_72 rfl rfl ?_
    exact rp C Z dX9_count_75 (((if_neg (by decide)).trans ((if_neg (by decide)).trans ((if_neg (by decide)).trans ((if_neg (by decide)).trans (if_pos rfl))))).symm)
  have n4 := ne_int c4
  have m4 : (4 : Int32).toInt = 4 := rfl
  refine r_tabOut C (tgt := 76) dX9_count_1 (by omega) rfl ?_
  refine r_iconst C (v := -1) dX9_count_76 (by decide) ?_
  exact rp C Z dX9_count_77 (by unfold cnF; rw [if_neg c0, if_neg c1, if_neg c2, if_neg c3, if_neg c4])
set_option maxRecDepth 100000 in
theorem sX9_ice {g : Gb} {d : Nat} (hd : 0 ≤ d) (v : Int32) (I : Is) (J : Js) (b : Bool) : MC9 g d mX9_ice [.ref 0, .int v] I J b (Qi J b (fun r I' => r = (icF I v).1 ∧ I' = (icF I v).2)) := by
  refine ent9 (own := RX9) rfl rfl rfl (fun X hg hx C Z => ?_)
  subst hg
  refine r_iload_n C dX9_ice_0 rfl ?_
  refine r_iconst C (v := 1) dX9_ice_1 (by decide) ?_
  refine b_iclt C (tgt := 11) (my := 1) rfl rfl dX9_ice_2 rfl (fun h2_1 => ?_) (fun h2_1 => ?_)
  · refine r_iconst C (v := -1) dX9_ice_11 (by decide) ?_
    exact ri C Z dX9_ice_12 (show _ ∧ _ from by unfold icF; rw [if_pos (Or.inl (by omega))]; exact ⟨rfl, rfl⟩)
  · refine r_iload_n C dX9_ice_5 rfl ?_
    refine r_bipush C (v := 99) dX9_ice_6 (by decide) ?_
    refine b_icle C (tgt := 13) (my := 99) rfl rfl dX9_ice_8 rfl (fun h8_2 => ?_) (fun h8_2 => ?_)
    · refine r_aload_n C dX9_ice_13 rfl ?_
      refine r_getR C flX9_37 dX9_ice_14 rfl rfl rfl ?_
      refine r_getI C flX9_123 dX9_ice_17 rfl rfl ?_
      refine r_iload_n C dX9_ice_20 rfl ?_
      refine r_iadd C dX9_ice_21 ?_
      refine r_bipush C (v := 99) dX9_ice_22 (by decide) ?_
      refine b_icle C (tgt := 30) (my := 99) rfl rfl dX9_ice_24 rfl (fun h24_3 => ?_) (fun h24_3 => ?_)
      · refine r_aload_n C dX9_ice_30 rfl ?_
        refine r_getR C flX9_37 dX9_ice_31 rfl rfl rfl ?_
        refine r_dup C dX9_ice_34 rfl ?_
        refine r_getI C flX9_123 dX9_ice_35 rfl rfl ?_
        refine r_iload_n C dX9_ice_38 rfl ?_
        refine r_iadd C dX9_ice_39 ?_
        refine r_putI C flX9_123 dX9_ice_40 rfl rfl rfl rfl rfl ?_
        refine r_aload_n C dX9_ice_43 rfl ?_
        refine r_getR C flX9_37 dX9_ice_44 rfl rfl rfl ?_
        refine r_getI C flX9_123 dX9_ice_47 rfl rfl ?_
        exact ri C Z dX9_ice_50 (show _ ∧ _ from by unfold icF; rw [if_neg (by omega), if_neg (by omega), u2_same]; exact ⟨rfl, rfl⟩)
      · refine r_bipush C (v := -5) dX9_ice_27 (by decide) ?_
        exact ri C Z dX9_ice_29 (show _ ∧ _ from by unfold icF; rw [if_neg (by omega), if_pos (by omega)]; exact ⟨rfl, rfl⟩)
    · refine r_iconst C (v := -1) dX9_ice_11 (by decide) ?_
      exact ri C Z dX9_ice_12 (show _ ∧ _ from by unfold icF; rw [if_pos (Or.inr (by omega))]; exact ⟨rfl, rfl⟩)
set_option maxRecDepth 100000 in
theorem sX9_fill {g : Gb} {d : Nat} (hd : 1 ≤ d) (v : Int32) (I : Is) (J : Js) (b : Bool) : MC9 g d mX9_fill [.ref 0, .int v] I J b (Qi J b (fun r I' => (¬ inR v 999 ∧ r = -1 ∧ I' = I) ∨ (inR v 999 ∧ r = I 16 0 ∧ (I' 16 0 = v ∧ I' 16 1 = I 16 1 ∧ I' 16 2 = 0 ∧ I' 16 3 = I 16 3 ∧ I' 16 4 = I 16 4 + 1 ∧ (∀ k, k < 3 → I' 17 k = 0) ∧ Fr [16, 17] I I')))) := by
  refine ent9 (own := RX9) rfl rfl rfl (fun X hg hx C Z => ?_)
  subst hg
  refine r_iload_n C dX9_fill_0 rfl ?_
  refine r_sipush C (v := 999) dX9_fill_1 (by decide) ?_
  refine cS C hx (sX9_isWithin (d := d - 1) (by omega) _ _ I J b) moX9_isWithin mlX9_146 mtX9_isWithin dX9_fill_4 rfl rfl (by omega) rfl rfl (kp ?_)
  refine z_ifne C (tgt := 12) dX9_fill_7 rfl (fun h7_2 => ?_) (fun h7_2 => ?_)
  · refine r_aload_n C dX9_fill_12 rfl ?_
    refine r_getR C flX9_37 dX9_fill_13 rfl rfl rfl ?_
    refine r_getI C flX9_120 dX9_fill_16 rfl rfl ?_
    refine r_istore_n C dX9_fill_19 rfl rfl ?_
    refine r_aload_n C dX9_fill_20 rfl ?_
    refine r_getR C flX9_37 dX9_fill_21 rfl rfl rfl ?_
    refine r_iload_n C dX9_fill_24 rfl ?_
    refine cV (ci := 1) C hx (sX1_refill (d := d - 1) (by omega) v I J b) moX1_refill mlX9_238 miX1_refill msX1_refill dX9_fill_25 rfl rfl rfl rfl rfl (by omega) rfl rfl (kv (fun I_25_3 q_25_3 => ?_))
    have hq := q_25_3
    refine r_iload_n C dX9_fill_28 rfl ?_
    exact ri C Z dX9_fill_29 (Or.inr ⟨by assumption, rfl, hq⟩)
  · refine r_iconst C (v := -1) dX9_fill_10 (by decide) ?_
    exact ri C Z dX9_fill_11 (Or.inl ⟨by assumption, rfl, rfl⟩)
set_option maxRecDepth 100000 in
theorem sX9_image {g : Gb} {d : Nat} (hd : 2 ≤ d) (I : Is) (J : Js) (b : Bool) : MC9 g d mX9_image [.ref 0] I J b (Qi J b (fun r I2 => ∃ I' : Is, r = I' 16 0 ∧ I2 = u2 I' 0 9 1 ∧ (EqV (gv I' 22) (gv I 16) ∧ I' 22 3 = I 16 3 ∧ I' 22 4 = I 16 4 ∧ Fr [22, 23, 24, 25, 26] I I'))) := by
  refine ent9 (own := RX9) rfl rfl rfl (fun X hg hx C Z => ?_)
  subst hg
  refine r_aload_n C dX9_image_0 rfl ?_
  refine r_getR C flX9_41 dX9_image_1 rfl rfl rfl ?_
  refine r_aload_n C dX9_image_4 rfl ?_
  refine r_getR C flX9_37 dX9_image_5 rfl rfl rfl ?_
  refine cV (ci := 1) C hx (sX1_copy_22_16 (d := d - 1) (by omega) I J b) moX1_copy mlX9_245 miX1_copy msX1_copy dX9_image_8 rfl rfl rfl rfl rfl (by omega) rfl rfl (kv (fun I_8_1 q_8_1 => ?_))
  have hq := q_8_1
  refine r_aload_n C dX9_image_11 rfl ?_
  refine r_iconst C (v := 1) dX9_image_12 (by decide) ?_
  refine r_putI C flX9_74 dX9_image_13 rfl rfl rfl rfl rfl ?_
  refine r_aload_n C dX9_image_16 rfl ?_
  refine r_getR C flX9_37 dX9_image_17 rfl rfl rfl ?_
  refine r_getI C flX9_120 dX9_image_20 rfl rfl ?_
  exact ri C Z dX9_image_23 ⟨I_8_1, congrFun (u2_row (by decide)) _, rfl, hq⟩
set_option maxRecDepth 100000 in
theorem sX9_back {g : Gb} {d : Nat} (hd : 2 ≤ d) (I : Is) (J : Js) (b : Bool) : MC9 g d mX9_back [.ref 0] I J b (Qi J b (fun r I' => (I 0 9 = 0 ∧ r = -5 ∧ I' = I) ∨ (¬ I 0 9 = 0 ∧ r = I' 16 0 ∧ (EqV (gv I' 16) (gv I 22) ∧ I' 16 3 = I 22 3 ∧ I' 16 4 = I 22 4 ∧ Fr [16, 17, 18, 19, 20] I I')))) := by
  refine ent9 (own := RX9) rfl rfl rfl (fun X hg hx C Z => ?_)
  subst hg
  refine r_aload_n C dX9_back_0 rfl ?_
  refine r_getI C flX9_74 dX9_back_1 rfl rfl ?_
  refine r_ifne C (tgt := 10) dX9_back_4 rfl (fun h4_1 => ?_) (fun h4_1 => ?_)
  · refine r_aload_n C dX9_back_10 rfl ?_
    refine r_getR C flX9_37 dX9_back_11 rfl rfl rfl ?_
    refine r_aload_n C dX9_back_14 rfl ?_
    refine r_getR C flX9_41 dX9_back_15 rfl rfl rfl ?_
    refine cV (ci := 1) C hx (sX1_copy_16_22 (d := d - 1) (by omega) I J b) moX1_copy mlX9_245 miX1_copy msX1_copy dX9_back_18 rfl rfl rfl rfl rfl (by omega) rfl rfl (kv (fun I_18_2 q_18_2 => ?_))
    have hq := q_18_2
    refine r_aload_n C dX9_back_21 rfl ?_
    refine r_getR C flX9_37 dX9_back_22 rfl rfl rfl ?_
    refine r_getI C flX9_120 dX9_back_25 rfl rfl ?_
    exact ri C Z dX9_back_28 (Or.inr ⟨by assumption, rfl, hq⟩)
  · refine r_bipush C (v := -5) dX9_back_7 (by decide) ?_
    exact ri C Z dX9_back_9 (Or.inl ⟨by assumption, rfl, rfl⟩)
set_option maxRecDepth 100000 in
theorem sX9_wants {g : Gb} {d : Nat} (hd : 4 ≤ d) (k l t : Int32) (I : Is) (J : Js) (b : Bool) (hs0 : 0 ≤ (I 1 1).toInt) (hs3 : (I 1 1).toInt ≤ 3) (hNW : NW (I 1 1) (I 2)) (hTW : TW I b) (hti : ∀ j : Nat, (j : Int) < (I 1 1).toInt → 1 ≤ (I 2 (8 * j + 3)).toInt) : MC9 g d mX9_wants [.ref 0, .int k, .int l, .int t] I J b (Qi J b (fun r I' => (¬ (inS I k ∧ inR l 999 ∧ inR t 999) ∧ r = -1 ∧ I' = I) ∨ ((inS I k ∧ inR l 999 ∧ inR t 999) ∧ r = wantF I b (ix k) l t ∧ Fr [14, 15] I I'))) := by
  refine ent9 (own := RX9) rfl rfl rfl (fun X hg hx C Z => ?_)
  subst hg
  refine r_aload_n C dX9_wants_0 rfl ?_
  refine r_iload_n C dX9_wants_1 rfl ?_
  refine cV (ci := 9) C hx (sX9_isStraw (d := d - 1) (by omega) _ I J b hs0 hs3) moX9_isStraw mlX9_143 miX9_isStraw msX9_isStraw dX9_wants_2 rfl rfl rfl rfl rfl (by omega) rfl rfl (kp ?_)
  refine z_ifeq C (tgt := 28) dX9_wants_5 rfl (fun h5_2 => ?_) (fun h5_2 => ?_)
  · refine r_iconst C (v := -1) dX9_wants_28 (by decide) ?_
    exact ri C Z dX9_wants_29 (Or.inl ⟨fun z => absurd z.1 (by assumption), rfl, rfl⟩)
  · refine r_iload_n C dX9_wants_8 rfl ?_
    refine r_sipush C (v := 999) dX9_wants_9 (by decide) ?_
    refine cS C hx (sX9_isWithin (d := d - 1) (by omega) _ _ I J b) moX9_isWithin mlX9_146 mtX9_isWithin dX9_wants_12 rfl rfl (by omega) rfl rfl (kp ?_)
    refine z_ifeq C (tgt := 28) dX9_wants_15 rfl (fun h15_4 => ?_) (fun h15_4 => ?_)
    · refine r_iconst C (v := -1) dX9_wants_28 (by decide) ?_
      exact ri C Z dX9_wants_29 (Or.inl ⟨fun z => absurd z.2.1 (by assumption), rfl, rfl⟩)
    · refine r_iload_n C dX9_wants_18 rfl ?_
      refine r_sipush C (v := 999) dX9_wants_19 (by decide) ?_
      refine cS C hx (sX9_isWithin (d := d - 1) (by omega) _ _ I J b) moX9_isWithin mlX9_146 mtX9_isWithin dX9_wants_22 rfl rfl (by omega) rfl rfl (kp ?_)
      refine z_ifne C (tgt := 30) dX9_wants_25 rfl (fun h25_6 => ?_) (fun h25_6 => ?_)
      · have hin : inS I k ∧ inR l 999 ∧ inR t 999 := ⟨by assumption, by assumption, by assumption⟩
        obtain ⟨j, hj, rfl⟩ := nI_get hin.1.1 hin.1.2 (by omega)
        have hjx : ix (nI j) = j := nIix (by omega)
        refine r_aload_n C dX9_wants_30 rfl ?_
        refine r_getR C flX9_28 dX9_wants_31 rfl rfl rfl ?_
        refine r_iload_n C dX9_wants_34 rfl ?_
        refine r_iload_n C dX9_wants_35 rfl ?_
        refine r_iload_n C dX9_wants_36 rfl ?_
        refine cV (ci := 2) C hx (sX2_want (d := d - 1) (by omega) j (by omega) l t I J b (hti j hj) hTW) moX2_want mlX9_149 miX2_want msX2_want dX9_wants_37 rfl rfl rfl rfl rfl (by omega) rfl rfl (ki (fun v_37_7 I_37_7 q_37_7 => ?_))
        have hq := q_37_7
        exact ri C Z dX9_wants_40 (Or.inr ⟨hin, by rw [hjx]; exact hq.1, hq.2⟩)
      · refine r_iconst C (v := -1) dX9_wants_28 (by decide) ?_
        exact ri C Z dX9_wants_29 (Or.inl ⟨fun z => absurd z.2.2 (by assumption), rfl, rfl⟩)
set_option maxRecDepth 100000 in
theorem sX9_empty {g : Gb} {d : Nat} (hd : 8 ≤ d) (I : Is) (J : Js) (b : Bool) (hs0 : 0 ≤ (I 1 1).toInt) (hs3 : (I 1 1).toInt ≤ 3) (hNW : NW (I 1 1) (I 2)) (hTW : TW I b) (hv : VOk (gv I 16)) : MC9 g d mX9_empty [.ref 0] I J b (Qi J b (fun v I' => ((∃ i : Nat, i ≤ 999 ∧ v = nI i ∧ ovF (en I b) (goF (en I b) (bit 7) (bit 0) (bit 0) i (bgF (gv I 16))) ∧ ∀ k, k < i → ¬ ovF (en I b) (goF (en I b) (bit 7) (bit 0) (bit 0) k (bgF (gv I 16)))) ∨ (v = -2 ∧ ∀ k, k ≤ 999 → ¬ ovF (en I b) (goF (en I b) (bit 7) (bit 0) (bit 0) k (bgF (gv I 16))))) ∧ Fr [32, 33, 34, 35, 36, 37, 14, 15] I I')) := by
  refine ent9 (own := RX9) rfl rfl rfl (fun X hg hx C Z => ?_)
  subst hg
  refine r_aload_n C dX9_empty_0 rfl ?_
  refine r_getR C flX9_49 dX9_empty_1 rfl rfl rfl ?_
  refine cV (ci := 8) C hx (sX8_emptyBehind (d := d - 1) (by omega) I J b (I 1 1).toInt.toNat (by omega) (by omega) hNW hTW hv) moX8_emptyBehind mlX9_159 miX8_emptyBehind msX8_emptyBehind dX9_empty_4 rfl rfl rfl rfl rfl (by omega) rfl rfl (ki (fun v_4_1 I_4_1 q_4_1 => ?_))
  have hq := q_4_1
  exact ri C Z dX9_empty_7 hq
set_option maxRecDepth 100000 in
theorem sX9_stopFor {g : Gb} {d : Nat} (hd : 8 ≤ d) (k : Int32) (I : Is) (J : Js) (b : Bool) (hs0 : 0 ≤ (I 1 1).toInt) (hs3 : (I 1 1).toInt ≤ 3) (hNW : NW (I 1 1) (I 2)) (hTW : TW I b) (hv : VOk (gv I 16)) : MC9 g d mX9_stopFor [.ref 0, .int k] I J b (Qi J b (fun v I' => (¬ inS I k ∧ v = -1 ∧ I' = I) ∨ (inS I k ∧ v = lgF (en I b) (bit 7) (bit (1 <<< (k &&& 31))) (bit 0) (ix k) 99 (bgF (gv I 16)) 0 ∧ Fr [32, 33, 34, 35, 36, 37, 14, 15] I I'))) := by
  refine ent9 (own := RX9) rfl rfl rfl (fun X hg hx C Z => ?_)
  subst hg
  refine r_aload_n C dX9_stopFor_0 rfl ?_
  refine r_iload_n C dX9_stopFor_1 rfl ?_
  refine cV (ci := 9) C hx (sX9_isStraw (d := d - 1) (by omega) _ I J b hs0 hs3) moX9_isStraw mlX9_143 miX9_isStraw msX9_isStraw dX9_stopFor_2 rfl rfl rfl rfl rfl (by omega) rfl rfl (kp ?_)
  refine z_ifeq C (tgt := 19) dX9_stopFor_5 rfl (fun h5_2 => ?_) (fun h5_2 => ?_)
  · refine r_iconst C (v := -1) dX9_stopFor_19 (by decide) ?_
    exact ri C Z dX9_stopFor_20 (Or.inl ⟨by assumption, rfl, rfl⟩)
  · have hin : inS I k := by assumption
    obtain ⟨j, hj, rfl⟩ := nI_get hin.1 hin.2 (by omega)
    have hjx : ix (nI j) = j := nIix (by omega)
    refine r_aload_n C dX9_stopFor_8 rfl ?_
    refine r_getR C flX9_49 dX9_stopFor_9 rfl rfl rfl ?_
    refine r_iload_n C dX9_stopFor_12 rfl ?_
    refine cV (ci := 8) C hx (sX8_lastGain (d := d - 1) (by omega) j (by omega) I J b hNW hTW hv) moX8_lastGain mlX9_209 miX8_lastGain msX8_lastGain dX9_stopFor_13 rfl rfl rfl rfl rfl (by omega) rfl rfl (ki (fun v_13_3 I_13_3 q_13_3 => ?_))
    have hq := q_13_3
    refine r_goto C (tgt := 20) dX9_stopFor_16 rfl ?_
    exact ri C Z dX9_stopFor_20 (Or.inr ⟨hin, by rw [hjx]; exact hq.1, hq.2⟩)
