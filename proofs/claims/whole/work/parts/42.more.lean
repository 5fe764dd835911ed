set_option maxRecDepth 100000 in
theorem sX9_glass {g : Gb} {d : Nat} (hd : 8 ≤ d) (n k w : Int32) (I : Is) (J : Js) (b : Bool) (hs0 : 0 ≤ (I 1 1).toInt) (hs3 : (I 1 1).toInt ≤ 3) (hNW : NW (I 1 1) (I 2)) (hTW : TW I b) (hv : VOk (gv I 16)) : MC9 g d mX9_glass [.ref 0, .int n, .int k, .int w] I J b (Qi J b (fun v I' => (¬ (inR n 999 ∧ inS I k ∧ inR w 2) ∧ v = -1 ∧ I' = I) ∨ ((inR n 999 ∧ inS I k ∧ inR w 2) ∧ EqV (gv I' 32) (goF (en I b) (bit 7) (bit 0) (bit 0) (ix n) (bgF (gv I 16))) ∧ v = (if w = 0 then I' 34 (ix k) else if w = 1 then I' 35 (ix k) else I' 36 (ix k)) ∧ Fr [32, 33, 34, 35, 36, 37, 14, 15] I I'))) := by
  refine ent9 (own := RX9) rfl rfl rfl (fun X hg hx C Z => ?_)
  subst hg
  refine r_iload_n C dX9_glass_0 rfl ?_
  refine r_sipush C (v := 999) dX9_glass_1 (by decide) ?_
  refine cS C hx (sX9_isWithin (d := d - 1) (by omega) _ _ I J b) moX9_isWithin mlX9_146 mtX9_isWithin dX9_glass_4 rfl rfl (by omega) rfl rfl (kp ?_)
  refine z_ifeq C (tgt := 26) dX9_glass_7 rfl (fun h7_2 => ?_) (fun h7_2 => ?_)
  · refine r_iconst C (v := -1) dX9_glass_26 (by decide) ?_
    exact ri C Z dX9_glass_27 (Or.inl ⟨fun z => absurd z.1 (by assumption), rfl, rfl⟩)
  · refine r_aload_n C dX9_glass_10 rfl ?_
    refine r_iload_n C dX9_glass_11 rfl ?_
    refine cV (ci := 9) C hx (sX9_isStraw (d := d - 1) (by omega) _ I J b hs0 hs3) moX9_isStraw mlX9_143 miX9_isStraw msX9_isStraw dX9_glass_12 rfl rfl rfl rfl rfl (by omega) rfl rfl (kp ?_)
    refine z_ifeq C (tgt := 26) dX9_glass_15 rfl (fun h15_4 => ?_) (fun h15_4 => ?_)
    · refine r_iconst C (v := -1) dX9_glass_26 (by decide) ?_
      exact ri C Z dX9_glass_27 (Or.inl ⟨fun z => absurd z.2.1 (by assumption), rfl, rfl⟩)
    · refine r_iload_n C dX9_glass_18 rfl ?_
      refine r_iconst C (v := 2) dX9_glass_19 (by decide) ?_
      refine cS C hx (sX9_isWithin (d := d - 1) (by omega) _ _ I J b) moX9_isWithin mlX9_146 mtX9_isWithin dX9_glass_20 rfl rfl (by omega) rfl rfl (kp ?_)
      refine z_ifne C (tgt := 28) dX9_glass_23 rfl (fun h23_6 => ?_) (fun h23_6 => ?_)
      · have hin : inR n 999 ∧ inS I k ∧ inR w 2 := ⟨by assumption, by assumption, by assumption⟩
        obtain ⟨N, hN, rfl⟩ := nI_get (n := 1000) hin.1.1 (by have := hin.1.2; omega) (by decide)
        have Nx : ix (nI N) = N := nIix (by omega)
        obtain ⟨j, hj, rfl⟩ := nI_get hin.2.1.1 hin.2.1.2 (by omega)
        have jx : ix (nI j) = j := nIix (by omega)
        refine r_aload_n C dX9_glass_28 rfl ?_
        refine r_getR C flX9_49 dX9_glass_29 rfl rfl rfl ?_
        refine r_iload_n C dX9_glass_32 rfl ?_
        refine cV (ci := 8) C hx (sX8_after (d := d - 1) (by omega) N (by omega) I J b hNW hTW hv) moX8_after mlX9_152 miX8_after msX8_after dX9_glass_33 rfl rfl rfl rfl rfl (by omega) rfl rfl (kr (fun t_33_7 I_33_7 q_33_7 => ?_))
        obtain ⟨rfl, hE, hF⟩ := q_33_7
        refine r_iload_n C dX9_glass_36 rfl ?_
        refine r_iload_n C dX9_glass_37 rfl ?_
        refine cV (ci := 1) C hx (sX1_tells_32 (d := d - 1) (by omega) j (by omega) w _ J b) moX1_tells mlX9_156 miX1_tells msX1_tells dX9_glass_38 rfl rfl rfl rfl rfl (by omega) rfl rfl (kp ?_)
        exact ri C Z dX9_glass_41 (Or.inr ⟨hin, by rw [Nx]; exact hE, by rw [jx], hF⟩)
      · refine r_iconst C (v := -1) dX9_glass_26 (by decide) ?_
        exact ri C Z dX9_glass_27 (Or.inl ⟨fun z => absurd z.2.2 (by assumption), rfl, rfl⟩)
set_option maxRecDepth 100000 in
theorem sX9_level {g : Gb} {d : Nat} (hd : 8 ≤ d) (n w : Int32) (I : Is) (J : Js) (b : Bool) (hs0 : 0 ≤ (I 1 1).toInt) (hs3 : (I 1 1).toInt ≤ 3) (hNW : NW (I 1 1) (I 2)) (hTW : TW I b) (hv : VOk (gv I 16)) : MC9 g d mX9_level [.ref 0, .int n, .int w] I J b (Qi J b (fun v I' => (¬ (inR n 999 ∧ inR w 1) ∧ v = -1 ∧ I' = I) ∨ ((inR n 999 ∧ inR w 1) ∧ EqV (gv I' 32) (goF (en I b) (bit 7) (bit 0) (bit 0) (ix n) (bgF (gv I 16))) ∧ v = (if w = 0 then I' 32 0 else I' 32 1) ∧ Fr [32, 33, 34, 35, 36, 37, 14, 15] I I'))) := by
  refine ent9 (own := RX9) rfl rfl rfl (fun X hg hx C Z => ?_)
  subst hg
  refine r_iload_n C dX9_level_0 rfl ?_
  refine r_sipush C (v := 999) dX9_level_1 (by decide) ?_
  refine cS C hx (sX9_isWithin (d := d - 1) (by omega) _ _ I J b) moX9_isWithin mlX9_146 mtX9_isWithin dX9_level_4 rfl rfl (by omega) rfl rfl (kp ?_)
  refine z_ifeq C (tgt := 18) dX9_level_7 rfl (fun h7_2 => ?_) (fun h7_2 => ?_)
  · refine r_iconst C (v := -1) dX9_level_18 (by decide) ?_
    exact ri C Z dX9_level_19 (Or.inl ⟨fun z => absurd z.1 (by assumption), rfl, rfl⟩)
  · refine r_iload_n C dX9_level_10 rfl ?_
    refine r_iconst C (v := 1) dX9_level_11 (by decide) ?_
    refine cS C hx (sX9_isWithin (d := d - 1) (by omega) _ _ I J b) moX9_isWithin mlX9_146 mtX9_isWithin dX9_level_12 rfl rfl (by omega) rfl rfl (kp ?_)
    refine z_ifne C (tgt := 20) dX9_level_15 rfl (fun h15_4 => ?_) (fun h15_4 => ?_)
    · have hin : inR n 999 ∧ inR w 1 := ⟨by assumption, by assumption⟩
      obtain ⟨N, hN, rfl⟩ := nI_get (n := 1000) hin.1.1 (by have := hin.1.2; omega) (by decide)
      have Nx : ix (nI N) = N := nIix (by omega)
      refine r_aload_n C dX9_level_20 rfl ?_
      refine r_getR C flX9_49 dX9_level_21 rfl rfl rfl ?_
      refine r_iload_n C dX9_level_24 rfl ?_
      refine cV (ci := 8) C hx (sX8_after (d := d - 1) (by omega) N (by omega) I J b hNW hTW hv) moX8_after mlX9_152 miX8_after msX8_after dX9_level_25 rfl rfl rfl rfl rfl (by omega) rfl rfl (kr (fun t_25_5 I_25_5 q_25_5 => ?_))
      obtain ⟨rfl, hE, hF⟩ := q_25_5
      refine r_astore_n C dX9_level_28 rfl rfl ?_
      refine r_iload_n C dX9_level_29 rfl ?_
      refine r_ifne C (tgt := 40) dX9_level_30 rfl (fun h30_6 => ?_) (fun h30_6 => ?_)
      · refine r_aload_n C dX9_level_40 rfl ?_
        refine r_getI C flX9_123 dX9_level_41 rfl rfl ?_
        exact ri C Z dX9_level_44 (Or.inr ⟨hin, by rw [Nx]; exact hE, (if_neg (by assumption)).symm, hF⟩)
      · refine r_aload_n C dX9_level_33 rfl ?_
        refine r_getI C flX9_120 dX9_level_34 rfl rfl ?_
        refine r_goto C (tgt := 44) dX9_level_37 rfl ?_
        exact ri C Z dX9_level_44 (Or.inr ⟨hin, by rw [Nx]; exact hE, (if_pos (by assumption)).symm, hF⟩)
    · refine r_iconst C (v := -1) dX9_level_18 (by decide) ?_
      exact ri C Z dX9_level_19 (Or.inl ⟨fun z => absurd z.2 (by assumption), rfl, rfl⟩)
def leF (I : Is) (k w : Int32) : Int32 := if w = 3 ∨ w = 4 then (if k = 0 then (if w = 3 then I 16 3 else I 16 4) else -1) else if inS I k ∧ inR w 2 then (if w = 0 then I 18 (ix k) else if w = 1 then I 19 (ix k) else I 20 (ix k)) else -1
set_option maxRecDepth 100000 in
theorem sX9_led {g : Gb} {d : Nat} (hd : 2 ≤ d) (k w : Int32) (I : Is) (J : Js) (b : Bool) (hs0 : 0 ≤ (I 1 1).toInt) (hs3 : (I 1 1).toInt ≤ 3) : MC9 g d mX9_led [.ref 0, .int k, .int w] I J b (Qp (leF I k w) I J b) := by
  refine ent9 (own := RX9) rfl rfl rfl (fun X hg hx C Z => ?_)
  subst hg
  refine r_iload_n C dX9_led_0 rfl ?_
  refine r_iconst C (v := 3) dX9_led_1 (by decide) ?_
  refine r_iceq C (tgt := 10) dX9_led_2 rfl (fun h2_1 => ?_) (fun h2_1 => ?_)
  · refine r_iload_n C dX9_led_10 rfl ?_
    refine r_ifeq C (tgt := 16) dX9_led_11 rfl (fun h11_2 => ?_) (fun h11_2 => ?_)
    · refine r_iload_n C dX9_led_16 rfl ?_
      refine r_iconst C (v := 3) dX9_led_17 (by decide) ?_
      refine r_icne C (tgt := 31) dX9_led_18 rfl (fun h18_3 => ?_) (fun h18_3 => ?_)
      · refine r_aload_n C dX9_led_31 rfl ?_
        refine r_getR C flX9_37 dX9_led_32 rfl rfl rfl ?_
        refine r_getI C flX9_242 dX9_led_35 rfl rfl ?_
        exact rp C Z dX9_led_38 (by unfold leF; rw [if_pos (Or.inl (by assumption)), if_pos (by assumption), if_neg (by assumption)])
      · refine r_aload_n C dX9_led_21 rfl ?_
        refine r_getR C flX9_37 dX9_led_22 rfl rfl rfl ?_
        refine r_getI C flX9_235 dX9_led_25 rfl rfl ?_
        refine r_goto C (tgt := 38) dX9_led_28 rfl ?_
        exact rp C Z dX9_led_38 (by unfold leF; rw [if_pos (Or.inl (by assumption)), if_pos (by assumption), if_pos (by assumption)])
    · refine r_iconst C (v := -1) dX9_led_14 (by decide) ?_
      exact rp C Z dX9_led_15 (by unfold leF; rw [if_pos (Or.inl (by assumption)), if_neg (by assumption)])
  · refine r_iload_n C dX9_led_5 rfl ?_
    refine r_iconst C (v := 4) dX9_led_6 (by decide) ?_
    refine r_icne C (tgt := 39) dX9_led_7 rfl (fun h7_4 => ?_) (fun h7_4 => ?_)
    · refine r_aload_n C dX9_led_39 rfl ?_
      refine r_iload_n C dX9_led_40 rfl ?_
      refine cV (ci := 9) C hx (sX9_isStraw (d := d - 1) (by omega) _ I J b hs0 hs3) moX9_isStraw mlX9_143 miX9_isStraw msX9_isStraw dX9_led_41 rfl rfl rfl rfl rfl (by omega) rfl rfl (kp ?_)
      refine z_ifeq C (tgt := 55) dX9_led_44 rfl (fun h44_6 => ?_) (fun h44_6 => ?_)
      · refine r_iconst C (v := -1) dX9_led_55 (by decide) ?_
        exact rp C Z dX9_led_56 (by unfold leF; rw [if_neg (show ¬ (w = 3 ∨ w = 4) from fun z => z.elim (by assumption) (by assumption)), if_neg (fun z => absurd z.1 (by assumption))])
      · refine r_iload_n C dX9_led_47 rfl ?_
        refine r_iconst C (v := 2) dX9_led_48 (by decide) ?_
        refine cS C hx (sX9_isWithin (d := d - 1) (by omega) _ _ I J b) moX9_isWithin mlX9_146 mtX9_isWithin dX9_led_49 rfl rfl (by omega) rfl rfl (kp ?_)
        refine z_ifne C (tgt := 57) dX9_led_52 rfl (fun h52_8 => ?_) (fun h52_8 => ?_)
        · have hin : inS I k ∧ inR w 2 := ⟨by assumption, by assumption⟩
          obtain ⟨j, hj, rfl⟩ := nI_get hin.1.1 hin.1.2 (by omega)
          have jx : ix (nI j) = j := nIix (by omega)
          refine r_aload_n C dX9_led_57 rfl ?_
          refine r_getR C flX9_37 dX9_led_58 rfl rfl rfl ?_
          refine r_iload_n C dX9_led_61 rfl ?_
          refine r_iload_n C dX9_led_62 rfl ?_
          refine cV (ci := 1) C hx (sX1_tells_16 (d := d - 1) (by omega) j (by omega) w I J b) moX1_tells mlX9_156 miX1_tells msX1_tells dX9_led_63 rfl rfl rfl rfl rfl (by omega) rfl rfl (kp ?_)
          exact rp C Z dX9_led_66 (by unfold leF; rw [if_neg (show ¬ (w = 3 ∨ w = 4) from fun z => z.elim (by assumption) (by assumption)), if_pos hin, jx])
        · refine r_iconst C (v := -1) dX9_led_55 (by decide) ?_
          exact rp C Z dX9_led_56 (by unfold leF; rw [if_neg (show ¬ (w = 3 ∨ w = 4) from fun z => z.elim (by assumption) (by assumption)), if_neg (fun z => absurd z.2 (by assumption))])
    · refine r_iload_n C dX9_led_10 rfl ?_
      refine r_ifeq C (tgt := 16) dX9_led_11 rfl (fun h11_10 => ?_) (fun h11_10 => ?_)
      · refine r_iload_n C dX9_led_16 rfl ?_
        refine r_iconst C (v := 3) dX9_led_17 (by decide) ?_
        refine r_icne C (tgt := 31) dX9_led_18 rfl (fun h18_11 => ?_) (fun h18_11 => ?_)
        · refine r_aload_n C dX9_led_31 rfl ?_
          refine r_getR C flX9_37 dX9_led_32 rfl rfl rfl ?_
          refine r_getI C flX9_242 dX9_led_35 rfl rfl ?_
          exact rp C Z dX9_led_38 (by unfold leF; rw [if_pos (Or.inr (by assumption)), if_pos (by assumption), if_neg (by assumption)])
        · refine r_aload_n C dX9_led_21 rfl ?_
          refine r_getR C flX9_37 dX9_led_22 rfl rfl rfl ?_
          refine r_getI C flX9_235 dX9_led_25 rfl rfl ?_
          refine r_goto C (tgt := 38) dX9_led_28 rfl ?_
          exact rp C Z dX9_led_38 (by unfold leF; rw [if_pos (Or.inr (by assumption)), if_pos (by assumption), if_pos (by assumption)])
      · refine r_iconst C (v := -1) dX9_led_14 (by decide) ?_
        exact rp C Z dX9_led_15 (by unfold leF; rw [if_pos (Or.inr (by assumption)), if_neg (by assumption)])
