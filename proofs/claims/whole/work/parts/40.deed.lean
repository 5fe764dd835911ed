def fdF (I : Is) (c : Int32) : Int32 × Is := if c.toInt < 0 ∨ 255 < c.toInt then (-1, I) else if 120 ≤ (I 3 1).toInt then (-3, I) else (I 3 1 + 1, u2 (u2 I 4 (ix (I 3 1)) c) 3 1 (I 3 1 + 1))
def bdF (I : Is) (kd : Int32) : Int32 × Is := if 0 ≤ kd.toInt ∧ kd.toInt ≤ (7 : Int32).toInt then (if 50 ≤ (I 48 0).toInt then (-3, I) else (I 48 0 + 1 - 1, u2 (u2 I 49 (ix (I 48 0)) kd) 48 0 (I 48 0 + 1))) else (-1, I)
def undF (I : Is) : Int32 × Is := if 0 < (I 44 1).toInt then (I 44 1 - 1, u2 (u2 I 44 1 (I 44 1 - 1)) 2 (ix (I 45 (ix (I 44 1 - 1)))) (I 46 (ix (I 44 1 - 1)))) else (-5, I)
def redF (I : Is) : Int32 × Is := if (I 44 1).toInt < (I 44 0).toInt then (I 44 0 - (I 44 1 + 1), u2 (u2 I 2 (ix (I 45 (ix (I 44 1)))) (I 47 (ix (I 44 1)))) 44 1 (I 44 1 + 1)) else (-5, I)
set_option maxRecDepth 100000 in
theorem sX9_feed {g : Gb} {d : Nat} (hd : 1 ≤ d) (c : Int32) (I : Is) (J : Js) (b : Bool) (h0 : 0 ≤ (I 3 1).toInt) : MC9 g d mX9_feed [.ref 0, .int c] I J b (Qi J b (fun v I' => v = (fdF I c).1 ∧ I' = (fdF I c).2)) := by
  refine ent9 (own := RX9) rfl rfl rfl (fun X hg hx C Z => ?_)
  subst hg
  refine r_iload_n C dX9_feed_0 rfl ?_
  refine b_iflt C (tgt := 11) dX9_feed_1 rfl (fun h1_1 => ?_) (fun h1_1 => ?_)
  · refine r_iconst C (v := -1) dX9_feed_11 (by decide) ?_
    exact ri C Z dX9_feed_12 (by unfold fdF; rw [if_pos (Or.inl (by assumption))]; exact ⟨rfl, rfl⟩)
  · refine r_iload_n C dX9_feed_4 rfl ?_
    refine r_sipush C (v := 255) dX9_feed_5 (by decide) ?_
    refine b_icle C (tgt := 13) (my := 255) rfl rfl dX9_feed_8 rfl (fun h8_2 => ?_) (fun h8_2 => ?_)
    · refine r_aload_n C dX9_feed_13 rfl ?_
      refine r_getR C flX9_19 dX9_feed_14 rfl rfl rfl ?_
      refine r_iload_n C dX9_feed_17 rfl ?_
      refine cV (ci := 6) C hx (sX6_add (d := d - 1) (by omega) c I J b h0) moX6_add mlX9_129 miX6_add msX6_add dX9_feed_18 rfl rfl rfl rfl rfl (by omega) rfl rfl (ki (fun v_18_3 I_18_3 q_18_3 => ?_))
      have hq := q_18_3
      refine r_ifeq C (tgt := 34) dX9_feed_21 rfl (fun h21_4 => ?_) (fun h21_4 => ?_)
      · refine r_bipush C (v := -3) dX9_feed_34 (by decide) ?_
        exact ri C Z dX9_feed_36 (by
        unfold fdF
        rw [if_neg (by omega)]
        rcases hq with ⟨a, e, f⟩ | ⟨a, e, f⟩
        · rw [if_pos a]; exact ⟨rfl, f⟩
        · exact absurd (show (1 : Int32) = 0 from e.symm.trans (by assumption)) (by decide))
      · refine r_aload_n C dX9_feed_24 rfl ?_
        refine r_getR C flX9_19 dX9_feed_25 rfl rfl rfl ?_
        refine r_getI C flX9_131 dX9_feed_28 rfl rfl ?_
        refine r_goto C (tgt := 36) dX9_feed_31 rfl ?_
        exact ri C Z dX9_feed_36 (by
        unfold fdF
        rw [if_neg (by omega)]
        rcases hq with ⟨a, e, f⟩ | ⟨a, e, f⟩
        · exact absurd e (by assumption)
        · rw [if_neg (by omega)]; exact ⟨by rw [f, u2_same], f⟩)
    · refine r_iconst C (v := -1) dX9_feed_11 (by decide) ?_
      exact ri C Z dX9_feed_12 (by unfold fdF; rw [if_pos (Or.inr (by omega))]; exact ⟨rfl, rfl⟩)
set_option maxRecDepth 100000 in
theorem sX9_body {g : Gb} {d : Nat} (hd : 1 ≤ d) (kd : Int32) (I : Is) (J : Js) (b : Bool) (h0 : 0 ≤ (I 48 0).toInt) : MC9 g d mX9_body [.ref 0, .int kd] I J b (Qi J b (fun v I' => v = (bdF I kd).1 ∧ I' = (bdF I kd).2)) := by
  refine ent9 (own := RX9) rfl rfl rfl (fun X hg hx C Z => ?_)
  subst hg
  refine r_iload_n C dX9_body_0 rfl ?_
  refine r_bipush C (v := 7) dX9_body_1 (by decide) ?_
  refine cS C hx (sX9_isWithin (d := d - 1) (by omega) _ _ I J b) moX9_isWithin mlX9_146 mtX9_isWithin dX9_body_3 rfl rfl (by omega) rfl rfl (kp ?_)
  refine z_ifne C (tgt := 11) dX9_body_6 rfl (fun h6_2 => ?_) (fun h6_2 => ?_)
  · refine r_aload_n C dX9_body_11 rfl ?_
    refine r_getR C flX9_63 dX9_body_12 rfl rfl rfl ?_
    refine r_iload_n C dX9_body_15 rfl ?_
    refine cV (ci := 5) C hx (sX5_add (d := d - 1) (by omega) kd I J b h0) moX5_add mlX9_262 miX5_add msX5_add dX9_body_16 rfl rfl rfl rfl rfl (by omega) rfl rfl (ki (fun v_16_3 I_16_3 q_16_3 => ?_))
    have hq := q_16_3
    exact ri C Z dX9_body_19 (by
      unfold bdF
      rw [if_pos (by assumption)]
      rcases hq with ⟨a, e, f⟩ | ⟨a, e, f⟩
      · rw [if_pos a]; exact ⟨e, f⟩
      · rw [if_neg (by omega)]; exact ⟨e, f⟩)
  · refine r_iconst C (v := -1) dX9_body_9 (by decide) ?_
    exact ri C Z dX9_body_10 (by unfold bdF; rw [if_neg (by assumption)]; exact ⟨rfl, rfl⟩)
set_option maxRecDepth 100000 in
theorem sX9_act {g : Gb} {d : Nat} (hd : 45 ≤ d) (n a x : Int32) (I : Is) (J : Js) (b : Bool) (h50 : (I 48 0).toInt ≤ 50) : MC9 g d mX9_act [.ref 0, .int n, .int a, .int x] I J b (Qi J b (fun v I' => v = (actF I n a x).1 ∧ I' = (actF I n a x).2)) := by
  refine ent9 (own := RX9) rfl rfl rfl (fun X hg hx C Z => ?_)
  subst hg
  refine r_aload_n C dX9_act_0 rfl ?_
  refine r_getR C flX9_63 dX9_act_1 rfl rfl rfl ?_
  refine r_iload_n C dX9_act_4 rfl ?_
  refine r_iload_n C dX9_act_5 rfl ?_
  refine r_iload_n C dX9_act_6 rfl ?_
  refine cV (ci := 5) C hx (sX5_begin (d := d - 1) (by omega) n a x I J b h50) moX5_begin mlX9_264 miX5_begin msX5_begin dX9_act_7 rfl rfl rfl rfl rfl (by omega) rfl rfl (ki (fun v_7_1 I_7_1 q_7_1 => ?_))
  have hq := q_7_1
  exact ri C Z dX9_act_10 hq
set_option maxRecDepth 100000 in
theorem sX9_trace {g : Gb} {d : Nat} (hd : 1 ≤ d) (i : Int32) (I : Is) (J : Js) (b : Bool) (hr : 0 ≤ (I 48 1).toInt) : MC9 g d mX9_trace [.ref 0, .int i] I J b (Qp (if 0 ≤ i.toInt ∧ i.toInt < (I 48 1).toInt ∧ i.toInt < 24 then I 50 (ix i) else -1) I J b) := by
  refine ent9 (own := RX9) rfl rfl rfl (fun X hg hx C Z => ?_)
  subst hg
  refine r_aload_n C dX9_trace_0 rfl ?_
  refine r_getR C flX9_63 dX9_trace_1 rfl rfl rfl ?_
  refine r_iload_n C dX9_trace_4 rfl ?_
  refine cV (ci := 5) C hx (sX5_traced (d := d - 1) (by omega) i I J b hr) moX5_traced mlX9_267 miX5_traced msX5_traced dX9_trace_5 rfl rfl rfl rfl rfl (by omega) rfl rfl (kp ?_)
  exact rp C Z dX9_trace_8 rfl
set_option maxRecDepth 100000 in
theorem sX9_undo {g : Gb} {d : Nat} (hd : 1 ≤ d) (I : Is) (J : Js) (b : Bool) (h4 : (I 44 1).toInt ≤ 40) (hp : 0 < (I 44 1).toInt → vp_in (I 45 (ix (I 44 1 - 1))) 28) : MC9 g d mX9_undo [.ref 0] I J b (Qi J b (fun v I' => v = (undF I).1 ∧ I' = (undF I).2)) := by
  refine ent9 (own := RX9) rfl rfl rfl (fun X hg hx C Z => ?_)
  subst hg
  refine r_aload_n C dX9_undo_0 rfl ?_
  refine r_getR C flX9_56 dX9_undo_1 rfl rfl rfl ?_
  refine r_aload_n C dX9_undo_4 rfl ?_
  refine r_getR C flX9_10 dX9_undo_5 rfl rfl rfl ?_
  refine r_getR C flX9_113 dX9_undo_8 rfl rfl rfl ?_
  refine cV (ci := 0) C hx (sX0_takeBack (d := d - 1) (by omega) I J b h4 hp) moX0_takeBack mlX9_249 miX0_takeBack msX0_takeBack dX9_undo_11 rfl rfl rfl rfl rfl (by omega) rfl rfl (ki (fun v_11_1 I_11_1 q_11_1 => ?_))
  have hq := q_11_1
  refine r_ifeq C (tgt := 27) dX9_undo_14 rfl (fun h14_2 => ?_) (fun h14_2 => ?_)
  · refine r_bipush C (v := -5) dX9_undo_27 (by decide) ?_
    exact ri C Z dX9_undo_29 (by
      unfold undF
      rcases hq with ⟨a, e, f⟩ | ⟨a, e, f⟩
      · rw [if_neg (by omega)]; exact ⟨rfl, f⟩
      · exact absurd (show (1 : Int32) = 0 from e.symm.trans (by assumption)) (by decide))
  · refine r_aload_n C dX9_undo_17 rfl ?_
    refine r_getR C flX9_56 dX9_undo_18 rfl rfl rfl ?_
    refine r_getI C flX9_253 dX9_undo_21 rfl rfl ?_
    refine r_goto C (tgt := 29) dX9_undo_24 rfl ?_
    exact ri C Z dX9_undo_29 (by
      unfold undF
      rcases hq with ⟨a, e, f⟩ | ⟨a, e, f⟩
      · exact absurd e (by assumption)
      · rw [if_pos a]; exact ⟨by rw [f, u2_row (t' := 44) (by decide), u2_same], f⟩)
set_option maxRecDepth 100000 in
theorem sX9_redo {g : Gb} {d : Nat} (hd : 1 ≤ d) (I : Is) (J : Js) (b : Bool) (h0 : 0 ≤ (I 44 1).toInt) (h4 : (I 44 0).toInt ≤ 40) (hp : (I 44 1).toInt < (I 44 0).toInt → vp_in (I 45 (ix (I 44 1))) 28) : MC9 g d mX9_redo [.ref 0] I J b (Qi J b (fun v I' => v = (redF I).1 ∧ I' = (redF I).2)) := by
  refine ent9 (own := RX9) rfl rfl rfl (fun X hg hx C Z => ?_)
  subst hg
  refine r_aload_n C dX9_redo_0 rfl ?_
  refine r_getR C flX9_56 dX9_redo_1 rfl rfl rfl ?_
  refine r_aload_n C dX9_redo_4 rfl ?_
  refine r_getR C flX9_10 dX9_redo_5 rfl rfl rfl ?_
  refine r_getR C flX9_113 dX9_redo_8 rfl rfl rfl ?_
  refine cV (ci := 0) C hx (sX0_doAgain (d := d - 1) (by omega) I J b h0 h4 hp) moX0_doAgain mlX9_256 miX0_doAgain msX0_doAgain dX9_redo_11 rfl rfl rfl rfl rfl (by omega) rfl rfl (ki (fun v_11_1 I_11_1 q_11_1 => ?_))
  have hq := q_11_1
  refine r_ifeq C (tgt := 35) dX9_redo_14 rfl (fun h14_2 => ?_) (fun h14_2 => ?_)
  · refine r_bipush C (v := -5) dX9_redo_35 (by decide) ?_
    exact ri C Z dX9_redo_37 (by
      unfold redF
      rcases hq with ⟨a, e, f⟩ | ⟨a, e, f⟩
      · rw [if_neg (by omega)]; exact ⟨rfl, f⟩
      · exact absurd (show (1 : Int32) = 0 from e.symm.trans (by assumption)) (by decide))
  · refine r_aload_n C dX9_redo_17 rfl ?_
    refine r_getR C flX9_56 dX9_redo_18 rfl rfl rfl ?_
    refine r_getI C flX9_259 dX9_redo_21 rfl rfl ?_
    refine r_aload_n C dX9_redo_24 rfl ?_
    refine r_getR C flX9_56 dX9_redo_25 rfl rfl rfl ?_
    refine r_getI C flX9_253 dX9_redo_28 rfl rfl ?_
    refine r_isub C dX9_redo_31 ?_
    refine r_goto C (tgt := 37) dX9_redo_32 rfl ?_
    exact ri C Z dX9_redo_37 (by
      unfold redF
      rcases hq with ⟨a, e, f⟩ | ⟨a, e, f⟩
      · exact absurd e (by assumption)
      · rw [if_pos a]; exact ⟨by rw [f, u2_same, u2_ne _ _ _ _ (Or.inr (by decide)), u2_row (t' := 44) (by decide)], f⟩)
