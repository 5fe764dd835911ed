/-- a code behind the text's codes -/
def addF (u : Nat) (I : Is) (op : Int32) : Is := if (I u 3).toInt < 120 then u2 (u2 I (u + 1) (ix (I u 3)) op) u 3 (I u 3 + 1) else I
/-- a part ends -/
def endF (u : Nat) (I : Is) (q : Int32) : Is := if (I u 4).toInt < 120 then u2 (u2 (u2 I (u + 2) (ix (I u 4)) (I u 3)) (u + 3) (ix (I u 4)) q) u 4 (I u 4 + 1) else I
def clrF (u : Nat) (I : Is) : Is := u2 (u2 I u 3 0) u 4 0
/-- the byte in front -/
def nxF (I : Is) : Int32 := if (I 3 3).toInt < (I 3 1).toInt then I 4 (ix (I 3 3)) else -1
def goP (I : Is) : Is := u2 I 3 3 (I 3 3 + 1)
/-- places within the tape and its text -/
def TP (u : Nat) (I : Is) : Prop := (0 ≤ (I 3 3).toInt ∧ (I 3 3).toInt ≤ (I 3 1).toInt ∧ (I 3 1).toInt ≤ 120) ∧ (0 ≤ (I u 3).toInt ∧ (I u 3).toInt ≤ 120) ∧ (0 ≤ (I u 4).toInt ∧ (I u 4).toInt ≤ 120)
abbrev dgF (s : Int32) : Prop := 48 ≤ s.toInt ∧ s.toInt ≤ 57
def nmgF (s : Int32) : Int32 := if s = 112 then 0 else if s = 119 then 1 else if s = 116 then 2 else if s = 108 then 3 else if s = 100 then 4 else if s = 107 then 5 else -1
def jgF (s r : Int32) : Int32 := if r = 0 then (if s = 124 then -18 else 0) else if r = 1 then (if s = 38 then -17 else 0) else if r = 2 then (if s = 60 then -14 else if s = 61 then -15 else if s = 62 then -16 else 0) else if r = 3 then (if s = 43 then -12 else if s = 45 then -13 else 0) else (if s = 42 then -9 else if s = 47 then -10 else if s = 37 then -11 else 0)
def nuF : Nat → Int32 → Is → Int32 × Is
  | 0, v, I => (v, I)
  | m + 1, v, I => if dgF (nxF I) then nuF m (v * 10 + nxF I - 48) (goP I) else (v, I)
def numF (u : Nat) (I : Is) : Is := addF u (nuF 4 0 I).2 (nuF 4 0 I).1
set_option maxRecDepth 100000 in
theorem sX7_clear_5 {g : Gb} {d : Nat} (hd : 0 ≤ d) (I : Is) (J : Js) (b : Bool) : MC9 g d mX7_clear [.ref 5] I J b (Qv J b (fun I' => I' = clrF 5 I)) := by
  refine ent9 (own := RX7) rfl rfl rfl (fun X hg hx C Z => ?_)
  subst hg
  refine r_aload_n C dX7_clear_0 rfl ?_
  refine r_iconst C (v := 0) dX7_clear_1 (by decide) ?_
  refine r_putI C flX7_22 dX7_clear_2 rfl rfl rfl rfl rfl ?_
  refine r_aload_n C dX7_clear_5 rfl ?_
  refine r_iconst C (v := 0) dX7_clear_6 (by decide) ?_
  refine r_putI C flX7_26 dX7_clear_7 rfl rfl rfl rfl rfl ?_
  exact rv C Z dX7_clear_10 rfl
set_option maxRecDepth 100000 in
theorem sX7_add_5 {g : Gb} {d : Nat} (hd : 0 ≤ d) (op : Int32) (I : Is) (J : Js) (b : Bool) (h0 : 0 ≤ (I 5 3).toInt) : MC9 g d mX7_add [.ref 5, .int op] I J b (Qv J b (fun I' => I' = addF 5 I op)) := by
  refine ent9 (own := RX7) rfl rfl rfl (fun X hg hx C Z => ?_)
  subst hg
  refine r_aload_n C dX7_add_0 rfl ?_
  refine r_getI C flX7_22 dX7_add_1 rfl rfl ?_
  refine r_aload_n C dX7_add_4 rfl ?_
  refine r_getR C flX7_9 dX7_add_5 rfl rfl rfl ?_
  refine r_alen C rfl dX7_add_8 ?_
  have e6 : (Int32.ofNat (ln 6)).toInt = 120 := (by rw [show ln 6 = 120 from rfl]; rfl)
  refine b_icge C (tgt := 32) rfl rfl dX7_add_9 rfl (fun h9_1 => ?_) (fun h9_1 => ?_)
  · exact rv C Z dX7_add_32 (by unfold addF; rw [if_neg (by omega)])
  · refine r_aload_n C dX7_add_12 rfl ?_
    refine r_getR C flX7_9 dX7_add_13 rfl rfl rfl ?_
    refine r_aload_n C dX7_add_16 rfl ?_
    refine r_getI C flX7_22 dX7_add_17 rfl rfl ?_
    refine r_iload_n C dX7_add_20 rfl ?_
    refine r_iast C rfl dX7_add_21 (vin h0 (show (I 5 3).toInt < 120 by omega)) ?_
    refine r_aload_n C dX7_add_22 rfl ?_
    refine r_dup C dX7_add_23 rfl ?_
    refine r_getI C flX7_22 dX7_add_24 rfl rfl ?_
    refine r_iconst C (v := 1) dX7_add_27 (by decide) ?_
    refine r_iadd C dX7_add_28 ?_
    refine r_putI C flX7_22 dX7_add_29 rfl rfl rfl rfl rfl ?_
    exact rv C Z dX7_add_32 (by unfold addF; rw [if_pos (by omega), u2_row (t' := 5) (by decide)])
set_option maxRecDepth 100000 in
theorem sX7_endPart_5_0 {g : Gb} {d : Nat} (hd : 0 ≤ d) (I : Is) (J : Js) (b : Bool) (h0 : 0 ≤ (I 5 4).toInt) : MC9 g d mX7_endPart [.ref 5, .int 0] I J b (Qv J b (fun I' => I' = endF 5 I 0)) := by
  refine ent9 (own := RX7) rfl rfl rfl (fun X hg hx C Z => ?_)
  subst hg
  refine r_aload_n C dX7_endPart_0 rfl ?_
  refine r_getI C flX7_26 dX7_endPart_1 rfl rfl ?_
  refine r_aload_n C dX7_endPart_4 rfl ?_
  refine r_getR C flX7_15 dX7_endPart_5 rfl rfl rfl ?_
  refine r_alen C rfl dX7_endPart_8 ?_
  have e6 : (Int32.ofNat (ln 7)).toInt = 120 := (by rw [show ln 7 = 120 from rfl]; rfl)
  refine b_icge C (tgt := 45) rfl rfl dX7_endPart_9 rfl (fun h9_1 => ?_) (fun h9_1 => ?_)
  · exact rv C Z dX7_endPart_45 (by unfold endF; rw [if_neg (by omega)])
  · refine r_aload_n C dX7_endPart_12 rfl ?_
    refine r_getR C flX7_15 dX7_endPart_13 rfl rfl rfl ?_
    refine r_aload_n C dX7_endPart_16 rfl ?_
    refine r_getI C flX7_26 dX7_endPart_17 rfl rfl ?_
    refine r_aload_n C dX7_endPart_20 rfl ?_
    refine r_getI C flX7_22 dX7_endPart_21 rfl rfl ?_
    refine r_iast C rfl dX7_endPart_24 (vin h0 (show (I 5 4).toInt < 120 by omega)) ?_
    refine r_aload_n C dX7_endPart_25 rfl ?_
    refine r_getR C flX7_18 dX7_endPart_26 rfl rfl rfl ?_
    refine r_aload_n C dX7_endPart_29 rfl ?_
    refine r_getI C flX7_26 dX7_endPart_30 rfl rfl ?_
    refine r_iload_n C dX7_endPart_33 rfl ?_
    refine r_zast C rfl dX7_endPart_34 (by rw [u2_row (t' := 5) (by decide)]; exact vin h0 (show (I 5 4).toInt < 120 by omega)) rfl ?_
    refine r_aload_n C dX7_endPart_35 rfl ?_
    refine r_dup C dX7_endPart_36 rfl ?_
    refine r_getI C flX7_26 dX7_endPart_37 rfl rfl ?_
    refine r_iconst C (v := 1) dX7_endPart_40 (by decide) ?_
    refine r_iadd C dX7_endPart_41 ?_
    refine r_putI C flX7_26 dX7_endPart_42 rfl rfl rfl rfl rfl ?_
    exact rv C Z dX7_endPart_45 (by unfold endF; rw [if_pos (by omega), u2_row (t' := 5) (by decide), u2_row (t' := 5) (by decide), u2_row (t' := 5) (by decide)])
set_option maxRecDepth 100000 in
theorem sX7_endPart_5_1 {g : Gb} {d : Nat} (hd : 0 ≤ d) (I : Is) (J : Js) (b : Bool) (h0 : 0 ≤ (I 5 4).toInt) : MC9 g d mX7_endPart [.ref 5, .int 1] I J b (Qv J b (fun I' => I' = endF 5 I 1)) := by
  refine ent9 (own := RX7) rfl rfl rfl (fun X hg hx C Z => ?_)
  subst hg
  refine r_aload_n C dX7_endPart_0 rfl ?_
  refine r_getI C flX7_26 dX7_endPart_1 rfl rfl ?_
  refine r_aload_n C dX7_endPart_4 rfl ?_
  refine r_getR C flX7_15 dX7_endPart_5 rfl rfl rfl ?_
  refine r_alen C rfl dX7_endPart_8 ?_
  have e6 : (Int32.ofNat (ln 7)).toInt = 120 := (by rw [show ln 7 = 120 from rfl]; rfl)
  refine b_icge C (tgt := 45) rfl rfl dX7_endPart_9 rfl (fun h9_1 => ?_) (fun h9_1 => ?_)
  · exact rv C Z dX7_endPart_45 (by unfold endF; rw [if_neg (by omega)])
  · refine r_aload_n C dX7_endPart_12 rfl ?_
    refine r_getR C flX7_15 dX7_endPart_13 rfl rfl rfl ?_
    refine r_aload_n C dX7_endPart_16 rfl ?_
    refine r_getI C flX7_26 dX7_endPart_17 rfl rfl ?_
    refine r_aload_n C dX7_endPart_20 rfl ?_
    refine r_getI C flX7_22 dX7_endPart_21 rfl rfl ?_
    refine r_iast C rfl dX7_endPart_24 (vin h0 (show (I 5 4).toInt < 120 by omega)) ?_
    refine r_aload_n C dX7_endPart_25 rfl ?_
    refine r_getR C flX7_18 dX7_endPart_26 rfl rfl rfl ?_
    refine r_aload_n C dX7_endPart_29 rfl ?_
    refine r_getI C flX7_26 dX7_endPart_30 rfl rfl ?_
    refine r_iload_n C dX7_endPart_33 rfl ?_
    refine r_zast C rfl dX7_endPart_34 (by rw [u2_row (t' := 5) (by decide)]; exact vin h0 (show (I 5 4).toInt < 120 by omega)) rfl ?_
    refine r_aload_n C dX7_endPart_35 rfl ?_
    refine r_dup C dX7_endPart_36 rfl ?_
    refine r_getI C flX7_26 dX7_endPart_37 rfl rfl ?_
    refine r_iconst C (v := 1) dX7_endPart_40 (by decide) ?_
    refine r_iadd C dX7_endPart_41 ?_
    refine r_putI C flX7_26 dX7_endPart_42 rfl rfl rfl rfl rfl ?_
    exact rv C Z dX7_endPart_45 (by unfold endF; rw [if_pos (by omega), u2_row (t' := 5) (by decide), u2_row (t' := 5) (by decide), u2_row (t' := 5) (by decide)])
set_option maxRecDepth 100000 in
theorem sX7_clear_10 {g : Gb} {d : Nat} (hd : 0 ≤ d) (I : Is) (J : Js) (b : Bool) : MC9 g d mX7_clear [.ref 10] I J b (Qv J b (fun I' => I' = clrF 10 I)) := by
  refine ent9 (own := RX7) rfl rfl rfl (fun X hg hx C Z => ?_)
  subst hg
  refine r_aload_n C dX7_clear_0 rfl ?_
  refine r_iconst C (v := 0) dX7_clear_1 (by decide) ?_
  refine r_putI C flX7_22 dX7_clear_2 rfl rfl rfl rfl rfl ?_
  refine r_aload_n C dX7_clear_5 rfl ?_
  refine r_iconst C (v := 0) dX7_clear_6 (by decide) ?_
  refine r_putI C flX7_26 dX7_clear_7 rfl rfl rfl rfl rfl ?_
  exact rv C Z dX7_clear_10 rfl
set_option maxRecDepth 100000 in
theorem sX7_add_10 {g : Gb} {d : Nat} (hd : 0 ≤ d) (op : Int32) (I : Is) (J : Js) (b : Bool) (h0 : 0 ≤ (I 10 3).toInt) : MC9 g d mX7_add [.ref 10, .int op] I J b (Qv J b (fun I' => I' = addF 10 I op)) := by
  refine ent9 (own := RX7) rfl rfl rfl (fun X hg hx C Z => ?_)
  subst hg
  refine r_aload_n C dX7_add_0 rfl ?_
  refine r_getI C flX7_22 dX7_add_1 rfl rfl ?_
  refine r_aload_n C dX7_add_4 rfl ?_
  refine r_getR C flX7_9 dX7_add_5 rfl rfl rfl ?_
  refine r_alen C rfl dX7_add_8 ?_
  have e6 : (Int32.ofNat (ln 11)).toInt = 120 := (by rw [show ln 11 = 120 from rfl]; rfl)
  refine b_icge C (tgt := 32) rfl rfl dX7_add_9 rfl (fun h9_1 => ?_) (fun h9_1 => ?_)
  · exact rv C Z dX7_add_32 (by unfold addF; rw [if_neg (by omega)])
  · refine r_aload_n C dX7_add_12 rfl ?_
    refine r_getR C flX7_9 dX7_add_13 rfl rfl rfl ?_
    refine r_aload_n C dX7_add_16 rfl ?_
    refine r_getI C flX7_22 dX7_add_17 rfl rfl ?_
    refine r_iload_n C dX7_add_20 rfl ?_
    refine r_iast C rfl dX7_add_21 (vin h0 (show (I 10 3).toInt < 120 by omega)) ?_
    refine r_aload_n C dX7_add_22 rfl ?_
    refine r_dup C dX7_add_23 rfl ?_
    refine r_getI C flX7_22 dX7_add_24 rfl rfl ?_
    refine r_iconst C (v := 1) dX7_add_27 (by decide) ?_
    refine r_iadd C dX7_add_28 ?_
    refine r_putI C flX7_22 dX7_add_29 rfl rfl rfl rfl rfl ?_
    exact rv C Z dX7_add_32 (by unfold addF; rw [if_pos (by omega), u2_row (t' := 10) (by decide)])
set_option maxRecDepth 100000 in
theorem sX7_endPart_10_0 {g : Gb} {d : Nat} (hd : 0 ≤ d) (I : Is) (J : Js) (b : Bool) (h0 : 0 ≤ (I 10 4).toInt) : MC9 g d mX7_endPart [.ref 10, .int 0] I J b (Qv J b (fun I' => I' = endF 10 I 0)) := by
  refine ent9 (own := RX7) rfl rfl rfl (fun X hg hx C Z => ?_)
  subst hg
  refine r_aload_n C dX7_endPart_0 rfl ?_
  refine r_getI C flX7_26 dX7_endPart_1 rfl rfl ?_
  refine r_aload_n C dX7_endPart_4 rfl ?_
  refine r_getR C flX7_15 dX7_endPart_5 rfl rfl rfl ?_
  refine r_alen C rfl dX7_endPart_8 ?_
  have e6 : (Int32.ofNat (ln 12)).toInt = 120 := (by rw [show ln 12 = 120 from rfl]; rfl)
  refine b_icge C (tgt := 45) rfl rfl dX7_endPart_9 rfl (fun h9_1 => ?_) (fun h9_1 => ?_)
  · exact rv C Z dX7_endPart_45 (by unfold endF; rw [if_neg (by omega)])
  · refine r_aload_n C dX7_endPart_12 rfl ?_
    refine r_getR C flX7_15 dX7_endPart_13 rfl rfl rfl ?_
    refine r_aload_n C dX7_endPart_16 rfl ?_
    refine r_getI C flX7_26 dX7_endPart_17 rfl rfl ?_
    refine r_aload_n C dX7_endPart_20 rfl ?_
    refine r_getI C flX7_22 dX7_endPart_21 rfl rfl ?_
    refine r_iast C rfl dX7_endPart_24 (vin h0 (show (I 10 4).toInt < 120 by omega)) ?_
    refine r_aload_n C dX7_endPart_25 rfl ?_
    refine r_getR C flX7_18 dX7_endPart_26 rfl rfl rfl ?_
    refine r_aload_n C dX7_endPart_29 rfl ?_
    refine r_getI C flX7_26 dX7_endPart_30 rfl rfl ?_
    refine r_iload_n C dX7_endPart_33 rfl ?_
    refine r_zast C rfl dX7_endPart_34 (by rw [u2_row (t' := 10) (by decide)]; exact vin h0 (show (I 10 4).toInt < 120 by omega)) rfl ?_
    refine r_aload_n C dX7_endPart_35 rfl ?_
    refine r_dup C dX7_endPart_36 rfl ?_
    refine r_getI C flX7_26 dX7_endPart_37 rfl rfl ?_
    refine r_iconst C (v := 1) dX7_endPart_40 (by decide) ?_
    refine r_iadd C dX7_endPart_41 ?_
    refine r_putI C flX7_26 dX7_endPart_42 rfl rfl rfl rfl rfl ?_
    exact rv C Z dX7_endPart_45 (by unfold endF; rw [if_pos (by omega), u2_row (t' := 10) (by decide), u2_row (t' := 10) (by decide), u2_row (t' := 10) (by decide)])
set_option maxRecDepth 100000 in
theorem sX7_endPart_10_1 {g : Gb} {d : Nat} (hd : 0 ≤ d) (I : Is) (J : Js) (b : Bool) (h0 : 0 ≤ (I 10 4).toInt) : MC9 g d mX7_endPart [.ref 10, .int 1] I J b (Qv J b (fun I' => I' = endF 10 I 1)) := by
  refine ent9 (own := RX7) rfl rfl rfl (fun X hg hx C Z => ?_)
  subst hg
  refine r_aload_n C dX7_endPart_0 rfl ?_
  refine r_getI C flX7_26 dX7_endPart_1 rfl rfl ?_
  refine r_aload_n C dX7_endPart_4 rfl ?_
  refine r_getR C flX7_15 dX7_endPart_5 rfl rfl rfl ?_
  refine r_alen C rfl dX7_endPart_8 ?_
  have e6 : (Int32.ofNat (ln 12)).toInt = 120 := (by rw [show ln 12 = 120 from rfl]; rfl)
  refine b_icge C (tgt := 45) rfl rfl dX7_endPart_9 rfl (fun h9_1 => ?_) (fun h9_1 => ?_)
  · exact rv C Z dX7_endPart_45 (by unfold endF; rw [if_neg (by omega)])
  · refine r_aload_n C dX7_endPart_12 rfl ?_
    refine r_getR C flX7_15 dX7_endPart_13 rfl rfl rfl ?_
    refine r_aload_n C dX7_endPart_16 rfl ?_
    refine r_getI C flX7_26 dX7_endPart_17 rfl rfl ?_
    refine r_aload_n C dX7_endPart_20 rfl ?_
    refine r_getI C flX7_22 dX7_endPart_21 rfl rfl ?_
    refine r_iast C rfl dX7_endPart_24 (vin h0 (show (I 10 4).toInt < 120 by omega)) ?_
    refine r_aload_n C dX7_endPart_25 rfl ?_
    refine r_getR C flX7_18 dX7_endPart_26 rfl rfl rfl ?_
    refine r_aload_n C dX7_endPart_29 rfl ?_
    refine r_getI C flX7_26 dX7_endPart_30 rfl rfl ?_
    refine r_iload_n C dX7_endPart_33 rfl ?_
    refine r_zast C rfl dX7_endPart_34 (by rw [u2_row (t' := 10) (by decide)]; exact vin h0 (show (I 10 4).toInt < 120 by omega)) rfl ?_
    refine r_aload_n C dX7_endPart_35 rfl ?_
    refine r_dup C dX7_endPart_36 rfl ?_
    refine r_getI C flX7_26 dX7_endPart_37 rfl rfl ?_
    refine r_iconst C (v := 1) dX7_endPart_40 (by decide) ?_
    refine r_iadd C dX7_endPart_41 ?_
    refine r_putI C flX7_26 dX7_endPart_42 rfl rfl rfl rfl rfl ?_
    exact rv C Z dX7_endPart_45 (by unfold endF; rw [if_pos (by omega), u2_row (t' := 10) (by decide), u2_row (t' := 10) (by decide), u2_row (t' := 10) (by decide)])
set_option maxRecDepth 100000 in
theorem sX6_add {g : Gb} {d : Nat} (hd : 0 ≤ d) (c : Int32) (I : Is) (J : Js) (b : Bool) (h0 : 0 ≤ (I 3 1).toInt) : MC9 g d mX6_add [.ref 3, .int c] I J b (Qi J b (fun v I' => (120 ≤ (I 3 1).toInt ∧ v = 0 ∧ I' = I) ∨ ((I 3 1).toInt < 120 ∧ v = 1 ∧ I' = u2 (u2 I 4 (ix (I 3 1)) c) 3 1 (I 3 1 + 1)))) := by
  refine ent9 (own := RX6) rfl rfl rfl (fun X hg hx C Z => ?_)
  subst hg
  refine r_aload_n C dX6_add_0 rfl ?_
  refine r_getI C flX6_20 dX6_add_1 rfl rfl ?_
  refine r_bipush C (v := 120) dX6_add_4 (by decide) ?_
  refine b_iclt C (tgt := 11) (my := 120) rfl rfl dX6_add_6 rfl (fun h6_1 => ?_) (fun h6_1 => ?_)
  · refine r_aload_n C dX6_add_11 rfl ?_
    refine r_getR C flX6_9 dX6_add_12 rfl rfl rfl ?_
    refine r_aload_n C dX6_add_15 rfl ?_
    refine r_getI C flX6_20 dX6_add_16 rfl rfl ?_
    refine r_iload_n C dX6_add_19 rfl ?_
    refine r_iast C rfl dX6_add_20 (vin h0 (by assumption)) ?_
    refine r_aload_n C dX6_add_21 rfl ?_
    refine r_dup C dX6_add_22 rfl ?_
    refine r_getI C flX6_20 dX6_add_23 rfl rfl ?_
    refine r_iconst C (v := 1) dX6_add_26 (by decide) ?_
    refine r_iadd C dX6_add_27 ?_
    refine r_putI C flX6_20 dX6_add_28 rfl rfl rfl rfl rfl ?_
    refine r_iconst C (v := 1) dX6_add_31 (by decide) ?_
    exact riz C Z dX6_add_32 rfl (Or.inr ⟨by assumption, rfl, by rw [u2_row (t' := 3) (by decide)]⟩)
  · refine r_iconst C (v := 0) dX6_add_9 (by decide) ?_
    exact riz C Z dX6_add_10 rfl (Or.inl ⟨by assumption, rfl, rfl⟩)
set_option maxRecDepth 100000 in
theorem sX6_next {g : Gb} {d : Nat} (hd : 0 ≤ d) (I : Is) (J : Js) (b : Bool) (h0 : 0 ≤ (I 3 3).toInt) (h1 : (I 3 1).toInt ≤ 120) : MC9 g d mX6_next [.ref 3] I J b (Qp (nxF I) I J b) := by
  refine ent9 (own := RX6) rfl rfl rfl (fun X hg hx C Z => ?_)
  subst hg
  refine r_aload_n C dX6_next_0 rfl ?_
  refine r_getI C flX6_24 dX6_next_1 rfl rfl ?_
  refine r_aload_n C dX6_next_4 rfl ?_
  refine r_getI C flX6_20 dX6_next_5 rfl rfl ?_
  refine b_icge C (tgt := 23) rfl rfl dX6_next_8 rfl (fun h8_1 => ?_) (fun h8_1 => ?_)
  · refine r_iconst C (v := -1) dX6_next_23 (by decide) ?_
    exact rp C Z dX6_next_24 (if_neg (by omega)).symm
  · refine r_aload_n C dX6_next_11 rfl ?_
    refine r_getR C flX6_9 dX6_next_12 rfl rfl rfl ?_
    refine r_aload_n C dX6_next_15 rfl ?_
    refine r_getI C flX6_24 dX6_next_16 rfl rfl ?_
    refine r_iald C rfl dX6_next_19 (vin h0 (show (I 3 3).toInt < 120 by omega)) ?_
    refine r_goto C (tgt := 24) dX6_next_20 rfl ?_
    exact rp C Z dX6_next_24 (if_pos (by assumption)).symm
set_option maxRecDepth 100000 in
theorem sX6_isDigit {g : Gb} {d : Nat} (hd : 0 ≤ d) (s : Int32) (I : Is) (J : Js) (b : Bool) : MC9 g d mX6_isDigit [.int s] I J b (Qp (bI (dgF s)) I J b) := by
  refine ent9 (own := RX6) rfl rfl rfl (fun X hg hx C Z => ?_)
  subst hg
  refine r_iload_n C dX6_isDigit_0 rfl ?_
  refine r_bipush C (v := 48) dX6_isDigit_1 (by decide) ?_
  refine b_iclt C (tgt := 16) (my := 48) rfl rfl dX6_isDigit_3 rfl (fun h3_1 => ?_) (fun h3_1 => ?_)
  · refine r_iconst C (v := 0) dX6_isDigit_16 (by decide) ?_
    exact rpz C Z dX6_isDigit_17 rfl (bI_f (fun z : _ ∧ _ => by have := z.1; omega)).symm
  · refine r_iload_n C dX6_isDigit_6 rfl ?_
    refine r_bipush C (v := 57) dX6_isDigit_7 (by decide) ?_
    refine b_icgt C (tgt := 16) (my := 57) rfl rfl dX6_isDigit_9 rfl (fun h9_2 => ?_) (fun h9_2 => ?_)
    · refine r_iconst C (v := 0) dX6_isDigit_16 (by decide) ?_
      exact rpz C Z dX6_isDigit_17 rfl (bI_f (fun z : _ ∧ _ => by have := z.2; omega)).symm
    · refine r_iconst C (v := 1) dX6_isDigit_12 (by decide) ?_
      refine r_goto C (tgt := 17) dX6_isDigit_13 rfl ?_
      exact rpz C Z dX6_isDigit_17 rfl (bI_t (show _ ∧ _ from ⟨by omega, by omega⟩)).symm
set_option maxRecDepth 100000 in
theorem sX6_naming {g : Gb} {d : Nat} (hd : 0 ≤ d) (s : Int32) (I : Is) (J : Js) (b : Bool) : MC9 g d mX6_naming [.int s] I J b (Qp (nmgF s) I J b) := by
  refine ent9 (own := RX6) rfl rfl rfl (fun X hg hx C Z => ?_)
  subst hg
  refine r_iload_n C dX6_naming_0 rfl ?_
  by_cases c100 : s = 100
  · subst c100
    refine r_tabIn C (tgt := 104) dX6_naming_1 (by decide) (by decide) rfl rfl ?_
    refine r_iconst C (v := 4) dX6_naming_104 (by decide) ?_
    exact rp C Z dX6_naming_105 (by decide)
  have n100 := ne_int c100
  have m100 : (100 : Int32).toInt = 100 := rfl
  by_cases c101 : s = 101
  · subst c101
    refine r_tabIn C (tgt := 108) dX6_naming_1 (by decide) (by decide) rfl rfl ?_
    refine r_iconst C (v := -1) dX6_naming_108 (by decide) ?_
    exact rp C Z dX6_naming_109 (by decide)
  have n101 := ne_int c101
  have m101 : (101 : Int32).toInt = 101 := rfl
  by_cases c102 : s = 102
  · subst c102
    refine r_tabIn C (tgt := 108) dX6_naming_1 (by decide) (by decide) rfl rfl ?_
    refine r_iconst C (v := -1) dX6_naming_108 (by decide) ?_
    exact rp C Z dX6_naming_109 (by decide)
  have n102 := ne_int c102
  have m102 : (102 : Int32).toInt = 102 := rfl
  by_cases c103 : s = 103
  · subst c103
    refine r_tabIn C (tgt := 108) dX6_naming_1 (by decide) (by decide) rfl rfl ?_
    refine r_iconst C (v := -1) dX6_naming_108 (by decide) ?_
    exact rp C Z dX6_naming_109 (by decide)
  have n103 := ne_int c103
  have m103 : (103 : Int32).toInt = 103 := rfl
  by_cases c104 : s = 104
  · subst c104
    refine r_tabIn C (tgt := 108) dX6_naming_1 (by decide) (by decide) rfl rfl ?_
    refine r_iconst C (v := -1) dX6_naming_108 (by decide) ?_
    exact rp C Z dX6_naming_109 (by decide)
  have n104 := ne_int c104
  have m104 : (104 : Int32).toInt = 104 := rfl
  by_cases c105 : s = 105
  · subst c105
    refine r_tabIn C (tgt := 108) dX6_naming_1 (by decide) (by decide) rfl rfl ?_
    refine r_iconst C (v := -1) dX6_naming_108 (by decide) ?_
    exact rp C Z dX6_naming_109 (by decide)
  have n105 := ne_int c105
  have m105 : (105 : Int32).toInt = 105 := rfl
  by_cases c106 : s = 106
  · subst c106
    refine r_tabIn C (tgt := 108) dX6_naming_1 (by decide) (by decide) rfl rfl ?_
    refine r_iconst C (v := -1) dX6_naming_108 (by decide) ?_
    exact rp C Z dX6_naming_109 (by decide)
  have n106 := ne_int c106
  have m106 : (106 : Int32).toInt = 106 := rfl
  by_cases c107 : s = 107
  · subst c107
    refine r_tabIn C (tgt := 106) dX6_naming_1 (by decide) (by decide) rfl rfl ?_
    refine r_iconst C (v := 5) dX6_naming_106 (by decide) ?_
    exact rp C Z dX6_naming_107 (by decide)
  have n107 := ne_int c107
  have m107 : (107 : Int32).toInt = 107 := rfl
  by_cases c108 : s = 108
  · subst c108
    refine r_tabIn C (tgt := 102) dX6_naming_1 (by decide) (by decide) rfl rfl ?_
    refine r_iconst C (v := 3) dX6_naming_102 (by decide) ?_
    exact rp C Z dX6_naming_103 (by decide)
  have n108 := ne_int c108
  have m108 : (108 : Int32).toInt = 108 := rfl
  by_cases c109 : s = 109
  · subst c109
    refine r_tabIn C (tgt := 108) dX6_naming_1 (by decide) (by decide) rfl rfl ?_
    refine r_iconst C (v := -1) dX6_naming_108 (by decide) ?_
    exact rp C Z dX6_naming_109 (by decide)
  have n109 := ne_int c109
  have m109 : (109 : Int32).toInt = 109 := rfl
  by_cases c110 : s = 110
  · subst c110
    refine r_tabIn C (tgt := 108) dX6_naming_1 (by decide) (by decide) rfl rfl ?_
    refine r_iconst C (v := -1) dX6_naming_108 (by decide) ?_
    exact rp C Z dX6_naming_109 (by decide)
  have n110 := ne_int c110
  have m110 : (110 : Int32).toInt = 110 := rfl
  by_cases c111 : s = 111
  · subst c111
    refine r_tabIn C (tgt := 108) dX6_naming_1 (by decide) (by decide) rfl rfl ?_
    refine r_iconst C (v := -1) dX6_naming_108 (by decide) ?_
    exact rp C Z dX6_naming_109 (by decide)
  have n111 := ne_int c111
  have m111 : (111 : Int32).toInt = 111 := rfl
  by_cases c112 : s = 112
  · subst c112
    refine r_tabIn C (tgt := 96) dX6_naming_1 (by decide) (by decide) rfl rfl ?_
    refine r_iconst C (v := 0) dX6_naming_96 (by decide) ?_
    exact rp C Z dX6_naming_97 (by decide)
  have n112 := ne_int c112
  have m112 : (112 : Int32).toInt = 112 := rfl
  by_cases c113 : s = 113
  · subst c113
    refine r_tabIn C (tgt := 108) dX6_naming_1 (by decide) (by decide) rfl rfl ?_
    refine r_iconst C (v := -1) dX6_naming_108 (by decide) ?_
    exact rp C Z dX6_naming_109 (by decide)
  have n113 := ne_int c113
  have m113 : (113 : Int32).toInt = 113 := rfl
  by_cases c114 : s = 114
  · subst c114
    refine r_tabIn C (tgt := 108) dX6_naming_1 (by decide) (by decide) rfl rfl ?_
    refine r_iconst C (v := -1) dX6_naming_108 (by decide) ?_
    exact rp C Z dX6_naming_109 (by decide)
  have n114 := ne_int c114
  have m114 : (114 : Int32).toInt = 114 := rfl
  by_cases c115 : s = 115
  · subst c115
    refine r_tabIn C (tgt := 108) dX6_naming_1 (by decide) (by decide) rfl rfl ?_
    refine r_iconst C (v := -1) dX6_naming_108 (by decide) ?_
    exact rp C Z dX6_naming_109 (by decide)
  have n115 := ne_int c115
  have m115 : (115 : Int32).toInt = 115 := rfl
  by_cases c116 : s = 116
  · subst c116
    refine r_tabIn C (tgt := 100) dX6_naming_1 (by decide) (by decide) rfl rfl ?_
    refine r_iconst C (v := 2) dX6_naming_100 (by decide) ?_
    exact rp C Z dX6_naming_101 (by decide)
  have n116 := ne_int c116
  have m116 : (116 : Int32).toInt = 116 := rfl
  by_cases c117 : s = 117
  · subst c117
    refine r_tabIn C (tgt := 108) dX6_naming_1 (by decide) (by decide) rfl rfl ?_
    refine r_iconst C (v := -1) dX6_naming_108 (by decide) ?_
    exact rp C Z dX6_naming_109 (by decide)
  have n117 := ne_int c117
  have m117 : (117 : Int32).toInt = 117 := rfl
  by_cases c118 : s = 118
  · subst c118
    refine r_tabIn C (tgt := 108) dX6_naming_1 (by decide) (by decide) rfl rfl ?_
    refine r_iconst C (v := -1) dX6_naming_108 (by decide) ?_
    exact rp C Z dX6_naming_109 (by decide)
  have n118 := ne_int c118
  have m118 : (118 : Int32).toInt = 118 := rfl
  by_cases c119 : s = 119
  · subst c119
    refine r_tabIn C (tgt := 98) dX6_naming_1 (by decide) (by decide) rfl rfl ?_
    refine r_iconst C (v := 1) dX6_naming_98 (by decide) ?_
    exact rp C Z dX6_naming_99 (by decide)
  have n119 := ne_int c119
  have m119 : (119 : Int32).toInt = 119 := rfl
  refine r_tabOut C (tgt := 108) dX6_naming_1 (by omega) rfl ?_
  refine r_iconst C (v := -1) dX6_naming_108 (by decide) ?_
  exact rp C Z dX6_naming_109 (by unfold nmgF; rw [if_neg c112, if_neg c119, if_neg c116, if_neg c108, if_neg c100, if_neg c107])
set_option maxRecDepth 100000 in
theorem sX6_joining {g : Gb} {d : Nat} (hd : 0 ≤ d) (s r : Int32) (I : Is) (J : Js) (b : Bool) : MC9 g d mX6_joining [.int s, .int r] I J b (Qp (jgF s r) I J b) := by
  refine ent9 (own := RX6) rfl rfl rfl (fun X hg hx C Z => ?_)
  subst hg
  refine r_iload_n C dX6_joining_0 rfl ?_
  by_cases c0 : r = 0
  · subst c0
    refine r_tabIn C (tgt := 32) dX6_joining_1 (by decide) (by decide) rfl rfl ?_
    refine r_iload_n C dX6_joining_32 rfl ?_
    refine r_bipush C (v := 124) dX6_joining_33 (by decide) ?_
    refine r_icne C (tgt := 43) dX6_joining_35 rfl (fun h35_1 => ?_) (fun h35_1 => ?_)
    · refine r_iconst C (v := 0) dX6_joining_43 (by decide) ?_
      exact rp C Z dX6_joining_44 ((if_pos rfl).trans (if_neg (by assumption))).symm
    · refine r_bipush C (v := -18) dX6_joining_38 (by decide) ?_
      refine r_goto C (tgt := 44) dX6_joining_40 rfl ?_
      exact rp C Z dX6_joining_44 ((if_pos rfl).trans (if_pos (by assumption))).symm
  have n0 := ne_int c0
  have m0 : (0 : Int32).toInt = 0 := rfl
  by_cases c1 : r = 1
  · subst c1
    refine r_tabIn C (tgt := 45) dX6_joining_1 (by decide) (by decide) rfl rfl ?_
    refine r_iload_n C dX6_joining_45 rfl ?_
    refine r_bipush C (v := 38) dX6_joining_46 (by decide) ?_
    refine r_icne C (tgt := 56) dX6_joining_48 rfl (fun h48_2 => ?_) (fun h48_2 => ?_)
    · refine r_iconst C (v := 0) dX6_joining_56 (by decide) ?_
      exact rp C Z dX6_joining_57 (((if_neg (by decide)).trans (if_pos rfl)).trans (if_neg (by assumption))).symm
    · refine r_bipush C (v := -17) dX6_joining_51 (by decide) ?_
      refine r_goto C (tgt := 57) dX6_joining_53 rfl ?_
      exact rp C Z dX6_joining_57 (((if_neg (by decide)).trans (if_pos rfl)).trans (if_pos (by assumption))).symm
  have n1 := ne_int c1
  have m1 : (1 : Int32).toInt = 1 := rfl
  by_cases c2 : r = 2
  · subst c2
    refine r_tabIn C (tgt := 58) dX6_joining_1 (by decide) (by decide) rfl rfl ?_
    refine r_iload_n C dX6_joining_58 rfl ?_
    refine r_bipush C (v := 60) dX6_joining_59 (by decide) ?_
    refine r_icne C (tgt := 69) dX6_joining_61 rfl (fun h61_3 => ?_) (fun h61_3 => ?_)
    · refine r_iload_n C dX6_joining_69 rfl ?_
      refine r_bipush C (v := 61) dX6_joining_70 (by decide) ?_
      refine r_icne C (tgt := 80) dX6_joining_72 rfl (fun h72_4 => ?_) (fun h72_4 => ?_)
      · refine r_iload_n C dX6_joining_80 rfl ?_
        refine r_bipush C (v := 62) dX6_joining_81 (by decide) ?_
        refine r_icne C (tgt := 91) dX6_joining_83 rfl (fun h83_5 => ?_) (fun h83_5 => ?_)
        · refine r_iconst C (v := 0) dX6_joining_91 (by decide) ?_
          exact rp C Z dX6_joining_92 (((if_neg (by decide)).trans ((if_neg (by decide)).trans (if_pos rfl))).trans ((if_neg (by assumption)).trans ((if_neg (by assumption)).trans (if_neg (by assumption))))).symm
        · refine r_bipush C (v := -16) dX6_joining_86 (by decide) ?_
          refine r_goto C (tgt := 92) dX6_joining_88 rfl ?_
          exact rp C Z dX6_joining_92 (((if_neg (by decide)).trans ((if_neg (by decide)).trans (if_pos rfl))).trans ((if_neg (by assumption)).trans ((if_neg (by assumption)).trans (if_pos (by assumption))))).symm
      · refine r_bipush C (v := -15) dX6_joining_75 (by decide) ?_
        refine r_goto C (tgt := 92) dX6_joining_77 rfl ?_
        exact rp C Z dX6_joining_92 (((if_neg (by decide)).trans ((if_neg (by decide)).trans (if_pos rfl))).trans ((if_neg (by assumption)).trans (if_pos (by assumption)))).symm
    · refine r_bipush C (v := -14) dX6_joining_64 (by decide) ?_
      refine r_goto C (tgt := 92) dX6_joining_66 rfl ?_
      exact rp C Z dX6_joining_92 (((if_neg (by decide)).trans ((if_neg (by decide)).trans (if_pos rfl))).trans (if_pos (by assumption))).symm
  have n2 := ne_int c2
  have m2 : (2 : Int32).toInt = 2 := rfl
  by_cases c3 : r = 3
  · subst c3
    refine r_tabIn C (tgt := 93) dX6_joining_1 (by decide) (by decide) rfl rfl ?_
    refine r_iload_n C dX6_joining_93 rfl ?_
    refine r_bipush C (v := 43) dX6_joining_94 (by decide) ?_
    refine r_icne C (tgt := 104) dX6_joining_96 rfl (fun h96_6 => ?_) (fun h96_6 => ?_)
    · refine r_iload_n C dX6_joining_104 rfl ?_
      refine r_bipush C (v := 45) dX6_joining_105 (by decide) ?_
      refine r_icne C (tgt := 115) dX6_joining_107 rfl (fun h107_7 => ?_) (fun h107_7 => ?_)
      · refine r_iconst C (v := 0) dX6_joining_115 (by decide) ?_
        exact rp C Z dX6_joining_116 (((if_neg (by decide)).trans ((if_neg (by decide)).trans ((if_neg (by decide)).trans (if_pos rfl)))).trans ((if_neg (by assumption)).trans (if_neg (by assumption)))).symm
      · refine r_bipush C (v := -13) dX6_joining_110 (by decide) ?_
        refine r_goto C (tgt := 116) dX6_joining_112 rfl ?_
        exact rp C Z dX6_joining_116 (((if_neg (by decide)).trans ((if_neg (by decide)).trans ((if_neg (by decide)).trans (if_pos rfl)))).trans ((if_neg (by assumption)).trans (if_pos (by assumption)))).symm
    · refine r_bipush C (v := -12) dX6_joining_99 (by decide) ?_
      refine r_goto C (tgt := 116) dX6_joining_101 rfl ?_
      exact rp C Z dX6_joining_116 (((if_neg (by decide)).trans ((if_neg (by decide)).trans ((if_neg (by decide)).trans (if_pos rfl)))).trans (if_pos (by assumption))).symm
  have n3 := ne_int c3
  have m3 : (3 : Int32).toInt = 3 := rfl
  refine r_tabOut C (tgt := 117) dX6_joining_1 (by omega) rfl ?_
  refine r_iload_n C dX6_joining_117 rfl ?_
  refine r_bipush C (v := 42) dX6_joining_118 (by decide) ?_
  refine r_icne C (tgt := 128) dX6_joining_120 rfl (fun h120_8 => ?_) (fun h120_8 => ?_)
  · refine r_iload_n C dX6_joining_128 rfl ?_
    refine r_bipush C (v := 47) dX6_joining_129 (by decide) ?_
    refine r_icne C (tgt := 139) dX6_joining_131 rfl (fun h131_9 => ?_) (fun h131_9 => ?_)
    · refine r_iload_n C dX6_joining_139 rfl ?_
      refine r_bipush C (v := 37) dX6_joining_140 (by decide) ?_
      refine r_icne C (tgt := 150) dX6_joining_142 rfl (fun h142_10 => ?_) (fun h142_10 => ?_)
      · refine r_iconst C (v := 0) dX6_joining_150 (by decide) ?_
        exact rp C Z dX6_joining_151 (((if_neg c0).trans ((if_neg c1).trans ((if_neg c2).trans (if_neg c3)))).trans ((if_neg (by assumption)).trans ((if_neg (by assumption)).trans (if_neg (by assumption))))).symm
      · refine r_bipush C (v := -11) dX6_joining_145 (by decide) ?_
        refine r_goto C (tgt := 151) dX6_joining_147 rfl ?_
        exact rp C Z dX6_joining_151 (((if_neg c0).trans ((if_neg c1).trans ((if_neg c2).trans (if_neg c3)))).trans ((if_neg (by assumption)).trans ((if_neg (by assumption)).trans (if_pos (by assumption))))).symm
    · refine r_bipush C (v := -10) dX6_joining_134 (by decide) ?_
      refine r_goto C (tgt := 151) dX6_joining_136 rfl ?_
      exact rp C Z dX6_joining_151 (((if_neg c0).trans ((if_neg c1).trans ((if_neg c2).trans (if_neg c3)))).trans ((if_neg (by assumption)).trans (if_pos (by assumption)))).symm
  · refine r_bipush C (v := -9) dX6_joining_123 (by decide) ?_
    refine r_goto C (tgt := 151) dX6_joining_125 rfl ?_
    exact rp C Z dX6_joining_151 (((if_neg c0).trans ((if_neg c1).trans ((if_neg c2).trans (if_neg c3)))).trans (if_pos (by assumption))).symm
set_option maxRecDepth 100000 in
theorem sX6_passes {g : Gb} {d : Nat} (hd : 1 ≤ d) (sg : Int32) (I : Is) (J : Js) (b : Bool) (h0 : 0 ≤ (I 3 3).toInt) (h1 : (I 3 1).toInt ≤ 120) : MC9 g d mX6_passes [.ref 3, .int sg] I J b (Qi J b (fun v I' => v = bI (nxF I = sg) ∧ I' = if nxF I = sg then goP I else I)) := by
  refine ent9 (own := RX6) rfl rfl rfl (fun X hg hx C Z => ?_)
  subst hg
  refine r_aload_n C dX6_passes_0 rfl ?_
  refine cV (ci := 6) C hx (sX6_next (d := d - 1) (by omega) I J b h0 h1) moX6_next mlX6_38 miX6_next msX6_next dX6_passes_1 rfl rfl rfl rfl rfl (by omega) rfl rfl (kp ?_)
  refine r_iload_n C dX6_passes_4 rfl ?_
  refine r_iceq C (tgt := 10) dX6_passes_5 rfl (fun h5_2 => ?_) (fun h5_2 => ?_)
  · refine r_aload_n C dX6_passes_10 rfl ?_
    refine r_dup C dX6_passes_11 rfl ?_
    refine r_getI C flX6_24 dX6_passes_12 rfl rfl ?_
    refine r_iconst C (v := 1) dX6_passes_15 (by decide) ?_
    refine r_iadd C dX6_passes_16 ?_
    refine r_putI C flX6_24 dX6_passes_17 rfl rfl rfl rfl rfl ?_
    refine r_iconst C (v := 1) dX6_passes_20 (by decide) ?_
    exact riz C Z dX6_passes_21 rfl ⟨(bI_t (by assumption)).symm, (if_pos (by assumption)).symm⟩
  · refine r_iconst C (v := 0) dX6_passes_8 (by decide) ?_
    exact riz C Z dX6_passes_9 rfl ⟨(bI_f (by assumption)).symm, (if_neg (by assumption)).symm⟩
