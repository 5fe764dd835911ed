theorem RR_sw (b : Bool) (r s : Nat) (hr : r = if b then 5 else 10) (hs : s = if b then 10 else 5) : u2 (u2 (RR b) 3 2 (some r)) 9 0 (some s) = RR (!b) := by
  subst hr
  subst hs
  funext t k
  by_cases h9 : t = 9
  · subst h9
    by_cases h0 : k = 0
    · subst h0
      cases b <;> rfl
    · rw [u2_ne _ _ _ _ (Or.inr h0), u2_ne _ _ _ _ (Or.inl (by decide))]
      show (if (9 : Nat) = 3 then _ else _) = (if (9 : Nat) = 3 then _ else _)
      rw [if_neg (by decide), if_pos rfl, if_neg h0, if_neg (by decide), if_pos rfl, if_neg h0]
  · rw [u2_ne _ _ _ _ (Or.inl h9)]
    by_cases h3 : t = 3
    · subst h3
      by_cases h2 : k = 2
      · subst h2
        cases b <;> rfl
      · rw [u2_ne _ _ _ _ (Or.inr h2)]
        show (if (3 : Nat) = 3 then _ else _) = (if (3 : Nat) = 3 then _ else _)
        rw [if_pos rfl, if_pos rfl, if_neg h2, if_neg h2]
    · rw [u2_ne _ _ _ _ (Or.inl h3)]
      show (if t = 3 then _ else _) = (if t = 3 then _ else _)
      rw [if_neg h3, if_neg h3, if_neg h9, if_neg h9]
/-- what reading the tape leaves -/
def lawF (u : Nat) (I : Is) : Int32 × Is := rdF u 121 (clrF u (u2 I 3 3 0))
set_option maxRecDepth 100000 in
theorem sX9_law_5 {g : Gb} {d : Nat} (hd : 60 ≤ d) (I : Is) (J : Js) (hL : 0 ≤ (I 3 1).toInt ∧ (I 3 1).toInt ≤ 120) : MC9 g d mX9_law [.ref 0] I J false (Qg (fun r I' J' b' => J' = J ∧ I' = u2 (lawF 5 I).2 3 1 0 ∧ TP 5 (lawF 5 I).2 ∧ ((0 ≤ (lawF 5 I).1.toInt ∧ r = some (.int (-100 - (lawF 5 I).1)) ∧ b' = false) ∨ ((lawF 5 I).1.toInt < 0 ∧ r = some (.int 1) ∧ b' = true)))) := by
  refine ent9 (own := RX9) rfl rfl rfl (fun X hg hx C Z => ?_)
  subst hg
  refine r_aload_n C dX9_law_0 rfl ?_
  refine r_getR C flX9_19 dX9_law_1 rfl rfl rfl ?_
  refine cV (ci := 6) C hx (sX6_read_5 (d := d - 1) (by omega) I J hL) moX6_read mlX9_134 miX6_read msX6_read dX9_law_4 rfl rfl rfl rfl rfl (by omega) rfl rfl (ki (fun v_4_1 I_4_1 q_4_1 => ?_))
  obtain ⟨rfl, rfl, hT⟩ := q_4_1
  refine r_istore_n C dX9_law_7 rfl rfl ?_
  refine r_aload_n C dX9_law_8 rfl ?_
  refine r_getR C flX9_19 dX9_law_9 rfl rfl rfl ?_
  refine r_iconst C (v := 0) dX9_law_12 (by decide) ?_
  refine r_putI C flX9_131 dX9_law_13 rfl rfl rfl rfl rfl ?_
  refine r_iload_n C dX9_law_16 rfl ?_
  refine b_iflt C (tgt := 25) dX9_law_17 rfl (fun h17_2 => ?_) (fun h17_2 => ?_)
  · refine r_aload_n C dX9_law_25 rfl ?_
    refine r_getR C flX9_19 dX9_law_26 rfl rfl rfl ?_
    refine r_getR C flX9_138 dX9_law_29 rfl rfl rfl ?_
    refine r_astore_n C dX9_law_32 rfl rfl ?_
    refine r_aload_n C dX9_law_33 rfl ?_
    refine r_getR C flX9_19 dX9_law_34 rfl rfl rfl ?_
    refine r_aload_n C dX9_law_37 rfl ?_
    refine r_getR C flX9_28 dX9_law_38 rfl rfl rfl ?_
    refine r_getR C flX9_142 dX9_law_41 rfl rfl rfl ?_
    refine r_putR C flX9_138 dX9_law_44 (Or.inl rfl) rfl rfl (fun _ => rfl) (fun _ => rfl) ?_
    refine r_aload_n C dX9_law_47 rfl ?_
    refine r_getR C flX9_28 dX9_law_48 rfl rfl rfl ?_
    refine r_aload_n C dX9_law_51 rfl ?_
    refine r_putR C flX9_142 dX9_law_52 (Or.inl rfl) rfl rfl (fun _ => rfl) (fun _ => rfl) ?_
    refine Eq.mpr (congrArg (fun R => Aw _ _ _ _ (91, _, _, R)) (RR_sw false 10 5 rfl rfl)) ?_
    refine r_iconst C (v := 1) dX9_law_55 (by decide) ?_
    exact rgi C Z dX9_law_56 ⟨rfl, rfl, hT, Or.inr ⟨by assumption, rfl, rfl⟩⟩
  · refine r_bipush C (v := -100) dX9_law_20 (by decide) ?_
    refine r_iload_n C dX9_law_22 rfl ?_
    refine r_isub C dX9_law_23 ?_
    exact rgi C Z dX9_law_24 ⟨rfl, rfl, hT, Or.inl ⟨by assumption, rfl, rfl⟩⟩
set_option maxRecDepth 100000 in
theorem sX9_law_10 {g : Gb} {d : Nat} (hd : 60 ≤ d) (I : Is) (J : Js) (hL : 0 ≤ (I 3 1).toInt ∧ (I 3 1).toInt ≤ 120) : MC9 g d mX9_law [.ref 0] I J true (Qg (fun r I' J' b' => J' = J ∧ I' = u2 (lawF 10 I).2 3 1 0 ∧ TP 10 (lawF 10 I).2 ∧ ((0 ≤ (lawF 10 I).1.toInt ∧ r = some (.int (-100 - (lawF 10 I).1)) ∧ b' = true) ∨ ((lawF 10 I).1.toInt < 0 ∧ r = some (.int 1) ∧ b' = false)))) := by
  refine ent9 (own := RX9) rfl rfl rfl (fun X hg hx C Z => ?_)
  subst hg
  refine r_aload_n C dX9_law_0 rfl ?_
  refine r_getR C flX9_19 dX9_law_1 rfl rfl rfl ?_
  refine cV (ci := 6) C hx (sX6_read_10 (d := d - 1) (by omega) I J hL) moX6_read mlX9_134 miX6_read msX6_read dX9_law_4 rfl rfl rfl rfl rfl (by omega) rfl rfl (ki (fun v_4_1 I_4_1 q_4_1 => ?_))
  obtain ⟨rfl, rfl, hT⟩ := q_4_1
  refine r_istore_n C dX9_law_7 rfl rfl ?_
  refine r_aload_n C dX9_law_8 rfl ?_
  refine r_getR C flX9_19 dX9_law_9 rfl rfl rfl ?_
  refine r_iconst C (v := 0) dX9_law_12 (by decide) ?_
  refine r_putI C flX9_131 dX9_law_13 rfl rfl rfl rfl rfl ?_
  refine r_iload_n C dX9_law_16 rfl ?_
  refine b_iflt C (tgt := 25) dX9_law_17 rfl (fun h17_2 => ?_) (fun h17_2 => ?_)
  · refine r_aload_n C dX9_law_25 rfl ?_
    refine r_getR C flX9_19 dX9_law_26 rfl rfl rfl ?_
    refine r_getR C flX9_138 dX9_law_29 rfl rfl rfl ?_
    refine r_astore_n C dX9_law_32 rfl rfl ?_
    refine r_aload_n C dX9_law_33 rfl ?_
    refine r_getR C flX9_19 dX9_law_34 rfl rfl rfl ?_
    refine r_aload_n C dX9_law_37 rfl ?_
    refine r_getR C flX9_28 dX9_law_38 rfl rfl rfl ?_
    refine r_getR C flX9_142 dX9_law_41 rfl rfl rfl ?_
    refine r_putR C flX9_138 dX9_law_44 (Or.inl rfl) rfl rfl (fun _ => rfl) (fun _ => rfl) ?_
    refine r_aload_n C dX9_law_47 rfl ?_
    refine r_getR C flX9_28 dX9_law_48 rfl rfl rfl ?_
    refine r_aload_n C dX9_law_51 rfl ?_
    refine r_putR C flX9_142 dX9_law_52 (Or.inl rfl) rfl rfl (fun _ => rfl) (fun _ => rfl) ?_
    refine Eq.mpr (congrArg (fun R => Aw _ _ _ _ (91, _, _, R)) (RR_sw true 5 10 rfl rfl)) ?_
    refine r_iconst C (v := 1) dX9_law_55 (by decide) ?_
    exact rgi C Z dX9_law_56 ⟨rfl, rfl, hT, Or.inr ⟨by assumption, rfl, rfl⟩⟩
  · refine r_bipush C (v := -100) dX9_law_20 (by decide) ?_
    refine r_iload_n C dX9_law_22 rfl ?_
    refine r_isub C dX9_law_23 ?_
    exact rgi C Z dX9_law_24 ⟨rfl, rfl, hT, Or.inl ⟨by assumption, rfl, rfl⟩⟩
