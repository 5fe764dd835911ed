set_option maxRecDepth 100000 in
set_option maxHeartbeats 400000 in
theorem sX4_holdRow {g : Gb} {d : Nat} (hd : 0 ≤ d) (t : Nat) (ht : isSh t) (so n : Int32) (I : Is) (J : Js) (b : Bool) : MC9 g d mX4_holdRow [.ref t, .int so, .int n] I J b (Qg (fun r I' J' b' => r = none ∧ b' = b ∧ I' = u2 (u2 I t 0 so) t 1 n ∧ (∀ k, k < 60 → J' (t + 1) k = 0) ∧ ∀ c, c ≠ t + 1 → J' c = J c)) := by
  obtain ⟨hc4, hr3, hc21, hl60⟩ := sh_all ht b
  refine ent9 (own := RX4) rfl rfl rfl (fun X hg hx C Z => ?_)
  subst hg
  have loop : ∀ (m i : Nat) (J' : Js), m + i = 60 → (∀ k, k < i → J' (t + 1) k = 0) → (∀ c, c ≠ t + 1 → J' c = J c) → Aw X 12 [some (.ref t), some (.int so), some (.int n), some (.int (nI i))] [] (st9 (u2 (u2 I t 0 so) t 1 n) J' b) := by
    intro m
    induction m with
    | zero =>
      intro i J' hm h1 h2
      have ini : (nI i).toInt = (i : Int) := nIint (by omega)
      have hi : i = 60 := by omega
      refine r_iload_n C dX4_holdRow_12 rfl ?_
      refine r_bipush C (v := 60) dX4_holdRow_13 (by decide) ?_
      refine b_icge C (tgt := 31) (my := 60) rfl rfl dX4_holdRow_15 rfl (fun h15_1 => ?_) (fun h15_1 => ?_)
      · exact rgv C Z dX4_holdRow_31 ⟨rfl, rfl, rfl, fun k hk => h1 k (by omega), h2⟩
      · exfalso; omega
    | succ m ih =>
      intro i J' hm h1 h2
      have ini : (nI i).toInt = (i : Int) := nIint (by omega)
      have ii : ix (nI i) = i := nIix (by omega)
      refine r_iload_n C dX4_holdRow_12 rfl ?_
      refine r_bipush C (v := 60) dX4_holdRow_13 (by decide) ?_
      refine b_icge C (tgt := 31) (my := 60) rfl rfl dX4_holdRow_15 rfl (fun h15_1 => ?_) (fun h15_1 => ?_)
      · exfalso; omega
      · refine r_aload_n C dX4_holdRow_18 rfl ?_
        refine r_getR C flX4_15 dX4_holdRow_19 hc4 rfl hr3 ?_
        refine r_iload_n C dX4_holdRow_22 rfl ?_
        refine r_lconst C (v := 0) dX4_holdRow_23 (by decide) ?_
        refine r_last C hc21 dX4_holdRow_24 (by rw [hl60]; exact nIin (by omega) (by decide)) ?_
        rw [ii]
        refine r_iinc C (v := 1) dX4_holdRow_25 rfl (by decide) rfl ?_
        refine r_goto C (tgt := 12) dX4_holdRow_28 rfl ?_
        rw [nI_s]
        refine ih (i + 1) _ (by omega) (fun k hk => ?_) (fun c hc => (u2_row hc).trans (h2 c hc))
        by_cases e : k = i
        · rw [e, u2_same]
        · rw [u2_ne _ _ _ _ (Or.inr e)]; exact h1 k (by omega)
  refine r_aload_n C dX4_holdRow_0 rfl ?_
  refine r_iload_n C dX4_holdRow_1 rfl ?_
  refine r_putI C flX4_9 dX4_holdRow_2 hc4 rfl rfl rfl rfl ?_
  refine r_aload_n C dX4_holdRow_5 rfl ?_
  refine r_iload_n C dX4_holdRow_6 rfl ?_
  refine r_putI C flX4_19 dX4_holdRow_7 hc4 rfl rfl rfl rfl ?_
  refine r_iconst C (v := 0) dX4_holdRow_10 (by decide) ?_
  refine r_istore_n C dX4_holdRow_11 rfl rfl ?_
  exact loop 60 0 J rfl (fun k hk => absurd hk (Nat.not_lt_zero k)) (fun _ _ => rfl)
def cutF (so : Int32) (v : Int64) : Int64 := if so = 0 then v.toInt32.toInt8.toInt32.toInt64 else if so = 1 then v.toInt32.toInt16.toInt32.toInt64 else if so = 2 then v.toInt32.toInt64 else if so = 4 then (if v = 0 then 0 else 1) else v
set_option maxRecDepth 100000 in
theorem sX4_cut {g : Gb} {d : Nat} (hd : 0 ≤ d) (so : Int32) (v : Int64) (I : Is) (J : Js) (b : Bool) : MC9 g d mX4_cut [.int so, .long v] I J b (Qg (fun r I' J' b' => r = some (.long (cutF so v)) ∧ I' = I ∧ J' = J ∧ b' = b)) := by
  refine ent9 (own := RX4) rfl rfl rfl (fun X hg hx C Z => ?_)
  subst hg
  refine r_iload_n C dX4_cut_0 rfl ?_
  by_cases c0 : so = 0
  · subst c0
    refine r_tabIn C (tgt := 36) dX4_cut_1 (by decide) (by decide) rfl rfl ?_
    refine r_lload_n C dX4_cut_36 rfl ?_
    refine r_l2i C dX4_cut_37 ?_
    refine r_i2b C dX4_cut_38 ?_
    refine r_i2l C dX4_cut_39 ?_
    exact rgl C Z dX4_cut_40 ⟨congrArg (fun z => some (Value.long z)) (Eq.symm (if_pos rfl)), rfl, rfl, rfl⟩
  have n0 := ne_int c0
  have m0 : (0 : Int32).toInt = 0 := rfl
  by_cases c1 : so = 1
  · subst c1
    refine r_tabIn C (tgt := 41) dX4_cut_1 (by decide) (by decide) rfl rfl ?_
    refine r_lload_n C dX4_cut_41 rfl ?_
    refine r_l2i C dX4_cut_42 ?_
    refine r_i2s C dX4_cut_43 ?_
    refine r_i2l C dX4_cut_44 ?_
    exact rgl C Z dX4_cut_45 ⟨congrArg (fun z => some (Value.long z)) (Eq.symm ((if_neg (by decide)).trans (if_pos rfl))), rfl, rfl, rfl⟩
  have n1 := ne_int c1
  have m1 : (1 : Int32).toInt = 1 := rfl
  by_cases c2 : so = 2
  · subst c2
    refine r_tabIn C (tgt := 46) dX4_cut_1 (by decide) (by decide) rfl rfl ?_
    refine r_lload_n C dX4_cut_46 rfl ?_
    refine r_l2i C dX4_cut_47 ?_
    refine r_i2l C dX4_cut_48 ?_
    exact rgl C Z dX4_cut_49 ⟨congrArg (fun z => some (Value.long z)) (Eq.symm ((if_neg (by decide)).trans ((if_neg (by decide)).trans (if_pos rfl)))), rfl, rfl, rfl⟩
  have n2 := ne_int c2
  have m2 : (2 : Int32).toInt = 2 := rfl
  by_cases c4 : so = 4
  · subst c4
    refine r_tabIn C (tgt := 50) dX4_cut_1 (by decide) (by decide) rfl rfl ?_
    refine r_lload_n C dX4_cut_50 rfl ?_
    refine r_lconst C (v := 0) dX4_cut_51 (by decide) ?_
    refine r_lcmp C dX4_cut_52 ?_
    refine r_ifeq C (tgt := 60) dX4_cut_53 rfl (fun h53_1 => ?_) (fun h53_1 => ?_)
    · refine r_lconst C (v := 0) dX4_cut_60 (by decide) ?_
      exact rgl C Z dX4_cut_61 ⟨congrArg (fun z => some (Value.long z)) (Eq.symm ((if_neg (by decide)).trans ((if_neg (by decide)).trans ((if_neg (by decide)).trans ((if_pos rfl).trans (if_pos (lgc0.mp (by assumption)))))))), rfl, rfl, rfl⟩
    · refine r_lconst C (v := 1) dX4_cut_56 (by decide) ?_
      refine r_goto C (tgt := 61) dX4_cut_57 rfl ?_
      exact rgl C Z dX4_cut_61 ⟨congrArg (fun z => some (Value.long z)) (Eq.symm ((if_neg (by decide)).trans ((if_neg (by decide)).trans ((if_neg (by decide)).trans ((if_pos rfl).trans (if_neg (fun z => absurd (lgc0.mpr z) (by assumption)))))))), rfl, rfl, rfl⟩
  have n4 := ne_int c4
  have m4 : (4 : Int32).toInt = 4 := rfl
  by_cases c3 : so = 3
  · subst c3
    refine r_tabIn C (tgt := 62) dX4_cut_1 (by decide) (by decide) rfl rfl ?_
    refine r_lload_n C dX4_cut_62 rfl ?_
    exact rgl C Z dX4_cut_63 ⟨congrArg (fun z => some (Value.long z)) (Eq.symm ((if_neg (by decide)).trans ((if_neg (by decide)).trans ((if_neg (by decide)).trans (if_neg (by decide)))))), rfl, rfl, rfl⟩
  have n3 := ne_int c3
  have m3 : (3 : Int32).toInt = 3 := rfl
  refine r_tabOut C (tgt := 62) dX4_cut_1 (by omega) rfl ?_
  refine r_lload_n C dX4_cut_62 rfl ?_
  exact rgl C Z dX4_cut_63 ⟨congrArg (fun z => some (Value.long z)) (Eq.symm ((if_neg c0).trans ((if_neg c1).trans ((if_neg c2).trans (if_neg c4))))), rfl, rfl, rfl⟩
set_option maxRecDepth 100000 in
theorem sX5_add {g : Gb} {d : Nat} (hd : 0 ≤ d) (kd : Int32) (I : Is) (J : Js) (b : Bool) (h0 : 0 ≤ (I 48 0).toInt) : MC9 g d mX5_add [.ref 48, .int kd] I J b (Qi J b (fun v I' => (50 ≤ (I 48 0).toInt ∧ v = -3 ∧ I' = I) ∨ ((I 48 0).toInt < 50 ∧ v = I 48 0 + 1 - 1 ∧ I' = u2 (u2 I 49 (ix (I 48 0)) kd) 48 0 (I 48 0 + 1)))) := by
  refine ent9 (own := RX5) rfl rfl rfl (fun X hg hx C Z => ?_)
  subst hg
  refine r_aload_n C dX5_add_0 rfl ?_
  refine r_getI C flX5_18 dX5_add_1 rfl rfl ?_
  refine r_bipush C (v := 50) dX5_add_4 (by decide) ?_
  refine b_iclt C (tgt := 12) (my := 50) rfl rfl dX5_add_6 rfl (fun h6_1 => ?_) (fun h6_1 => ?_)
  · refine r_aload_n C dX5_add_12 rfl ?_
    refine r_getR C flX5_11 dX5_add_13 rfl rfl rfl ?_
    refine r_aload_n C dX5_add_16 rfl ?_
    refine r_getI C flX5_18 dX5_add_17 rfl rfl ?_
    refine r_iload_n C dX5_add_20 rfl ?_
    refine r_iast C rfl dX5_add_21 (vin h0 (by assumption)) ?_
    refine r_aload_n C dX5_add_22 rfl ?_
    refine r_dup C dX5_add_23 rfl ?_
    refine r_getI C flX5_18 dX5_add_24 rfl rfl ?_
    refine r_iconst C (v := 1) dX5_add_27 (by decide) ?_
    refine r_iadd C dX5_add_28 ?_
    refine r_putI C flX5_18 dX5_add_29 rfl rfl rfl rfl rfl ?_
    refine r_aload_n C dX5_add_32 rfl ?_
    refine r_getI C flX5_18 dX5_add_33 rfl rfl ?_
    refine r_iconst C (v := 1) dX5_add_36 (by decide) ?_
    refine r_isub C dX5_add_37 ?_
    exact ri C Z dX5_add_38 (Or.inr ⟨by assumption, by rw [u2_same, u2_row (by decide)], by rw [u2_row (t' := 48) (by decide)]⟩)
  · refine r_bipush C (v := -3) dX5_add_9 (by decide) ?_
    exact ri C Z dX5_add_11 (Or.inl ⟨by assumption, rfl, rfl⟩)
set_option maxRecDepth 100000 in
theorem sX5_kindOf {g : Gb} {d : Nat} (hd : 1 ≤ d) (k : Int32) (I : Is) (J : Js) (b : Bool) (h5 : (I 48 0).toInt ≤ 50) : MC9 g d mX5_kindOf [.ref 48, .int k] I J b (Qp (if 0 ≤ k.toInt ∧ k.toInt < (I 48 0).toInt then I 49 (ix k) else 0) I J b) := by
  refine ent9 (own := RX5) rfl rfl rfl (fun X hg hx C Z => ?_)
  subst hg
  refine r_aload_n C dX5_kindOf_0 rfl ?_
  refine r_iload_n C dX5_kindOf_1 rfl ?_
  refine cV (ci := 5) C hx (sX5_has (d := d - 1) (by omega) _ I J b) moX5_has mlX5_22 miX5_has msX5_has dX5_kindOf_2 rfl rfl rfl rfl rfl (by omega) rfl rfl (kp ?_)
  refine z_ifeq C (tgt := 17) dX5_kindOf_5 rfl (fun h5_2 => ?_) (fun h5_2 => ?_)
  · refine r_iconst C (v := 0) dX5_kindOf_17 (by decide) ?_
    exact rp C Z dX5_kindOf_18 (if_neg (by assumption)).symm
  · refine r_aload_n C dX5_kindOf_8 rfl ?_
    refine r_getR C flX5_11 dX5_kindOf_9 rfl rfl rfl ?_
    refine r_iload_n C dX5_kindOf_12 rfl ?_
    refine r_iald C rfl dX5_kindOf_13 (vin (‹_ ∧ _› : 0 ≤ k.toInt ∧ k.toInt < (I 48 0).toInt).1 (show k.toInt < 50 by have := (‹_ ∧ _› : 0 ≤ k.toInt ∧ k.toInt < (I 48 0).toInt).2; omega)) ?_
    refine r_goto C (tgt := 18) dX5_kindOf_14 rfl ?_
    exact rp C Z dX5_kindOf_18 (if_pos (by assumption)).symm
/-- a body noted in the trace -/
def ntF (I : Is) (body : Int32) : Is := u2 (if (I 48 1).toInt < 24 then u2 I 50 (ix (I 48 1)) body else I) 48 1 (I 48 1 + 1)
set_option maxRecDepth 100000 in
theorem sX5_note {g : Gb} {d : Nat} (hd : 0 ≤ d) (bo : Int32) (I : Is) (J : Js) (b : Bool) (h0 : 0 ≤ (I 48 1).toInt) : MC9 g d mX5_note [.ref 48, .int bo] I J b (Qv J b (fun I' => I' = ntF I bo)) := by
  refine ent9 (own := RX5) rfl rfl rfl (fun X hg hx C Z => ?_)
  subst hg
  refine r_aload_n C dX5_note_0 rfl ?_
  refine r_getI C flX5_29 dX5_note_1 rfl rfl ?_
  refine r_bipush C (v := 24) dX5_note_4 (by decide) ?_
  refine b_icge C (tgt := 19) (my := 24) rfl rfl dX5_note_6 rfl (fun h6_1 => ?_) (fun h6_1 => ?_)
  · refine r_aload_n C dX5_note_19 rfl ?_
    refine r_dup C dX5_note_20 rfl ?_
    refine r_getI C flX5_29 dX5_note_21 rfl rfl ?_
    refine r_iconst C (v := 1) dX5_note_24 (by decide) ?_
    refine r_iadd C dX5_note_25 ?_
    refine r_putI C flX5_29 dX5_note_26 rfl rfl rfl rfl rfl ?_
    exact rv C Z dX5_note_29 (by unfold ntF; rw [if_neg (by omega)])
  · refine r_aload_n C dX5_note_9 rfl ?_
    refine r_getR C flX5_15 dX5_note_10 rfl rfl rfl ?_
    refine r_aload_n C dX5_note_13 rfl ?_
    refine r_getI C flX5_29 dX5_note_14 rfl rfl ?_
    refine r_iload_n C dX5_note_17 rfl ?_
    refine r_iast C rfl dX5_note_18 (vin h0 (by assumption)) ?_
    refine r_aload_n C dX5_note_19 rfl ?_
    refine r_dup C dX5_note_20 rfl ?_
    refine r_getI C flX5_29 dX5_note_21 rfl rfl ?_
    refine r_iconst C (v := 1) dX5_note_24 (by decide) ?_
    refine r_iadd C dX5_note_25 ?_
    refine r_putI C flX5_29 dX5_note_26 rfl rfl rfl rfl rfl ?_
    exact rv C Z dX5_note_29 (by unfold ntF; rw [if_pos (by assumption), u2_row (t' := 48) (by decide)])
def abvF (x : Int32) : Int32 := (sLs 3).getD (ix x) 0
def unF (k : Int32) : Nat → Int32 → Int32
  | 0, _ => 0
  | m + 1, x => if x.toInt < 0 ∨ 8 ≤ x.toInt then 0 else if x = k then 1 else unF k m (abvF x)
def ownF (x a : Int32) : Int32 := (sLs 4).getD (ix (x * 4 + a)) 0
def owF (a : Int32) : Nat → Int32 → Int32
  | 0, _ => -1
  | m + 1, x => if x.toInt < 0 ∨ 8 ≤ x.toInt then -1 else if ¬ ownF x a = 0 then x else owF a m (abvF x)
theorem own_in {x a : Int32} (hx : 0 ≤ x.toInt ∧ x.toInt < 8) (ha : 0 ≤ a.toInt ∧ a.toInt < 4) : vp_in (x * 4 + a) 32 := by
  have e4 : (4 : Int32).toInt = 4 := rfl
  have em : (x * 4).toInt = x.toInt * 4 := by rw [tI_mul (by rw [e4]; omega) (by rw [e4]; omega), e4]
  have e : (x * 4 + a).toInt = x.toInt * 4 + a.toInt := by rw [tI_add (by omega) (by omega), em]
  exact vin (by omega) (by omega)
set_option maxRecDepth 100000 in
set_option maxHeartbeats 400000 in
theorem sX5_isUnder {g : Gb} {d : Nat} (hd : 0 ≤ d) (x k : Int32) (I : Is) (J : Js) (b : Bool) : MC9 g d mX5_isUnder [.int x, .int k] I J b (Qi J b (fun v I' => I' = I ∧ v = unF k 8 x)) := by
  refine ent9 (own := RX5) rfl rfl rfl (fun X hg hx C Z => ?_)
  subst hg
  have loop : ∀ (m i : Nat) (c : Int32), m + i = 8 → unF k m c = unF k 8 x → Aw X 4 [some (.int x), some (.int k), some (.int c), some (.int (nI i))] [] (st9 I J b) := by
    intro m
    induction m with
    | zero =>
      intro i c hm hg
      have ini : (nI i).toInt = (i : Int) := nIint (by omega)
      refine r_iload_n C dX5_isUnder_4 rfl ?_
      refine r_bipush C (v := 8) dX5_isUnder_5 (by decide) ?_
      refine b_icge C (tgt := 39) (my := 8) rfl rfl dX5_isUnder_7 rfl (fun h7_1 => ?_) (fun h7_1 => ?_)
      · refine r_iconst C (v := 0) dX5_isUnder_39 (by decide) ?_
        exact riz C Z dX5_isUnder_40 rfl ⟨rfl, hg⟩
      · exfalso; omega
    | succ m ih =>
      intro i c hm hg
      have ini : (nI i).toInt = (i : Int) := nIint (by omega)
      have hst : unF k (m + 1) c = if c.toInt < 0 ∨ 8 ≤ c.toInt then 0 else if c = k then 1 else unF k m (abvF c) := rfl
      rw [hst] at hg
      refine r_iload_n C dX5_isUnder_4 rfl ?_
      refine r_bipush C (v := 8) dX5_isUnder_5 (by decide) ?_
      refine b_icge C (tgt := 39) (my := 8) rfl rfl dX5_isUnder_7 rfl (fun h7_1 => ?_) (fun h7_1 => ?_)
      · exfalso; omega
      · refine r_iload_n C dX5_isUnder_10 rfl ?_
        refine b_iflt C (tgt := 39) dX5_isUnder_11 rfl (fun h11_2 => ?_) (fun h11_2 => ?_)
        · refine r_iconst C (v := 0) dX5_isUnder_39 (by decide) ?_
          exact riz C Z dX5_isUnder_40 rfl ⟨rfl, (if_pos (Or.inl (by assumption))).symm.trans hg⟩
        · refine r_iload_n C dX5_isUnder_14 rfl ?_
          refine r_bipush C (v := 8) dX5_isUnder_15 (by decide) ?_
          refine b_icge C (tgt := 39) (my := 8) rfl rfl dX5_isUnder_17 rfl (fun h17_3 => ?_) (fun h17_3 => ?_)
          · refine r_iconst C (v := 0) dX5_isUnder_39 (by decide) ?_
            exact riz C Z dX5_isUnder_40 rfl ⟨rfl, (if_pos (Or.inr (by assumption))).symm.trans hg⟩
          · refine r_iload_n C dX5_isUnder_20 rfl ?_
            refine r_iload_n C dX5_isUnder_21 rfl ?_
            refine r_icne C (tgt := 27) dX5_isUnder_22 rfl (fun h22_4 => ?_) (fun h22_4 => ?_)
            · refine r_gets C (j := 3) rfl gsX5_26 dX5_isUnder_27 ?_
              refine r_iload_n C dX5_isUnder_30 rfl ?_
              refine r_iaro C (j := 3) rfl dX5_isUnder_31 (vin (by omega) (show c.toInt < 8 by omega)) ?_
              refine r_istore_n C dX5_isUnder_32 rfl rfl ?_
              refine r_iinc C (v := 1) dX5_isUnder_33 rfl (by decide) rfl ?_
              refine r_goto C (tgt := 4) dX5_isUnder_36 rfl ?_
              rw [nI_s]
              exact ih (i + 1) _ (by omega) (((if_neg (by omega)).trans (if_neg (by assumption))).symm.trans hg)
            · refine r_iconst C (v := 1) dX5_isUnder_25 (by decide) ?_
              exact riz C Z dX5_isUnder_26 rfl ⟨rfl, ((if_neg (by omega)).trans (if_pos (by assumption))).symm.trans hg⟩
  refine r_iload_n C dX5_isUnder_0 rfl ?_
  refine r_istore_n C dX5_isUnder_1 rfl rfl ?_
  refine r_iconst C (v := 0) dX5_isUnder_2 (by decide) ?_
  refine r_istore_n C dX5_isUnder_3 rfl rfl ?_
  exact loop 8 0 x rfl rfl
set_option maxRecDepth 100000 in
set_option maxHeartbeats 400000 in
theorem sX5_ownerOf {g : Gb} {d : Nat} (hd : 0 ≤ d) (x a : Int32) (I : Is) (J : Js) (b : Bool) (ha : 0 ≤ a.toInt ∧ a.toInt < 4) : MC9 g d mX5_ownerOf [.int x, .int a] I J b (Qi J b (fun v I' => I' = I ∧ v = owF a 8 x)) := by
  refine ent9 (own := RX5) rfl rfl rfl (fun X hg hx C Z => ?_)
  subst hg
  have loop : ∀ (m i : Nat) (c : Int32), m + i = 8 → owF a m c = owF a 8 x → Aw X 4 [some (.int x), some (.int a), some (.int c), some (.int (nI i))] [] (st9 I J b) := by
    intro m
    induction m with
    | zero =>
      intro i c hm hg
      have ini : (nI i).toInt = (i : Int) := nIint (by omega)
      refine r_iload_n C dX5_ownerOf_4 rfl ?_
      refine r_bipush C (v := 8) dX5_ownerOf_5 (by decide) ?_
      refine b_icge C (tgt := 46) (my := 8) rfl rfl dX5_ownerOf_7 rfl (fun h7_1 => ?_) (fun h7_1 => ?_)
      · refine r_iconst C (v := -1) dX5_ownerOf_46 (by decide) ?_
        exact ri C Z dX5_ownerOf_47 ⟨rfl, hg⟩
      · exfalso; omega
    | succ m ih =>
      intro i c hm hg
      have ini : (nI i).toInt = (i : Int) := nIint (by omega)
      have hst : owF a (m + 1) c = if c.toInt < 0 ∨ 8 ≤ c.toInt then -1 else if ¬ ownF c a = 0 then c else owF a m (abvF c) := rfl
      rw [hst] at hg
      refine r_iload_n C dX5_ownerOf_4 rfl ?_
      refine r_bipush C (v := 8) dX5_ownerOf_5 (by decide) ?_
      refine b_icge C (tgt := 46) (my := 8) rfl rfl dX5_ownerOf_7 rfl (fun h7_1 => ?_) (fun h7_1 => ?_)
      · exfalso; omega
      · refine r_iload_n C dX5_ownerOf_10 rfl ?_
        refine b_iflt C (tgt := 46) dX5_ownerOf_11 rfl (fun h11_2 => ?_) (fun h11_2 => ?_)
        · refine r_iconst C (v := -1) dX5_ownerOf_46 (by decide) ?_
          exact ri C Z dX5_ownerOf_47 ⟨rfl, (if_pos (Or.inl (by assumption))).symm.trans hg⟩
        · refine r_iload_n C dX5_ownerOf_14 rfl ?_
          refine r_bipush C (v := 8) dX5_ownerOf_15 (by decide) ?_
          refine b_icge C (tgt := 46) (my := 8) rfl rfl dX5_ownerOf_17 rfl (fun h17_3 => ?_) (fun h17_3 => ?_)
          · refine r_iconst C (v := -1) dX5_ownerOf_46 (by decide) ?_
            exact ri C Z dX5_ownerOf_47 ⟨rfl, (if_pos (Or.inr (by assumption))).symm.trans hg⟩
          · refine r_gets C (j := 4) rfl gsX5_40 dX5_ownerOf_20 ?_
            refine r_iload_n C dX5_ownerOf_23 rfl ?_
            refine r_iconst C (v := 4) dX5_ownerOf_24 (by decide) ?_
            refine r_imul C dX5_ownerOf_25 ?_
            refine r_iload_n C dX5_ownerOf_26 rfl ?_
            refine r_iadd C dX5_ownerOf_27 ?_
            refine r_iaro C (j := 4) rfl dX5_ownerOf_28 (own_in (by omega) ha) ?_
            refine r_ifeq C (tgt := 34) dX5_ownerOf_29 rfl (fun h29_4 => ?_) (fun h29_4 => ?_)
            · refine r_gets C (j := 3) rfl gsX5_26 dX5_ownerOf_34 ?_
              refine r_iload_n C dX5_ownerOf_37 rfl ?_
              refine r_iaro C (j := 3) rfl dX5_ownerOf_38 (vin (by omega) (show c.toInt < 8 by omega)) ?_
              refine r_istore_n C dX5_ownerOf_39 rfl rfl ?_
              refine r_iinc C (v := 1) dX5_ownerOf_40 rfl (by decide) rfl ?_
              refine r_goto C (tgt := 4) dX5_ownerOf_43 rfl ?_
              rw [nI_s]
              exact ih (i + 1) _ (by omega) (((if_neg (by omega)).trans (if_neg (fun z => z (by assumption)))).symm.trans hg)
            · refine r_iload_n C dX5_ownerOf_32 rfl ?_
              exact ri C Z dX5_ownerOf_33 ⟨rfl, ((if_neg (by omega)).trans (if_pos (by assumption))).symm.trans hg⟩
  refine r_iload_n C dX5_ownerOf_0 rfl ?_
  refine r_istore_n C dX5_ownerOf_1 rfl rfl ?_
  refine r_iconst C (v := 0) dX5_ownerOf_2 (by decide) ?_
  refine r_istore_n C dX5_ownerOf_3 rfl rfl ?_
  exact loop 8 0 x rfl rfl
/-- the eight numbers of a new straw -/
def nwF (st wi re : Int32) (q : Nat) : Int32 := if q = 0 then st else if q = 1 then wi else if q = 2 then re else (sLs 2).getD q 0
set_option maxRecDepth 100000 in
set_option maxHeartbeats 400000 in
theorem sX3_add {g : Gb} {d : Nat} (hd : 1 ≤ d) (st wi re : Int32) (I : Is) (J : Js) (b : Bool) (h0 : 0 ≤ (I 1 1).toInt) : MC9 g d mX3_add [.ref 1, .int st, .int wi, .int re] I J b (Qi J b (fun v I' => (3 ≤ (I 1 1).toInt ∧ v = -3 ∧ I' = I) ∨ ((I 1 1).toInt < 3 ∧ v = I 1 1 + 1 - 1 ∧ I' 1 1 = I 1 1 + 1 ∧ (∀ k, I' 2 k = if 8 * ix (I 1 1) ≤ k ∧ k < 8 * ix (I 1 1) + 8 then nwF st wi re (k - 8 * ix (I 1 1)) else I 2 k) ∧ Fr [1, 2] I I'))) := by
  refine ent9 (own := RX3) rfl rfl rfl (fun X hg hx C Z => ?_)
  subst hg
  have hb : (I 1 1).toInt < 3 → (I 1 1 * 8).toInt = 8 * (ix (I 1 1) : Int) ∧ ix (I 1 1) < 3 := fun h => by
    have e8 : (8 : Int32).toInt = 8 := rfl
    have := ix_nn h0
    rw [tI_mul (by rw [e8]; omega) (by rw [e8]; omega), e8]
    omega
  refine r_aload_n C dX3_add_0 rfl ?_
  refine r_getI C flX3_28 dX3_add_1 rfl rfl ?_
  refine r_iconst C (v := 3) dX3_add_4 (by decide) ?_
  refine b_iclt C (tgt := 11) (my := 3) rfl rfl dX3_add_5 rfl (fun h5_1 => ?_) (fun h5_1 => ?_)
  · refine r_aload_n C dX3_add_11 rfl ?_
    refine r_getI C flX3_28 dX3_add_12 rfl rfl ?_
    refine r_bipush C (v := 8) dX3_add_15 (by decide) ?_
    refine r_imul C dX3_add_17 ?_
    obtain ⟨hb1, hb2⟩ := hb (by assumption)
    generalize hs : ix (I 1 1) = s at hb1 hb2
    generalize I 1 1 * 8 = ba at hb1 ⊢
    have hib : ix ba = 8 * s := ix_of (by omega)
    refine r_istore C dX3_add_18 rfl rfl ?_
    refine r_gets C (j := 2) rfl gsX3_19 dX3_add_20 ?_
    refine r_iconst C (v := 0) dX3_add_23 (by decide) ?_
    refine r_aload_n C dX3_add_24 rfl ?_
    refine r_getR C flX3_9 dX3_add_25 rfl rfl rfl ?_
    refine r_iload C dX3_add_28 rfl ?_
    refine r_bipush C (v := 8) dX3_add_30 (by decide) ?_
    refine r_copyro C (j := 2) (t := 2) rfl rfl (by decide) (fun z => by have := Int32.lt_iff_toInt_lt.mp z; have e0 : (0 : Int32).toInt = 0 := rfl; omega) (by decide) (by show (0 + 8 : Nat) ≤ 12; decide) (by show ix ba + 8 ≤ 28; omega) mlX3_32 dX3_add_32 (by omega) rfl (Nat.le_of_ble_eq_true rfl) ?_
    have h0' : (ba + 0) = ba := Int32.add_zero _
    obtain ⟨I1, hI1⟩ : ∃ z, z = cpy2 I 2 (roF (x_g X) 2) (ix 0) (ix ba) (ix 8) := ⟨_, rfl⟩
    rw [← hI1]
    have f1 : ∀ k, I1 2 k = if 8 * s ≤ k ∧ k < 8 * s + 8 then (sLs 2).getD (k - 8 * s) 0 else I 2 k := fun k => by
      rw [hI1, cpy2_self]
      unfold va_cpy
      rw [hib]
      show (if 8 * s ≤ k ∧ k < 8 * s + 8 then (sLs 2).getD (0 + (k - 8 * s)) 0 else I 2 k) = _
      rw [Nat.zero_add]
    have f2 : ∀ c, c ≠ 2 → I1 c = I c := fun c hc => by rw [hI1]; exact cpy2_row hc
    have e1 : (ba + 1).toInt = 8 * s + 1 := by rw [tI_add (by rw [one_int]; omega) (by rw [one_int]; omega), one_int, hb1]
    have e2' : (ba + 2).toInt = 8 * s + 2 := by have e2 : (2 : Int32).toInt = 2 := rfl; rw [tI_add (by rw [e2]; omega) (by rw [e2]; omega), e2, hb1]
    have i1 : ix (ba + 1) = 8 * s + 1 := ix_of (by omega)
    have i2 : ix (ba + 2) = 8 * s + 2 := ix_of (by omega)
    refine r_aload_n C dX3_add_35 rfl ?_
    refine r_getR C flX3_9 dX3_add_36 rfl rfl rfl ?_
    refine r_iload C dX3_add_39 rfl ?_
    refine r_iconst C (v := 0) dX3_add_41 (by decide) ?_
    refine r_iadd C dX3_add_42 ?_
    refine r_iload_n C dX3_add_43 rfl ?_
    refine r_iast C rfl dX3_add_44 (by rw [h0']; exact vin (by omega) (show ba.toInt < 28 by omega)) ?_
    rw [h0', hib]
    refine r_aload_n C dX3_add_45 rfl ?_
    refine r_getR C flX3_9 dX3_add_46 rfl rfl rfl ?_
    refine r_iload C dX3_add_49 rfl ?_
    refine r_iconst C (v := 1) dX3_add_51 (by decide) ?_
    refine r_iadd C dX3_add_52 ?_
    refine r_iload_n C dX3_add_53 rfl ?_
    refine r_iast C rfl dX3_add_54 (vin (by omega) (show (ba + 1).toInt < 28 by omega)) ?_
    rw [i1]
    refine r_aload_n C dX3_add_55 rfl ?_
    refine r_getR C flX3_9 dX3_add_56 rfl rfl rfl ?_
    refine r_iload C dX3_add_59 rfl ?_
    refine r_iconst C (v := 2) dX3_add_61 (by decide) ?_
    refine r_iadd C dX3_add_62 ?_
    refine r_iload_n C dX3_add_63 rfl ?_
    refine r_iast C rfl dX3_add_64 (vin (by omega) (show (ba + 2).toInt < 28 by omega)) ?_
    rw [i2]
    refine r_aload_n C dX3_add_65 rfl ?_
    refine r_dup C dX3_add_66 rfl ?_
    refine r_getI C flX3_28 dX3_add_67 rfl rfl ?_
    refine r_iconst C (v := 1) dX3_add_70 (by decide) ?_
    refine r_iadd C dX3_add_71 ?_
    refine r_putI C flX3_28 dX3_add_72 rfl rfl rfl rfl rfl ?_
    refine r_aload_n C dX3_add_75 rfl ?_
    refine r_getI C flX3_28 dX3_add_76 rfl rfl ?_
    refine r_iconst C (v := 1) dX3_add_79 (by decide) ?_
    refine r_isub C dX3_add_80 ?_
    exact ri C Z dX3_add_81 (Or.inr ⟨by assumption, by rw [u2_same, u2_row (by decide), u2_row (by decide), u2_row (by decide), f2 1 (by decide)], by rw [u2_same, u2_row (by decide), u2_row (by decide), u2_row (by decide), f2 1 (by decide)], fun k => by
      rw [u2_row (by decide), hs]
      by_cases k0 : k = 8 * s
      · rw [u2_ne _ _ _ _ (Or.inr (by omega)), u2_ne _ _ _ _ (Or.inr (by omega)), k0, u2_same, if_pos (by omega), Nat.sub_self]; rfl
      · by_cases k1 : k = 8 * s + 1
        · rw [u2_ne _ _ _ _ (Or.inr (by omega)), k1, u2_same, if_pos (by omega), Nat.add_sub_cancel_left]; rfl
        · by_cases k2 : k = 8 * s + 2
          · rw [k2, u2_same, if_pos (by omega), Nat.add_sub_cancel_left]; rfl
          · rw [u2_ne _ _ _ _ (Or.inr k2), u2_ne _ _ _ _ (Or.inr k1), u2_ne _ _ _ _ (Or.inr k0), f1]
            by_cases h : 8 * s ≤ k ∧ k < 8 * s + 8
            · rw [if_pos h, if_pos h]; unfold nwF; rw [if_neg (by omega), if_neg (by omega), if_neg (by omega)]
            · rw [if_neg h, if_neg h], fun c hc => by
      rw [u2_row (fun e => hc (by rw [e]; decide)), u2_row (fun e => hc (by rw [e]; decide)), u2_row (fun e => hc (by rw [e]; decide)), u2_row (fun e => hc (by rw [e]; decide))]; exact f2 c (fun e => hc (by rw [e]; decide))⟩)
  · refine r_bipush C (v := -3) dX3_add_8 (by decide) ?_
    exact ri C Z dX3_add_10 (Or.inl ⟨by assumption, rfl, rfl⟩)
