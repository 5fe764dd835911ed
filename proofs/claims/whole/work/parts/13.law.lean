theorem r_drop {X : Cx} {pc : Nat} {L : List (Option Value)} {S : List Value} {σ : St} (j : Nat) (k : Aw X pc (L.set j none) S σ) : Aw X pc L S σ := by
  refine r_less (L' := L.set j none) (List.length_set ..) (fun i v h => ?_) k
  by_cases e : j = i
  · subst e
    have hlt : j < L.length := by
      have := (List.getElem?_eq_some_iff.mp h).1
      simpa using this
    rw [List.getElem?_set_self hlt] at h
    cases h
  · rwa [List.getElem?_set_ne e] at h
theorem ne_int {x : Int32} {z : Int32} (h : ¬ x = z) : x.toInt ≠ z.toInt := fun e => h (Int32.toInt_inj.mp e)
/-- a sign's work -/
def opF (op a b : Int32) : Int32 := if op = -9 then a * b else if op = -10 then (if b = 0 then 0 else a / b) else if op = -11 then (if b = 0 then 0 else irm a b) else if op = -12 then a + b else if op = -13 then a - b else if op = -14 then bI (a.toInt < b.toInt) else if op = -15 then bI (a = b) else if op = -16 then bI (b.toInt < a.toInt) else if op = -17 then bI (¬ a = 0 ∧ ¬ b = 0) else if op = -18 then bI (¬ a = 0 ∨ ¬ b = 0) else 0
set_option maxRecDepth 100000 in
set_option maxHeartbeats 4000000 in
theorem sX2_joined {g : Gb} {d : Nat} (hd : 0 ≤ d) (op x y : Int32) (I : Is) (J : Js) (b : Bool) : MC9 g d mX2_joined [.int op, .int x, .int y] I J b (Qp (opF op x y) I J b) := by
  refine ent9 (own := RX2) rfl rfl rfl (fun X hg hx C Z => ?_)
  subst hg
  refine r_iload_n C dX2_joined_0 rfl ?_
  by_cases c9 : op = -9
  · subst c9
    refine r_tabIn C (tgt := 56) dX2_joined_1 (by decide) (by decide) rfl rfl ?_
    refine r_iload_n C dX2_joined_56 rfl ?_
    refine r_iload_n C dX2_joined_57 rfl ?_
    refine r_imul C dX2_joined_58 ?_
    exact rp C Z dX2_joined_59 rfl
  have n9 := ne_int c9
  have m9 : (-9 : Int32).toInt = -9 := rfl
  by_cases c10 : op = -10
  · subst c10
    refine r_tabIn C (tgt := 60) dX2_joined_1 (by decide) (by decide) rfl rfl ?_
    refine r_iload_n C dX2_joined_60 rfl ?_
    refine r_ifne C (tgt := 68) dX2_joined_61 rfl (fun h61_1 => ?_) (fun h61_1 => ?_)
    · refine r_iload_n C dX2_joined_68 rfl ?_
      refine r_iload_n C dX2_joined_69 rfl ?_
      refine r_idiv C dX2_joined_70 (by assumption) ?_
      exact rp C Z dX2_joined_71 (by show _ = if y = 0 then _ else _; rw [if_neg (by assumption)]; try rfl)
    · refine r_iconst C (v := 0) dX2_joined_64 (by decide) ?_
      refine r_goto C (tgt := 71) dX2_joined_65 rfl ?_
      exact rp C Z dX2_joined_71 (by show _ = if y = 0 then _ else _; rw [if_pos (by assumption)])
  have n10 := ne_int c10
  have m10 : (-10 : Int32).toInt = -10 := rfl
  by_cases c11 : op = -11
  · subst c11
    refine r_tabIn C (tgt := 72) dX2_joined_1 (by decide) (by decide) rfl rfl ?_
    refine r_iload_n C dX2_joined_72 rfl ?_
    refine r_ifne C (tgt := 80) dX2_joined_73 rfl (fun h73_2 => ?_) (fun h73_2 => ?_)
    · refine r_iload_n C dX2_joined_80 rfl ?_
      refine r_iload_n C dX2_joined_81 rfl ?_
      refine r_irem C dX2_joined_82 (by assumption) ?_
      exact rp C Z dX2_joined_83 (by show _ = if y = 0 then _ else _; rw [if_neg (by assumption)]; try rfl)
    · refine r_iconst C (v := 0) dX2_joined_76 (by decide) ?_
      refine r_goto C (tgt := 83) dX2_joined_77 rfl ?_
      exact rp C Z dX2_joined_83 (by show _ = if y = 0 then _ else _; rw [if_pos (by assumption)])
  have n11 := ne_int c11
  have m11 : (-11 : Int32).toInt = -11 := rfl
  by_cases c12 : op = -12
  · subst c12
    refine r_tabIn C (tgt := 84) dX2_joined_1 (by decide) (by decide) rfl rfl ?_
    refine r_iload_n C dX2_joined_84 rfl ?_
    refine r_iload_n C dX2_joined_85 rfl ?_
    refine r_iadd C dX2_joined_86 ?_
    exact rp C Z dX2_joined_87 rfl
  have n12 := ne_int c12
  have m12 : (-12 : Int32).toInt = -12 := rfl
  by_cases c13 : op = -13
  · subst c13
    refine r_tabIn C (tgt := 88) dX2_joined_1 (by decide) (by decide) rfl rfl ?_
    refine r_iload_n C dX2_joined_88 rfl ?_
    refine r_iload_n C dX2_joined_89 rfl ?_
    refine r_isub C dX2_joined_90 ?_
    exact rp C Z dX2_joined_91 rfl
  have n13 := ne_int c13
  have m13 : (-13 : Int32).toInt = -13 := rfl
  by_cases c14 : op = -14
  · subst c14
    refine r_tabIn C (tgt := 92) dX2_joined_1 (by decide) (by decide) rfl rfl ?_
    refine r_iload_n C dX2_joined_92 rfl ?_
    refine r_iload_n C dX2_joined_93 rfl ?_
    refine b_icge C (tgt := 101) rfl rfl dX2_joined_94 rfl (fun h94_3 => ?_) (fun h94_3 => ?_)
    · refine r_iconst C (v := 0) dX2_joined_101 (by decide) ?_
      exact rp C Z dX2_joined_102 (bI_f (by omega)).symm
    · refine r_iconst C (v := 1) dX2_joined_97 (by decide) ?_
      refine r_goto C (tgt := 102) dX2_joined_98 rfl ?_
      exact rp C Z dX2_joined_102 (bI_t (by assumption)).symm
  have n14 := ne_int c14
  have m14 : (-14 : Int32).toInt = -14 := rfl
  by_cases c15 : op = -15
  · subst c15
    refine r_tabIn C (tgt := 103) dX2_joined_1 (by decide) (by decide) rfl rfl ?_
    refine r_iload_n C dX2_joined_103 rfl ?_
    refine r_iload_n C dX2_joined_104 rfl ?_
    refine r_icne C (tgt := 112) dX2_joined_105 rfl (fun h105_4 => ?_) (fun h105_4 => ?_)
    · refine r_iconst C (v := 0) dX2_joined_112 (by decide) ?_
      exact rp C Z dX2_joined_113 (bI_f (by assumption)).symm
    · refine r_iconst C (v := 1) dX2_joined_108 (by decide) ?_
      refine r_goto C (tgt := 113) dX2_joined_109 rfl ?_
      exact rp C Z dX2_joined_113 (bI_t (by assumption)).symm
  have n15 := ne_int c15
  have m15 : (-15 : Int32).toInt = -15 := rfl
  by_cases c16 : op = -16
  · subst c16
    refine r_tabIn C (tgt := 114) dX2_joined_1 (by decide) (by decide) rfl rfl ?_
    refine r_iload_n C dX2_joined_114 rfl ?_
    refine r_iload_n C dX2_joined_115 rfl ?_
    refine b_icle C (tgt := 123) rfl rfl dX2_joined_116 rfl (fun h116_5 => ?_) (fun h116_5 => ?_)
    · refine r_iconst C (v := 0) dX2_joined_123 (by decide) ?_
      exact rp C Z dX2_joined_124 (bI_f (by omega)).symm
    · refine r_iconst C (v := 1) dX2_joined_119 (by decide) ?_
      refine r_goto C (tgt := 124) dX2_joined_120 rfl ?_
      exact rp C Z dX2_joined_124 (bI_t (by assumption)).symm
  have n16 := ne_int c16
  have m16 : (-16 : Int32).toInt = -16 := rfl
  by_cases c17 : op = -17
  · subst c17
    refine r_tabIn C (tgt := 125) dX2_joined_1 (by decide) (by decide) rfl rfl ?_
    refine r_iload_n C dX2_joined_125 rfl ?_
    refine r_ifeq C (tgt := 137) dX2_joined_126 rfl (fun h126_6 => ?_) (fun h126_6 => ?_)
    · refine r_iconst C (v := 0) dX2_joined_137 (by decide) ?_
      exact rp C Z dX2_joined_138 (bI_f (fun z => absurd (by assumption) z.1)).symm
    · refine r_iload_n C dX2_joined_129 rfl ?_
      refine r_ifeq C (tgt := 137) dX2_joined_130 rfl (fun h130_7 => ?_) (fun h130_7 => ?_)
      · refine r_iconst C (v := 0) dX2_joined_137 (by decide) ?_
        exact rp C Z dX2_joined_138 (bI_f (fun z => absurd (by assumption) z.2)).symm
      · refine r_iconst C (v := 1) dX2_joined_133 (by decide) ?_
        refine r_goto C (tgt := 138) dX2_joined_134 rfl ?_
        exact rp C Z dX2_joined_138 (bI_t ⟨by assumption, by assumption⟩).symm
  have n17 := ne_int c17
  have m17 : (-17 : Int32).toInt = -17 := rfl
  by_cases c18 : op = -18
  · subst c18
    refine r_tabIn C (tgt := 139) dX2_joined_1 (by decide) (by decide) rfl rfl ?_
    refine r_iload_n C dX2_joined_139 rfl ?_
    refine r_ifne C (tgt := 147) dX2_joined_140 rfl (fun h140_8 => ?_) (fun h140_8 => ?_)
    · refine r_iconst C (v := 1) dX2_joined_147 (by decide) ?_
      refine r_goto C (tgt := 152) dX2_joined_148 rfl ?_
      exact rp C Z dX2_joined_152 (bI_t (Or.inl (by assumption))).symm
    · refine r_iload_n C dX2_joined_143 rfl ?_
      refine r_ifeq C (tgt := 151) dX2_joined_144 rfl (fun h144_9 => ?_) (fun h144_9 => ?_)
      · refine r_iconst C (v := 0) dX2_joined_151 (by decide) ?_
        exact rp C Z dX2_joined_152 (bI_f (fun z => z.elim (fun z => z (by assumption)) (fun z => z (by assumption)))).symm
      · refine r_iconst C (v := 1) dX2_joined_147 (by decide) ?_
        refine r_goto C (tgt := 152) dX2_joined_148 rfl ?_
        exact rp C Z dX2_joined_152 (bI_t (Or.inr (by assumption))).symm
  have n18 := ne_int c18
  have m18 : (-18 : Int32).toInt = -18 := rfl
  refine r_tabOut C (tgt := 153) dX2_joined_1 (by omega) rfl ?_
  refine r_iconst C (v := 0) dX2_joined_153 (by decide) ?_
  exact rp C Z dX2_joined_154 (by simp [opF, *])
/-- what a straw wants without a text -/
def plainF (T : Nat → Int32) (j : Nat) (t : Int32) : Int32 := T (8 * j + 0) * T (8 * j + 1) / 3 - t / T (8 * j + 3)
set_option maxRecDepth 100000 in
theorem sX2_plain {g : Gb} {d : Nat} (hd : 2 ≤ d) (j : Nat) (hj : j < 3) (t : Int32) (I : Is) (J : Js) (b : Bool) (ht : 1 ≤ (I 2 (8 * j + 3)).toInt) : MC9 g d mX2_plain [.ref 9, .int (nI j), .int t] I J b (Qp (plainF (I 2) j t) I J b) := by
  refine ent9 (own := RX2) rfl rfl rfl (fun X hg hx C Z => ?_)
  subst hg
  refine r_aload_n C dX2_plain_0 rfl ?_
  refine r_getR C flX2_27 dX2_plain_1 rfl rfl rfl ?_
  refine r_iload_n C dX2_plain_4 rfl ?_
  refine r_iconst C (v := 0) dX2_plain_5 (by decide) ?_
  refine cV (ci := 3) C hx (sOf (d := d - 1) j 0 hj (by decide) I J b) moX3_ofStraw mlX2_65 miX3_ofStraw msX3_ofStraw dX2_plain_6 rfl rfl rfl rfl rfl (by omega) rfl rfl (kp ?_)
  refine r_aload_n C dX2_plain_9 rfl ?_
  refine r_getR C flX2_27 dX2_plain_10 rfl rfl rfl ?_
  refine r_iload_n C dX2_plain_13 rfl ?_
  refine r_iconst C (v := 1) dX2_plain_14 (by decide) ?_
  refine cV (ci := 3) C hx (sOf (d := d - 1) j 1 hj (by decide) I J b) moX3_ofStraw mlX2_65 miX3_ofStraw msX3_ofStraw dX2_plain_15 rfl rfl rfl rfl rfl (by omega) rfl rfl (kp ?_)
  refine r_imul C dX2_plain_18 ?_
  refine r_iconst C (v := 3) dX2_plain_19 (by decide) ?_
  refine r_idiv C dX2_plain_20 (by decide) ?_
  refine r_istore_n C dX2_plain_21 rfl rfl ?_
  refine r_aload_n C dX2_plain_22 rfl ?_
  refine r_getR C flX2_27 dX2_plain_23 rfl rfl rfl ?_
  refine r_iload_n C dX2_plain_26 rfl ?_
  refine r_iconst C (v := 3) dX2_plain_27 (by decide) ?_
  refine cV (ci := 3) C hx (sOf (d := d - 1) j 3 hj (by decide) I J b) moX3_ofStraw mlX2_65 miX3_ofStraw msX3_ofStraw dX2_plain_28 rfl rfl rfl rfl rfl (by omega) rfl rfl (kp ?_)
  refine r_istore C dX2_plain_31 rfl rfl ?_
  refine r_iload C dX2_plain_33 rfl ?_
  refine b_ifle C (tgt := 47) dX2_plain_35 rfl (fun h35_4 => ?_) (fun h35_4 => ?_)
  · refine r_iload_n C dX2_plain_47 rfl ?_
    exact rp C Z dX2_plain_48 (by exfalso; omega)
  · refine r_iload_n C dX2_plain_38 rfl ?_
    refine r_iload_n C dX2_plain_39 rfl ?_
    refine r_iload C dX2_plain_40 rfl ?_
    refine r_idiv C dX2_plain_42 (fun z => by rw [z] at ht; exact absurd ht (by decide)) ?_
    refine r_isub C dX2_plain_43 ?_
    refine r_goto C (tgt := 48) dX2_plain_44 rfl ?_
    exact rp C Z dX2_plain_48 rfl
/-- the names' values -/
def nmF (T : Nat → Int32) (j : Nat) (l t : Int32) : Nat → Int32 := fun k => if k = 0 then T (8 * j + 0) else if k = 1 then T (8 * j + 1) else if k = 2 then t else if k = 3 then l else if k = 4 then l - T (8 * j + 2) else nI j
theorem r14 (i : Int32) (n : Nat) (h : i.toInt = (n : Int)) (hn : n < 6) : vp_in i (ln 14) := vin (by omega) (show i.toInt < 6 by omega)
set_option maxRecDepth 100000 in
theorem sX2_setNames {g : Gb} {d : Nat} (hd : 1 ≤ d) (j : Nat) (hj : j < 3) (l t : Int32) (I : Is) (J : Js) (b : Bool) : MC9 g d mX2_setNames [.ref 9, .int (nI j), .int l, .int t] I J b (Qv J b (fun I' => (∀ k, k < 6 → I' 14 k = nmF (I 2) j l t k) ∧ Fr [14] I I')) := by
  refine ent9 (own := RX2) rfl rfl rfl (fun X hg hx C Z => ?_)
  subst hg
  refine r_aload_n C dX2_setNames_0 rfl ?_
  refine r_getR C flX2_18 dX2_setNames_1 rfl rfl rfl ?_
  refine r_iconst C (v := 0) dX2_setNames_4 (by decide) ?_
  refine r_aload_n C dX2_setNames_5 rfl ?_
  refine r_getR C flX2_27 dX2_setNames_6 rfl rfl rfl ?_
  refine r_iload_n C dX2_setNames_9 rfl ?_
  refine r_iconst C (v := 0) dX2_setNames_10 (by decide) ?_
  refine cV (ci := 3) C hx (sOf (d := d - 1) j 0 hj (by decide) _ J b) moX3_ofStraw mlX2_65 miX3_ofStraw msX3_ofStraw dX2_setNames_11 rfl rfl rfl rfl rfl (by omega) rfl rfl (kp ?_)
  refine r_iast C rfl dX2_setNames_14 (r14 _ 0 rfl (by decide)) ?_
  refine r_aload_n C dX2_setNames_15 rfl ?_
  refine r_getR C flX2_18 dX2_setNames_16 rfl rfl rfl ?_
  refine r_iconst C (v := 1) dX2_setNames_19 (by decide) ?_
  refine r_aload_n C dX2_setNames_20 rfl ?_
  refine r_getR C flX2_27 dX2_setNames_21 rfl rfl rfl ?_
  refine r_iload_n C dX2_setNames_24 rfl ?_
  refine r_iconst C (v := 1) dX2_setNames_25 (by decide) ?_
  refine cV (ci := 3) C hx (sOf (d := d - 1) j 1 hj (by decide) _ J b) moX3_ofStraw mlX2_65 miX3_ofStraw msX3_ofStraw dX2_setNames_26 rfl rfl rfl rfl rfl (by omega) rfl rfl (kp ?_)
  refine r_iast C rfl dX2_setNames_29 (r14 _ 1 rfl (by decide)) ?_
  refine r_aload_n C dX2_setNames_30 rfl ?_
  refine r_getR C flX2_18 dX2_setNames_31 rfl rfl rfl ?_
  refine r_iconst C (v := 2) dX2_setNames_34 (by decide) ?_
  refine r_iload_n C dX2_setNames_35 rfl ?_
  refine r_iast C rfl dX2_setNames_36 (r14 _ 2 rfl (by decide)) ?_
  refine r_aload_n C dX2_setNames_37 rfl ?_
  refine r_getR C flX2_18 dX2_setNames_38 rfl rfl rfl ?_
  refine r_iconst C (v := 3) dX2_setNames_41 (by decide) ?_
  refine r_iload_n C dX2_setNames_42 rfl ?_
  refine r_iast C rfl dX2_setNames_43 (r14 _ 3 rfl (by decide)) ?_
  refine r_aload_n C dX2_setNames_44 rfl ?_
  refine r_getR C flX2_18 dX2_setNames_45 rfl rfl rfl ?_
  refine r_iconst C (v := 4) dX2_setNames_48 (by decide) ?_
  refine r_iload_n C dX2_setNames_49 rfl ?_
  refine r_aload_n C dX2_setNames_50 rfl ?_
  refine r_getR C flX2_27 dX2_setNames_51 rfl rfl rfl ?_
  refine r_iload_n C dX2_setNames_54 rfl ?_
  refine r_iconst C (v := 2) dX2_setNames_55 (by decide) ?_
  refine cV (ci := 3) C hx (sOf (d := d - 1) j 2 hj (by decide) _ J b) moX3_ofStraw mlX2_65 miX3_ofStraw msX3_ofStraw dX2_setNames_56 rfl rfl rfl rfl rfl (by omega) rfl rfl (kp ?_)
  refine r_isub C dX2_setNames_59 ?_
  refine r_iast C rfl dX2_setNames_60 (r14 _ 4 rfl (by decide)) ?_
  refine r_aload_n C dX2_setNames_61 rfl ?_
  refine r_getR C flX2_18 dX2_setNames_62 rfl rfl rfl ?_
  refine r_iconst C (v := 5) dX2_setNames_65 (by decide) ?_
  refine r_iload_n C dX2_setNames_66 rfl ?_
  refine r_iast C rfl dX2_setNames_67 (r14 _ 5 rfl (by decide)) ?_
  exact rv C Z dX2_setNames_68 ⟨fun k hk => by
      rcases (show k = 0 ∨ k = 1 ∨ k = 2 ∨ k = 3 ∨ k = 4 ∨ k = 5 by omega) with rfl | rfl | rfl | rfl | rfl | rfl <;> rfl, ((((((Fr.rf.st (by decide)).st (by decide)).st (by decide)).st (by decide)).st (by decide)).st (by decide))⟩
