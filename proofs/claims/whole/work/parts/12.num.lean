/-- the numbers of the straws and of the glass lie within their ranges -/
def NW (s : Int32) (T : Nat → Int32) : Prop := 0 ≤ s.toInt ∧ s.toInt ≤ 3 ∧
  (∀ j : Nat, (j : Int) < s.toInt → ((0 ≤ (T (8 * j + 0)).toInt ∧ (T (8 * j + 0)).toInt ≤ 20) ∧ (1 ≤ (T (8 * j + 1)).toInt ∧ (T (8 * j + 1)).toInt ≤ 9) ∧ (0 ≤ (T (8 * j + 2)).toInt ∧ (T (8 * j + 2)).toInt ≤ 999) ∧ (1 ≤ (T (8 * j + 3)).toInt ∧ (T (8 * j + 3)).toInt ≤ 99) ∧ (1 ≤ (T (8 * j + 4)).toInt ∧ (T (8 * j + 4)).toInt ≤ 60) ∧ (0 ≤ (T (8 * j + 5)).toInt ∧ (T (8 * j + 5)).toInt ≤ 60) ∧ (-1 ≤ (T (8 * j + 6)).toInt ∧ (T (8 * j + 6)).toInt ≤ 999) ∧ (0 ≤ (T (8 * j + 7)).toInt ∧ (T (8 * j + 7)).toInt ≤ 5000))) ∧
  (0 ≤ (T 24).toInt ∧ (T 24).toInt ≤ 9) ∧ (0 ≤ (T 25).toInt ∧ (T 25).toInt ≤ 999) ∧ (0 ≤ (T 26).toInt ∧ (T 26).toInt ≤ 9) ∧ (0 ≤ (T 27).toInt ∧ (T 27).toInt ≤ 12)
theorem NW.lt {s : Int32} {T : Nat → Int32} (h : NW s T) {j : Nat} (hj : (j : Int) < s.toInt) : j < 3 := by have := h.2.1; omega
/-- remainder as the machine has it -/
def irm (x y : Int32) : Int32 := x - x / y * y
theorem nIin {j n : Nat} (h : j < n) (hn : n < 1000000) : vp_in (nI j) n := vin (by rw [nIint (by omega)]; omega) (by rw [nIint (by omega)]; omega)
theorem nI_s (j : Nat) : nI j + 1 = nI (j + 1) := nI_1 j
/-- whether a straw draws in second s; a free one never stops -/
def drP (T : Nat → Int32) (j : Nat) (s : Int32) (free : Prop) : Prop := (free ∨ s.toInt < (T (8 * j + 7)).toInt) ∧ (irm s (T (8 * j + 4) + T (8 * j + 5))).toInt < (T (8 * j + 4)).toInt
theorem e2 (j w : Nat) (hj : j < 3) (hw : w < 8) : ix (nI j * 8 + nI w) = 8 * j + w := (tpl j w hj hw).1
-- drP with a decidable free part
set_option maxRecDepth 100000 in
theorem sX3_isDrawing {g : Gb} {d : Nat} (hd : 0 ≤ d) (j : Nat) (hj : j < 3) (s z : Int32) (I : Is) (J : Js) (b : Bool) (he : 1 ≤ (I 2 (8 * j + 4)).toInt ∧ (I 2 (8 * j + 4)).toInt ≤ 60) (hr : 0 ≤ (I 2 (8 * j + 5)).toInt ∧ (I 2 (8 * j + 5)).toInt ≤ 60) : MC9 g d mX3_isDrawing [.ref 1, .int (nI j), .int s, .int z] I J b (Qp (bI ((¬ z = 0 ∨ s.toInt < (I 2 (8 * j + 7)).toInt) ∧ (irm s (I 2 (8 * j + 4) + I 2 (8 * j + 5))).toInt < (I 2 (8 * j + 4)).toInt)) I J b) := by
  have hfree : True := trivial
  have i4 : ix (nI j * 8 + 4) = 8 * j + 4 := e2 j 4 hj (by decide)
  have i5 : ix (nI j * 8 + 5) = 8 * j + 5 := e2 j 5 hj (by decide)
  have i7 : ix (nI j * 8 + 7) = 8 * j + 7 := e2 j 7 hj (by decide)
  refine ent9 (own := RX3) rfl rfl rfl (fun X hg hx C Z => ?_)
  subst hg
  refine r_iload_n C dX3_isDrawing_0 rfl ?_
  refine r_bipush C (v := 8) dX3_isDrawing_1 (by decide) ?_
  refine r_imul C dX3_isDrawing_3 ?_
  refine r_istore C dX3_isDrawing_4 rfl rfl ?_
  refine r_iload_n C dX3_isDrawing_6 rfl ?_
  refine r_ifne C (tgt := 26) dX3_isDrawing_7 rfl (fun h7_1 => ?_) (fun h7_1 => ?_)
  · refine r_aload_n C dX3_isDrawing_26 rfl ?_
    refine r_getR C flX3_9 dX3_isDrawing_27 rfl rfl rfl ?_
    refine r_iload C dX3_isDrawing_30 rfl ?_
    refine r_iconst C (v := 4) dX3_isDrawing_32 (by decide) ?_
    refine r_iadd C dX3_isDrawing_33 ?_
    refine r_iald C rfl dX3_isDrawing_34 (tpl j 4 hj (by decide)).2 ?_
    refine r_istore C dX3_isDrawing_35 rfl rfl ?_
    refine r_iload C dX3_isDrawing_37 rfl ?_
    refine r_aload_n C dX3_isDrawing_39 rfl ?_
    refine r_getR C flX3_9 dX3_isDrawing_40 rfl rfl rfl ?_
    refine r_iload C dX3_isDrawing_43 rfl ?_
    refine r_iconst C (v := 5) dX3_isDrawing_45 (by decide) ?_
    refine r_iadd C dX3_isDrawing_46 ?_
    refine r_iald C rfl dX3_isDrawing_47 (tpl j 5 hj (by decide)).2 ?_
    refine r_iadd C dX3_isDrawing_48 ?_
    refine r_istore C dX3_isDrawing_49 rfl rfl ?_
    refine r_iload C dX3_isDrawing_51 rfl ?_
    refine b_ifle C (tgt := 69) dX3_isDrawing_53 rfl (fun h53_2 => ?_) (fun h53_2 => ?_)
    · refine r_iconst C (v := 0) dX3_isDrawing_69 (by decide) ?_
      exact rpz C Z dX3_isDrawing_70 rfl (by exfalso; simp only [i4, i5, i7] at *; have e := tI_add (x := I 2 (8 * j + 4)) (y := I 2 (8 * j + 5)) (by omega) (by omega); omega)
    · refine r_iload_n C dX3_isDrawing_56 rfl ?_
      refine r_iload C dX3_isDrawing_57 rfl ?_
      refine r_irem C dX3_isDrawing_59 (fun z => by simp only [i4, i5, i7] at *; rw [z] at h53_2; exact absurd h53_2 (by decide)) ?_
      refine r_iload C dX3_isDrawing_60 rfl ?_
      refine b_icge C (tgt := 69) rfl rfl dX3_isDrawing_62 rfl (fun h62_3 => ?_) (fun h62_3 => ?_)
      · refine r_iconst C (v := 0) dX3_isDrawing_69 (by decide) ?_
        exact rpz C Z dX3_isDrawing_70 rfl (bI_f (fun z => by simp only [i4, i5, i7] at *; have z2 := z.2; unfold irm at z2; omega)).symm
      · refine r_iconst C (v := 1) dX3_isDrawing_65 (by decide) ?_
        refine r_goto C (tgt := 70) dX3_isDrawing_66 rfl ?_
        exact rpz C Z dX3_isDrawing_70 rfl (bI_t ⟨Or.inl (by assumption), by simp only [i4, i5, i7] at *; assumption⟩).symm
  · refine r_iload_n C dX3_isDrawing_10 rfl ?_
    refine r_aload_n C dX3_isDrawing_11 rfl ?_
    refine r_getR C flX3_9 dX3_isDrawing_12 rfl rfl rfl ?_
    refine r_iload C dX3_isDrawing_15 rfl ?_
    refine r_bipush C (v := 7) dX3_isDrawing_17 (by decide) ?_
    refine r_iadd C dX3_isDrawing_19 ?_
    refine r_iald C rfl dX3_isDrawing_20 (tpl j 7 hj (by decide)).2 ?_
    refine b_iclt C (tgt := 26) rfl rfl dX3_isDrawing_21 rfl (fun h21_4 => ?_) (fun h21_4 => ?_)
    · refine r_aload_n C dX3_isDrawing_26 rfl ?_
      refine r_getR C flX3_9 dX3_isDrawing_27 rfl rfl rfl ?_
      refine r_iload C dX3_isDrawing_30 rfl ?_
      refine r_iconst C (v := 4) dX3_isDrawing_32 (by decide) ?_
      refine r_iadd C dX3_isDrawing_33 ?_
      refine r_iald C rfl dX3_isDrawing_34 (tpl j 4 hj (by decide)).2 ?_
      refine r_istore C dX3_isDrawing_35 rfl rfl ?_
      refine r_iload C dX3_isDrawing_37 rfl ?_
      refine r_aload_n C dX3_isDrawing_39 rfl ?_
      refine r_getR C flX3_9 dX3_isDrawing_40 rfl rfl rfl ?_
      refine r_iload C dX3_isDrawing_43 rfl ?_
      refine r_iconst C (v := 5) dX3_isDrawing_45 (by decide) ?_
      refine r_iadd C dX3_isDrawing_46 ?_
      refine r_iald C rfl dX3_isDrawing_47 (tpl j 5 hj (by decide)).2 ?_
      refine r_iadd C dX3_isDrawing_48 ?_
      refine r_istore C dX3_isDrawing_49 rfl rfl ?_
      refine r_iload C dX3_isDrawing_51 rfl ?_
      refine b_ifle C (tgt := 69) dX3_isDrawing_53 rfl (fun h53_5 => ?_) (fun h53_5 => ?_)
      · refine r_iconst C (v := 0) dX3_isDrawing_69 (by decide) ?_
        exact rpz C Z dX3_isDrawing_70 rfl (by exfalso; simp only [i4, i5, i7] at *; have e := tI_add (x := I 2 (8 * j + 4)) (y := I 2 (8 * j + 5)) (by omega) (by omega); omega)
      · refine r_iload_n C dX3_isDrawing_56 rfl ?_
        refine r_iload C dX3_isDrawing_57 rfl ?_
        refine r_irem C dX3_isDrawing_59 (fun z => by simp only [i4, i5, i7] at *; rw [z] at h53_5; exact absurd h53_5 (by decide)) ?_
        refine r_iload C dX3_isDrawing_60 rfl ?_
        refine b_icge C (tgt := 69) rfl rfl dX3_isDrawing_62 rfl (fun h62_6 => ?_) (fun h62_6 => ?_)
        · refine r_iconst C (v := 0) dX3_isDrawing_69 (by decide) ?_
          exact rpz C Z dX3_isDrawing_70 rfl (bI_f (fun z => by simp only [i4, i5, i7] at *; have z2 := z.2; unfold irm at z2; omega)).symm
        · refine r_iconst C (v := 1) dX3_isDrawing_65 (by decide) ?_
          refine r_goto C (tgt := 70) dX3_isDrawing_66 rfl ?_
          exact rpz C Z dX3_isDrawing_70 rfl (bI_t ⟨Or.inr (by simp only [i4, i5, i7] at *; omega), by simp only [i4, i5, i7] at *; assumption⟩).symm
    · refine r_iconst C (v := 0) dX3_isDrawing_24 (by decide) ?_
      exact rpz C Z dX3_isDrawing_25 rfl (bI_f (fun z => by simp only [i4, i5, i7] at *; rcases z.1 with z1 | z1 <;> first | contradiction | omega)).symm
/-- how sweet a unit is -/
def swF (T : Nat → Int32) (j : Nat) : Int32 := if (T (8 * j + 2)).toInt < (T 25).toInt then 1 + T 26 else 1
set_option maxRecDepth 100000 in
theorem sX3_sweetness {g : Gb} {d : Nat} (hd : 2 ≤ d) (j : Nat) (hj : j < 3) (I : Is) (J : Js) (b : Bool) : MC9 g d mX3_sweetness [.ref 1, .int (nI j)] I J b (Qp (swF (I 2) j) I J b) := by
  refine ent9 (own := RX3) rfl rfl rfl (fun X hg hx C Z => ?_)
  subst hg
  refine r_aload_n C dX3_sweetness_0 rfl ?_
  refine r_iload_n C dX3_sweetness_1 rfl ?_
  refine r_iconst C (v := 2) dX3_sweetness_2 (by decide) ?_
  refine cV (ci := 3) C hx (sOf (d := d - 1) j 2 hj (by decide) I J b) moX3_ofStraw mlX3_38 miX3_ofStraw msX3_ofStraw dX3_sweetness_3 rfl rfl rfl rfl rfl (by omega) rfl rfl (kp ?_)
  refine r_aload_n C dX3_sweetness_6 rfl ?_
  refine r_bipush C (v := 9) dX3_sweetness_7 (by decide) ?_
  refine cV (ci := 3) C hx (sOg (d := d - 1) (by omega) 9 (by decide) (by decide) I J b) moX3_ofGlass mlX3_42 miX3_ofGlass msX3_ofGlass dX3_sweetness_9 rfl rfl rfl rfl rfl (by omega) rfl rfl (kp ?_)
  refine b_icge C (tgt := 26) rfl rfl dX3_sweetness_12 rfl (fun h12_3 => ?_) (fun h12_3 => ?_)
  · refine r_iconst C (v := 1) dX3_sweetness_26 (by decide) ?_
    exact rp C Z dX3_sweetness_27 (if_neg (Int.not_lt.mpr (by assumption))).symm
  · refine r_iconst C (v := 1) dX3_sweetness_15 (by decide) ?_
    refine r_aload_n C dX3_sweetness_16 rfl ?_
    refine r_bipush C (v := 10) dX3_sweetness_17 (by decide) ?_
    refine cV (ci := 3) C hx (sOg (d := d - 1) (by omega) 10 (by decide) (by decide) I J b) moX3_ofGlass mlX3_42 miX3_ofGlass msX3_ofGlass dX3_sweetness_19 rfl rfl rfl rfl rfl (by omega) rfl rfl (kp ?_)
    refine r_iadd C dX3_sweetness_22 ?_
    refine r_goto C (tgt := 27) dX3_sweetness_23 rfl ?_
    exact rp C Z dX3_sweetness_27 (if_pos (by assumption)).symm
