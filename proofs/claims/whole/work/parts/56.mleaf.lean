theorem lgc_lt {x y : Int64} : (lg_cmp x y).toInt < 0 ↔ x.toInt < y.toInt := by
  unfold lg_cmp
  by_cases h : y < x
  · rw [if_pos h]
    have := Int64.lt_iff_toInt_lt.mp h
    exact ⟨fun z => absurd z (by decide), fun z => by omega⟩
  · rw [if_neg h]
    have h' : ¬ y.toInt < x.toInt := fun z => h (Int64.lt_iff_toInt_lt.mpr z)
    by_cases e : x = y
    · rw [if_pos e, e]
      exact ⟨fun z => absurd z (by decide), fun z => by omega⟩
    · rw [if_neg e]
      exact ⟨fun _ => by
        have : ¬ x.toInt = y.toInt := fun z => e (Int64.toInt_inj.mp z)
        omega, fun _ => by decide⟩
theorem lgc_gt {x y : Int64} : 0 < (lg_cmp x y).toInt ↔ y.toInt < x.toInt := by
  unfold lg_cmp
  by_cases h : y < x
  · rw [if_pos h]
    have := Int64.lt_iff_toInt_lt.mp h
    exact ⟨fun _ => this, fun _ => by decide⟩
  · rw [if_neg h]
    have h' : ¬ y.toInt < x.toInt := fun z => h (Int64.lt_iff_toInt_lt.mpr z)
    by_cases e : x = y
    · rw [if_pos e]
      exact ⟨fun z => absurd z (by decide), fun z => by omega⟩
    · rw [if_neg e]
      exact ⟨fun z => absurd z (by decide), fun z => by omega⟩
set_option maxRecDepth 100000 in
theorem sX10_within {g : Gb} {d : Nat} (hd : 0 ≤ d) (x y z : Int64) (I : Is) (J : Js) (b : Bool) : MC9 g d mX10_within [.long x, .long y, .long z] I J b (Qp (bI (y.toInt ≤ x.toInt ∧ x.toInt ≤ z.toInt)) I J b) := by
  refine ent9 (own := RX10) rfl rfl rfl (fun X hg hx C Z => ?_)
  subst hg
  refine r_lload_n C dX10_within_0 rfl ?_
  refine r_lload_n C dX10_within_1 rfl ?_
  refine r_lcmp C dX10_within_2 ?_
  refine b_iflt C (tgt := 17) dX10_within_3 rfl (fun h3_1 => ?_) (fun h3_1 => ?_)
  · refine r_iconst C (v := 0) dX10_within_17 (by decide) ?_
    exact rpz C Z dX10_within_18 rfl (by
      first
        | exact (bI_t ⟨by
            have h1 := (not_congr (lgc_lt (x := x) (y := y))).mp (by omega)
            omega, by
            have h1 := (not_congr (lgc_gt (x := x) (y := z))).mp (by omega)
            omega⟩).symm
        | exact (bI_f (fun w => by
            have h1 := (lgc_lt (x := x) (y := y)).mp (by assumption)
            omega)).symm
        | exact (bI_f (fun w => by
            have h1 := (lgc_gt (x := x) (y := z)).mp (by assumption)
            omega)).symm)
  · refine r_lload_n C dX10_within_6 rfl ?_
    refine r_lload C dX10_within_7 rfl ?_
    refine r_lcmp C dX10_within_9 ?_
    refine b_ifgt C (tgt := 17) dX10_within_10 rfl (fun h10_2 => ?_) (fun h10_2 => ?_)
    · refine r_iconst C (v := 0) dX10_within_17 (by decide) ?_
      exact rpz C Z dX10_within_18 rfl (by
      first
        | exact (bI_t ⟨by
            have h1 := (not_congr (lgc_lt (x := x) (y := y))).mp (by omega)
            omega, by
            have h1 := (not_congr (lgc_gt (x := x) (y := z))).mp (by omega)
            omega⟩).symm
        | exact (bI_f (fun w => by
            have h1 := (lgc_lt (x := x) (y := y)).mp (by assumption)
            omega)).symm
        | exact (bI_f (fun w => by
            have h1 := (lgc_gt (x := x) (y := z)).mp (by assumption)
            omega)).symm)
    · refine r_iconst C (v := 1) dX10_within_13 (by decide) ?_
      refine r_goto C (tgt := 18) dX10_within_14 rfl ?_
      exact rpz C Z dX10_within_18 rfl (by
      first
        | exact (bI_t ⟨by
            have h1 := (not_congr (lgc_lt (x := x) (y := y))).mp (by omega)
            omega, by
            have h1 := (not_congr (lgc_gt (x := x) (y := z))).mp (by omega)
            omega⟩).symm
        | exact (bI_f (fun w => by
            have h1 := (lgc_lt (x := x) (y := y)).mp (by assumption)
            omega)).symm
        | exact (bI_f (fun w => by
            have h1 := (lgc_gt (x := x) (y := z)).mp (by assumption)
            omega)).symm)
theorem sWi {g : Gb} {d : Nat} (v : Int32) {y z : Int64} {lo hi : Int} (hy : y.toInt = lo) (hz : z.toInt = hi) (I : Is) (J : Js) (b : Bool) : MC9 g d mX10_within [.long v.toInt64, .long y, .long z] I J b (Qp (bI (lo ≤ v.toInt ∧ v.toInt ≤ hi)) I J b) := by
  have h := sX10_within (g := g) (d := d) (Nat.zero_le d) v.toInt64 y z I J b
  subst hy
  subst hz
  rw [show v.toInt64.toInt = v.toInt from Int32.toInt_toInt64 v] at h
  exact h
theorem sWj {g : Gb} {d : Nat} (x : Int64) {y z : Int64} {lo hi : Int} (hy : y.toInt = lo) (hz : z.toInt = hi) (I : Is) (J : Js) (b : Bool) : MC9 g d mX10_within [.long x, .long y, .long z] I J b (Qp (bI (lo ≤ x.toInt ∧ x.toInt ≤ hi)) I J b) := by
  have h := sX10_within (g := g) (d := d) (Nat.zero_le d) x y z I J b
  subst hy
  subst hz
  exact h
set_option maxRecDepth 100000 in
theorem sX10_isShelf {g : Gb} {d : Nat} (hd : 1 ≤ d) (v : Int32) (I : Is) (J : Js) (b : Bool) : MC9 g d mX10_isShelf [.int v] I J b (Qp (bI (0 ≤ v.toInt ∧ v.toInt ≤ 5)) I J b) := by
  refine ent9 (own := RX10) rfl rfl rfl (fun X hg hx C Z => ?_)
  subst hg
  refine r_iload_n C dX10_isShelf_0 rfl ?_
  refine r_i2l C dX10_isShelf_1 ?_
  refine r_lconst C (v := 0) dX10_isShelf_2 (by decide) ?_
  refine r_ldc2 C kkX10_343 dX10_isShelf_3 ?_
  refine cS C hx (sWi (d := d - 1) _ (lo := 0) (hi := 5) rfl rfl I J b) moX10_within mlX10_105 mtX10_within dX10_isShelf_6 rfl rfl (by omega) rfl rfl (kp ?_)
  exact rpz C Z dX10_isShelf_9 bI_nar rfl
set_option maxRecDepth 100000 in
theorem sX10_isSoon {g : Gb} {d : Nat} (hd : 1 ≤ d) (v : Int32) (I : Is) (J : Js) (b : Bool) : MC9 g d mX10_isSoon [.int v] I J b (Qp (bI (0 ≤ v.toInt ∧ v.toInt ≤ 60)) I J b) := by
  refine ent9 (own := RX10) rfl rfl rfl (fun X hg hx C Z => ?_)
  subst hg
  refine r_iload_n C dX10_isSoon_0 rfl ?_
  refine r_i2l C dX10_isSoon_1 ?_
  refine r_lconst C (v := 0) dX10_isSoon_2 (by decide) ?_
  refine r_ldc2 C kkX10_139 dX10_isSoon_3 ?_
  refine cS C hx (sWi (d := d - 1) _ (lo := 0) (hi := 60) rfl rfl I J b) moX10_within mlX10_105 mtX10_within dX10_isSoon_6 rfl rfl (by omega) rfl rfl (kp ?_)
  exact rpz C Z dX10_isSoon_9 bI_nar rfl
set_option maxRecDepth 100000 in
theorem sX10_isStraw {g : Gb} {d : Nat} (hd : 1 ≤ d) (k : Int32) (I : Is) (J : Js) (b : Bool) (hs0 : 0 ≤ (I 64 6).toInt) (hs3 : (I 64 6).toInt ≤ 3) : MC9 g d mX10_isStraw [.ref 64, .int k] I J b (Qp (bI (0 ≤ k.toInt ∧ k.toInt < (I 64 6).toInt)) I J b) := by
  have hz : ((I 64 6 - 1).toInt64).toInt = (I 64 6).toInt - 1 := by rw [Int32.toInt_toInt64, tI_sub (by rw [one_int]; omega) (by rw [one_int]; omega), one_int]
  refine ent9 (own := RX10) rfl rfl rfl (fun X hg hx C Z => ?_)
  subst hg
  refine r_iload_n C dX10_isStraw_0 rfl ?_
  refine r_i2l C dX10_isStraw_1 ?_
  refine r_lconst C (v := 0) dX10_isStraw_2 (by decide) ?_
  refine r_aload_n C dX10_isStraw_3 rfl ?_
  refine r_getI C flX10_102 dX10_isStraw_4 rfl rfl ?_
  refine r_iconst C (v := 1) dX10_isStraw_7 (by decide) ?_
  refine r_isub C dX10_isStraw_8 ?_
  refine r_i2l C dX10_isStraw_9 ?_
  refine cS C hx (sWi (d := d - 1) _ (lo := 0) (hi := (I 64 6).toInt - 1) rfl hz I J b) moX10_within mlX10_105 mtX10_within dX10_isStraw_10 rfl rfl (by omega) rfl rfl (kp ?_)
  exact rpz C Z dX10_isStraw_13 bI_nar (bI_congr (by omega))
set_option maxRecDepth 100000 in
theorem sX10_isBody {g : Gb} {d : Nat} (hd : 1 ≤ d) (k : Int32) (I : Is) (J : Js) (b : Bool) (hb0 : 0 ≤ (I 64 43).toInt) (hb5 : (I 64 43).toInt ≤ 50) : MC9 g d mX10_isBody [.ref 64, .int k] I J b (Qp (bI (0 ≤ k.toInt ∧ k.toInt < (I 64 43).toInt)) I J b) := by
  have hz : ((I 64 43 - 1).toInt64).toInt = (I 64 43).toInt - 1 := by rw [Int32.toInt_toInt64, tI_sub (by rw [one_int]; omega) (by rw [one_int]; omega), one_int]
  refine ent9 (own := RX10) rfl rfl rfl (fun X hg hx C Z => ?_)
  subst hg
  refine r_iload_n C dX10_isBody_0 rfl ?_
  refine r_i2l C dX10_isBody_1 ?_
  refine r_lconst C (v := 0) dX10_isBody_2 (by decide) ?_
  refine r_aload_n C dX10_isBody_3 rfl ?_
  refine r_getI C flX10_313 dX10_isBody_4 rfl rfl ?_
  refine r_iconst C (v := 1) dX10_isBody_7 (by decide) ?_
  refine r_isub C dX10_isBody_8 ?_
  refine r_i2l C dX10_isBody_9 ?_
  refine cS C hx (sWi (d := d - 1) _ (lo := 0) (hi := (I 64 43).toInt - 1) rfl hz I J b) moX10_within mlX10_105 mtX10_within dX10_isBody_10 rfl rfl (by omega) rfl rfl (kp ?_)
  exact rpz C Z dX10_isBody_13 bI_nar (bI_congr (by omega))
theorem mpl (j w : Nat) (hj : j < 3) (hw : w < 8) : ix (8 * nI j + nI w) = 8 * j + w ∧ vp_in (8 * nI j + nI w) 28 := by
  have := tpl j w hj hw
  rw [Int32.mul_comm]
  exact this
set_option maxRecDepth 100000 in
theorem sX10_ofStraw {g : Gb} {d : Nat} (j w : Nat) (hj : j < 3) (hw : w < 8) (I : Is) (J : Js) (b : Bool) : MC9 g d mX10_ofStraw [.ref 64, .int (nI j), .int (nI w)] I J b (Qp (I 65 (8 * j + w)) I J b) := by
  refine ent9 (own := RX10) rfl rfl rfl (fun X hg hx C Z => ?_)
  subst hg
  refine r_aload_n C dX10_ofStraw_0 rfl ?_
  refine r_getR C flX10_9 dX10_ofStraw_1 rfl rfl rfl ?_
  refine r_bipush C (v := 8) dX10_ofStraw_4 (by decide) ?_
  refine r_iload_n C dX10_ofStraw_6 rfl ?_
  refine r_imul C dX10_ofStraw_7 ?_
  refine r_iload_n C dX10_ofStraw_8 rfl ?_
  refine r_iadd C dX10_ofStraw_9 ?_
  refine r_iald C rfl dX10_ofStraw_10 (mpl j w hj hw).2 ?_
  exact rp C Z dX10_ofStraw_11 (by rw [(mpl j w hj hw).1])
set_option maxRecDepth 100000 in
theorem sX10_isOne {g : Gb} {d : Nat} (hd : 1 ≤ d) (x y z : Int64) (I : Is) (J : Js) (b : Bool) : MC9 g d mX10_isOne [.long x, .long y, .long z] I J b (Qp (bI ((0 ≤ x.toInt ∧ x.toInt ≤ 20) ∧ (1 ≤ y.toInt ∧ y.toInt ≤ 9) ∧ (0 ≤ z.toInt ∧ z.toInt ≤ 999))) I J b) := by
  refine ent9 (own := RX10) rfl rfl rfl (fun X hg hx C Z => ?_)
  subst hg
  refine r_lload_n C dX10_isOne_0 rfl ?_
  refine r_lconst C (v := 0) dX10_isOne_1 (by decide) ?_
  refine r_ldc2 C kkX10_109 dX10_isOne_2 ?_
  refine cS C hx (sWj (d := d - 1) x (lo := 0) (hi := 20) rfl rfl I J b) moX10_within mlX10_105 mtX10_within dX10_isOne_5 rfl rfl (by omega) rfl rfl (kp ?_)
  refine z_ifeq C (tgt := 38) dX10_isOne_8 rfl (fun h8_2 => ?_) (fun h8_2 => ?_)
  · refine r_iconst C (v := 0) dX10_isOne_38 (by decide) ?_
    exact rpz C Z dX10_isOne_39 rfl (by first | exact (bI_t ⟨by assumption, by assumption, by assumption⟩).symm | exact (bI_f (fun w => by have z1 := w.1; have z2 := w.2.1; have z3 := w.2.2; contradiction)).symm)
  · refine r_lload_n C dX10_isOne_11 rfl ?_
    refine r_lconst C (v := 1) dX10_isOne_12 (by decide) ?_
    refine r_ldc2 C kkX10_111 dX10_isOne_13 ?_
    refine cS C hx (sWj (d := d - 1) y (lo := 1) (hi := 9) rfl rfl I J b) moX10_within mlX10_105 mtX10_within dX10_isOne_16 rfl rfl (by omega) rfl rfl (kp ?_)
    refine z_ifeq C (tgt := 38) dX10_isOne_19 rfl (fun h19_4 => ?_) (fun h19_4 => ?_)
    · refine r_iconst C (v := 0) dX10_isOne_38 (by decide) ?_
      exact rpz C Z dX10_isOne_39 rfl (by first | exact (bI_t ⟨by assumption, by assumption, by assumption⟩).symm | exact (bI_f (fun w => by have z1 := w.1; have z2 := w.2.1; have z3 := w.2.2; contradiction)).symm)
    · refine r_lload C dX10_isOne_22 rfl ?_
      refine r_lconst C (v := 0) dX10_isOne_24 (by decide) ?_
      refine r_ldc2 C kkX10_113 dX10_isOne_25 ?_
      refine cS C hx (sWj (d := d - 1) z (lo := 0) (hi := 999) rfl rfl I J b) moX10_within mlX10_105 mtX10_within dX10_isOne_28 rfl rfl (by omega) rfl rfl (kp ?_)
      refine z_ifeq C (tgt := 38) dX10_isOne_31 rfl (fun h31_6 => ?_) (fun h31_6 => ?_)
      · refine r_iconst C (v := 0) dX10_isOne_38 (by decide) ?_
        exact rpz C Z dX10_isOne_39 rfl (by first | exact (bI_t ⟨by assumption, by assumption, by assumption⟩).symm | exact (bI_f (fun w => by have z1 := w.1; have z2 := w.2.1; have z3 := w.2.2; contradiction)).symm)
      · refine r_iconst C (v := 1) dX10_isOne_34 (by decide) ?_
        refine r_goto C (tgt := 39) dX10_isOne_35 rfl ?_
        exact rpz C Z dX10_isOne_39 rfl (by first | exact (bI_t ⟨by assumption, by assumption, by assumption⟩).symm | exact (bI_f (fun w => by have z1 := w.1; have z2 := w.2.1; have z3 := w.2.2; contradiction)).symm)
set_option maxRecDepth 100000 in
theorem sX10_areTwo {g : Gb} {d : Nat} (hd : 2 ≤ d) (ab : Int32) (I : Is) (J : Js) (b : Bool) (hs0 : 0 ≤ (I 64 6).toInt) (hs3 : (I 64 6).toInt ≤ 3) : MC9 g d mX10_areTwo [.ref 64, .int ab] I J b (Qp (bI (0 ≤ ab.toInt ∧ (0 ≤ (ab / 10).toInt ∧ (ab / 10).toInt < (I 64 6).toInt) ∧ (0 ≤ (ab - ab / 10 * 10).toInt ∧ (ab - ab / 10 * 10).toInt < (I 64 6).toInt) ∧ ¬ ab / 10 = ab - ab / 10 * 10)) I J b) := by
  refine ent9 (own := RX10) rfl rfl rfl (fun X hg hx C Z => ?_)
  subst hg
  refine r_iload_n C dX10_areTwo_0 rfl ?_
  refine b_iflt C (tgt := 41) dX10_areTwo_1 rfl (fun h1_1 => ?_) (fun h1_1 => ?_)
  · refine r_iconst C (v := 0) dX10_areTwo_41 (by decide) ?_
    exact rpz C Z dX10_areTwo_42 rfl (by first | exact (bI_t ⟨by omega, by assumption, by assumption, by assumption⟩).symm | exact (bI_f (fun z => by have z1 := z.1; have z2 := z.2.1; have z3 := z.2.2.1; have z4 := z.2.2.2; first | omega | contradiction)).symm)
  · refine r_aload_n C dX10_areTwo_4 rfl ?_
    refine r_iload_n C dX10_areTwo_5 rfl ?_
    refine r_bipush C (v := 10) dX10_areTwo_6 (by decide) ?_
    refine r_idiv C dX10_areTwo_8 (by decide) ?_
    refine cV (ci := 10) C hx (sX10_isStraw (d := d - 1) (by omega) _ I J b hs0 hs3) moX10_isStraw mlX10_130 miX10_isStraw msX10_isStraw dX10_areTwo_9 rfl rfl rfl rfl rfl (by omega) rfl rfl (kp ?_)
    refine z_ifeq C (tgt := 41) dX10_areTwo_12 rfl (fun h12_3 => ?_) (fun h12_3 => ?_)
    · refine r_iconst C (v := 0) dX10_areTwo_41 (by decide) ?_
      exact rpz C Z dX10_areTwo_42 rfl (by first | exact (bI_t ⟨by omega, by assumption, by assumption, by assumption⟩).symm | exact (bI_f (fun z => by have z1 := z.1; have z2 := z.2.1; have z3 := z.2.2.1; have z4 := z.2.2.2; first | omega | contradiction)).symm)
    · refine r_aload_n C dX10_areTwo_15 rfl ?_
      refine r_iload_n C dX10_areTwo_16 rfl ?_
      refine r_bipush C (v := 10) dX10_areTwo_17 (by decide) ?_
      refine r_irem C dX10_areTwo_19 (by decide) ?_
      refine cV (ci := 10) C hx (sX10_isStraw (d := d - 1) (by omega) _ I J b hs0 hs3) moX10_isStraw mlX10_130 miX10_isStraw msX10_isStraw dX10_areTwo_20 rfl rfl rfl rfl rfl (by omega) rfl rfl (kp ?_)
      refine z_ifeq C (tgt := 41) dX10_areTwo_23 rfl (fun h23_5 => ?_) (fun h23_5 => ?_)
      · refine r_iconst C (v := 0) dX10_areTwo_41 (by decide) ?_
        exact rpz C Z dX10_areTwo_42 rfl (by first | exact (bI_t ⟨by omega, by assumption, by assumption, by assumption⟩).symm | exact (bI_f (fun z => by have z1 := z.1; have z2 := z.2.1; have z3 := z.2.2.1; have z4 := z.2.2.2; first | omega | contradiction)).symm)
      · refine r_iload_n C dX10_areTwo_26 rfl ?_
        refine r_bipush C (v := 10) dX10_areTwo_27 (by decide) ?_
        refine r_idiv C dX10_areTwo_29 (by decide) ?_
        refine r_iload_n C dX10_areTwo_30 rfl ?_
        refine r_bipush C (v := 10) dX10_areTwo_31 (by decide) ?_
        refine r_irem C dX10_areTwo_33 (by decide) ?_
        refine r_iceq C (tgt := 41) dX10_areTwo_34 rfl (fun h34_6 => ?_) (fun h34_6 => ?_)
        · refine r_iconst C (v := 0) dX10_areTwo_41 (by decide) ?_
          exact rpz C Z dX10_areTwo_42 rfl (by first | exact (bI_t ⟨by omega, by assumption, by assumption, by assumption⟩).symm | exact (bI_f (fun z => by have z1 := z.1; have z2 := z.2.1; have z3 := z.2.2.1; have z4 := z.2.2.2; first | omega | contradiction)).symm)
        · refine r_iconst C (v := 1) dX10_areTwo_37 (by decide) ?_
          refine r_goto C (tgt := 42) dX10_areTwo_38 rfl ?_
          exact rpz C Z dX10_areTwo_42 rfl (by first | exact (bI_t ⟨by omega, by assumption, by assumption, by assumption⟩).symm | exact (bI_f (fun z => by have z1 := z.1; have z2 := z.2.1; have z3 := z.2.2.1; have z4 := z.2.2.2; first | omega | contradiction)).symm)
/-- a straw's bit as the reference reads it -/
def bitM (w : Int32) (j : Nat) : Bool := decide ((w >>> (nI j &&& 31)) &&& 1 = 1)
set_option maxRecDepth 100000 in
theorem sX10_isIn {g : Gb} {d : Nat} (hd : 0 ≤ d) (w : Int32) (j : Nat) (I : Is) (J : Js) (b : Bool) : MC9 g d mX10_isIn [.int w, .int (nI j)] I J b (Qp (bI (bitM w j = true)) I J b) := by
  refine ent9 (own := RX10) rfl rfl rfl (fun X hg hx C Z => ?_)
  subst hg
  refine r_iload_n C dX10_isIn_0 rfl ?_
  refine r_iload_n C dX10_isIn_1 rfl ?_
  refine r_ishr C dX10_isIn_2 ?_
  refine r_iconst C (v := 1) dX10_isIn_3 (by decide) ?_
  refine r_iand C dX10_isIn_4 ?_
  refine r_iconst C (v := 1) dX10_isIn_5 (by decide) ?_
  refine r_icne C (tgt := 13) dX10_isIn_6 rfl (fun h6_1 => ?_) (fun h6_1 => ?_)
  · refine r_iconst C (v := 0) dX10_isIn_13 (by decide) ?_
    exact rpz C Z dX10_isIn_14 rfl (by unfold bitM; first | exact (bI_t (decide_eq_true (by assumption))).symm | exact (bI_f (fun z => absurd (of_decide_eq_true z) (by assumption))).symm)
  · refine r_iconst C (v := 1) dX10_isIn_9 (by decide) ?_
    refine r_goto C (tgt := 14) dX10_isIn_10 rfl ?_
    exact rpz C Z dX10_isIn_14 rfl (by unfold bitM; first | exact (bI_t (decide_eq_true (by assumption))).symm | exact (bI_f (fun z => absurd (of_decide_eq_true z) (by assumption))).symm)
set_option maxRecDepth 100000 in
theorem sX10_above {g : Gb} {d : Nat} (hd : 0 ≤ d) (k : Int32) (I : Is) (J : Js) (b : Bool) : MC9 g d mX10_above [.int k] I J b (Qp (if k = 3 then 2 else if k = 4 then 1 else if k = 5 then 3 else if k = 7 then 4 else 0) I J b) := by
  refine ent9 (own := RX10) rfl rfl rfl (fun X hg hx C Z => ?_)
  subst hg
  refine r_iload_n C dX10_above_0 rfl ?_
  refine r_iconst C (v := 3) dX10_above_1 (by decide) ?_
  refine r_icne C (tgt := 9) dX10_above_2 rfl (fun h2_1 => ?_) (fun h2_1 => ?_)
  · refine r_iload_n C dX10_above_9 rfl ?_
    refine r_iconst C (v := 4) dX10_above_10 (by decide) ?_
    refine r_icne C (tgt := 18) dX10_above_11 rfl (fun h11_2 => ?_) (fun h11_2 => ?_)
    · refine r_iload_n C dX10_above_18 rfl ?_
      refine r_iconst C (v := 5) dX10_above_19 (by decide) ?_
      refine r_icne C (tgt := 27) dX10_above_20 rfl (fun h20_3 => ?_) (fun h20_3 => ?_)
      · refine r_iload_n C dX10_above_27 rfl ?_
        refine r_bipush C (v := 7) dX10_above_28 (by decide) ?_
        refine r_icne C (tgt := 37) dX10_above_30 rfl (fun h30_4 => ?_) (fun h30_4 => ?_)
        · refine r_iconst C (v := 0) dX10_above_37 (by decide) ?_
          exact rp C Z dX10_above_38 (by repeat (first | rfl | rw [if_pos (by assumption)] | rw [if_neg (by assumption)]))
        · refine r_iconst C (v := 4) dX10_above_33 (by decide) ?_
          refine r_goto C (tgt := 38) dX10_above_34 rfl ?_
          exact rp C Z dX10_above_38 (by repeat (first | rfl | rw [if_pos (by assumption)] | rw [if_neg (by assumption)]))
      · refine r_iconst C (v := 3) dX10_above_23 (by decide) ?_
        refine r_goto C (tgt := 38) dX10_above_24 rfl ?_
        exact rp C Z dX10_above_38 (by repeat (first | rfl | rw [if_pos (by assumption)] | rw [if_neg (by assumption)]))
    · refine r_iconst C (v := 1) dX10_above_14 (by decide) ?_
      refine r_goto C (tgt := 38) dX10_above_15 rfl ?_
      exact rp C Z dX10_above_38 (by repeat (first | rfl | rw [if_pos (by assumption)] | rw [if_neg (by assumption)]))
  · refine r_iconst C (v := 2) dX10_above_5 (by decide) ?_
    refine r_goto C (tgt := 38) dX10_above_6 rfl ?_
    exact rp C Z dX10_above_38 (by repeat (first | rfl | rw [if_pos (by assumption)] | rw [if_neg (by assumption)]))
set_option maxRecDepth 100000 in
theorem sX10_kindOf {g : Gb} {d : Nat} (hd : 0 ≤ d) (k : Int32) (I : Is) (J : Js) (b : Bool) (hk : vp_in k 50) : MC9 g d mX10_kindOf [.ref 64, .int k] I J b (Qp (I 85 (ix k)) I J b) := by
  refine ent9 (own := RX10) rfl rfl rfl (fun X hg hx C Z => ?_)
  subst hg
  refine r_aload_n C dX10_kindOf_0 rfl ?_
  refine r_getR C flX10_70 dX10_kindOf_1 rfl rfl rfl ?_
  refine r_iload_n C dX10_kindOf_4 rfl ?_
  refine r_iald C rfl dX10_kindOf_5 hk ?_
  exact rp C Z dX10_kindOf_6 rfl
/-- where a number lies, as the reference has it -/
def plM (s n w : Int32) : Int32 := if 0 ≤ w.toInt ∧ w.toInt ≤ 7 then (if 0 ≤ n.toInt ∧ n.toInt < s.toInt then 8 * n + w else -1) else if n = 0 ∧ 8 ≤ w.toInt ∧ w.toInt ≤ 11 then 24 + w - 8 else -1
set_option maxRecDepth 100000 in
theorem sX10_placeOf {g : Gb} {d : Nat} (hd : 2 ≤ d) (n w : Int32) (I : Is) (J : Js) (b : Bool) (hs0 : 0 ≤ (I 64 6).toInt) (hs3 : (I 64 6).toInt ≤ 3) : MC9 g d mX10_placeOf [.ref 64, .int n, .int w] I J b (Qp (plM (I 64 6) n w) I J b) := by
  refine ent9 (own := RX10) rfl rfl rfl (fun X hg hx C Z => ?_)
  subst hg
  refine r_iload_n C dX10_placeOf_0 rfl ?_
  refine r_i2l C dX10_placeOf_1 ?_
  refine r_lconst C (v := 0) dX10_placeOf_2 (by decide) ?_
  refine r_ldc2 C kkX10_128 dX10_placeOf_3 ?_
  refine cS C hx (sWi (d := d - 1) _ (lo := 0) (hi := 7) rfl rfl I J b) moX10_within mlX10_105 mtX10_within dX10_placeOf_6 rfl rfl (by omega) rfl rfl (kp ?_)
  refine z_ifeq C (tgt := 31) dX10_placeOf_9 rfl (fun h9_2 => ?_) (fun h9_2 => ?_)
  · refine r_iload_n C dX10_placeOf_31 rfl ?_
    refine r_ifne C (tgt := 59) dX10_placeOf_32 rfl (fun h32_3 => ?_) (fun h32_3 => ?_)
    · refine r_iconst C (v := -1) dX10_placeOf_59 (by decide) ?_
      exact rp C Z dX10_placeOf_60 (by
      unfold plM
      first
        | exact ((if_pos (by assumption)).trans (if_pos (by assumption))).symm
        | exact ((if_pos (by assumption)).trans (if_neg (by assumption))).symm
        | exact ((if_neg (by assumption)).trans (if_pos ⟨by assumption, by assumption⟩)).symm
        | exact ((if_neg (by assumption)).trans (if_neg (fun z => absurd z.1 (by assumption)))).symm
        | exact ((if_neg (by assumption)).trans (if_neg (fun z => absurd z.2 (by assumption)))).symm)
    · refine r_iload_n C dX10_placeOf_35 rfl ?_
      refine r_i2l C dX10_placeOf_36 ?_
      refine r_ldc2 C kkX10_133 dX10_placeOf_37 ?_
      refine r_ldc2 C kkX10_135 dX10_placeOf_40 ?_
      refine cS C hx (sWi (d := d - 1) _ (lo := 8) (hi := 11) rfl rfl I J b) moX10_within mlX10_105 mtX10_within dX10_placeOf_43 rfl rfl (by omega) rfl rfl (kp ?_)
      refine z_ifeq C (tgt := 59) dX10_placeOf_46 rfl (fun h46_5 => ?_) (fun h46_5 => ?_)
      · refine r_iconst C (v := -1) dX10_placeOf_59 (by decide) ?_
        exact rp C Z dX10_placeOf_60 (by
      unfold plM
      first
        | exact ((if_pos (by assumption)).trans (if_pos (by assumption))).symm
        | exact ((if_pos (by assumption)).trans (if_neg (by assumption))).symm
        | exact ((if_neg (by assumption)).trans (if_pos ⟨by assumption, by assumption⟩)).symm
        | exact ((if_neg (by assumption)).trans (if_neg (fun z => absurd z.1 (by assumption)))).symm
        | exact ((if_neg (by assumption)).trans (if_neg (fun z => absurd z.2 (by assumption)))).symm)
      · refine r_bipush C (v := 24) dX10_placeOf_49 (by decide) ?_
        refine r_iload_n C dX10_placeOf_51 rfl ?_
        refine r_iadd C dX10_placeOf_52 ?_
        refine r_bipush C (v := 8) dX10_placeOf_53 (by decide) ?_
        refine r_isub C dX10_placeOf_55 ?_
        refine r_goto C (tgt := 60) dX10_placeOf_56 rfl ?_
        exact rp C Z dX10_placeOf_60 (by
      unfold plM
      first
        | exact ((if_pos (by assumption)).trans (if_pos (by assumption))).symm
        | exact ((if_pos (by assumption)).trans (if_neg (by assumption))).symm
        | exact ((if_neg (by assumption)).trans (if_pos ⟨by assumption, by assumption⟩)).symm
        | exact ((if_neg (by assumption)).trans (if_neg (fun z => absurd z.1 (by assumption)))).symm
        | exact ((if_neg (by assumption)).trans (if_neg (fun z => absurd z.2 (by assumption)))).symm)
  · refine r_aload_n C dX10_placeOf_12 rfl ?_
    refine r_iload_n C dX10_placeOf_13 rfl ?_
    refine cV (ci := 10) C hx (sX10_isStraw (d := d - 1) (by omega) _ I J b hs0 hs3) moX10_isStraw mlX10_130 miX10_isStraw msX10_isStraw dX10_placeOf_14 rfl rfl rfl rfl rfl (by omega) rfl rfl (kp ?_)
    refine z_ifeq C (tgt := 29) dX10_placeOf_17 rfl (fun h17_7 => ?_) (fun h17_7 => ?_)
    · refine r_iconst C (v := -1) dX10_placeOf_29 (by decide) ?_
      exact rp C Z dX10_placeOf_30 (by
      unfold plM
      first
        | exact ((if_pos (by assumption)).trans (if_pos (by assumption))).symm
        | exact ((if_pos (by assumption)).trans (if_neg (by assumption))).symm
        | exact ((if_neg (by assumption)).trans (if_pos ⟨by assumption, by assumption⟩)).symm
        | exact ((if_neg (by assumption)).trans (if_neg (fun z => absurd z.1 (by assumption)))).symm
        | exact ((if_neg (by assumption)).trans (if_neg (fun z => absurd z.2 (by assumption)))).symm)
    · refine r_bipush C (v := 8) dX10_placeOf_20 (by decide) ?_
      refine r_iload_n C dX10_placeOf_22 rfl ?_
      refine r_imul C dX10_placeOf_23 ?_
      refine r_iload_n C dX10_placeOf_24 rfl ?_
      refine r_iadd C dX10_placeOf_25 ?_
      refine r_goto C (tgt := 30) dX10_placeOf_26 rfl ?_
      exact rp C Z dX10_placeOf_30 (by
      unfold plM
      first
        | exact ((if_pos (by assumption)).trans (if_pos (by assumption))).symm
        | exact ((if_pos (by assumption)).trans (if_neg (by assumption))).symm
        | exact ((if_neg (by assumption)).trans (if_pos ⟨by assumption, by assumption⟩)).symm
        | exact ((if_neg (by assumption)).trans (if_neg (fun z => absurd z.1 (by assumption)))).symm
        | exact ((if_neg (by assumption)).trans (if_neg (fun z => absurd z.2 (by assumption)))).symm)
/-- an item as its sort keeps it -/
def asF (so : Int32) (v : Int64) : Int64 := if so = 0 then v.toInt32.toInt8.toInt32.toInt64 else if so = 1 then v.toInt32.toInt16.toInt32.toInt64 else if so = 2 then v.toInt32.toInt64 else if so = 4 then (if v = 0 then 0 else 1) else v
set_option maxRecDepth 100000 in
theorem sX10_asSort {g : Gb} {d : Nat} (hd : 0 ≤ d) (so : Int32) (v : Int64) (I : Is) (J : Js) (b : Bool) : MC9 g d mX10_asSort [.int so, .long v] I J b (Qg (fun r I' J' b' => I' = I ∧ J' = J ∧ b' = b ∧ r = some (.long (asF so v)))) := by
  refine ent9 (own := RX10) rfl rfl rfl (fun X hg hx C Z => ?_)
  subst hg
  refine r_iload_n C dX10_asSort_0 rfl ?_
  refine r_ifne C (tgt := 11) dX10_asSort_1 rfl (fun h1_1 => ?_) (fun h1_1 => ?_)
  · refine r_iload_n C dX10_asSort_11 rfl ?_
    refine r_iconst C (v := 1) dX10_asSort_12 (by decide) ?_
    refine r_icne C (tgt := 23) dX10_asSort_13 rfl (fun h13_2 => ?_) (fun h13_2 => ?_)
    · refine r_iload_n C dX10_asSort_23 rfl ?_
      refine r_iconst C (v := 2) dX10_asSort_24 (by decide) ?_
      refine r_icne C (tgt := 34) dX10_asSort_25 rfl (fun h25_3 => ?_) (fun h25_3 => ?_)
      · refine r_iload_n C dX10_asSort_34 rfl ?_
        refine r_iconst C (v := 4) dX10_asSort_35 (by decide) ?_
        refine r_icne C (tgt := 53) dX10_asSort_36 rfl (fun h36_4 => ?_) (fun h36_4 => ?_)
        · refine r_lload_n C dX10_asSort_53 rfl ?_
          exact rgl C Z dX10_asSort_54 ⟨rfl, rfl, rfl, congrArg _ (congrArg _ (((if_neg (by assumption)).trans ((if_neg (by assumption)).trans ((if_neg (by assumption)).trans (if_neg (by assumption))))).symm))⟩
        · refine r_lload_n C dX10_asSort_39 rfl ?_
          refine r_lconst C (v := 0) dX10_asSort_40 (by decide) ?_
          refine r_lcmp C dX10_asSort_41 ?_
          refine r_ifeq C (tgt := 49) dX10_asSort_42 rfl (fun h42_5 => ?_) (fun h42_5 => ?_)
          · refine r_lconst C (v := 0) dX10_asSort_49 (by decide) ?_
            refine r_goto C (tgt := 54) dX10_asSort_50 rfl ?_
            exact rgl C Z dX10_asSort_54 ⟨rfl, rfl, rfl, congrArg _ (congrArg _ (((if_neg (by assumption)).trans ((if_neg (by assumption)).trans ((if_neg (by assumption)).trans ((if_pos (by assumption)).trans (if_pos (lgc0.mp (by assumption))))))).symm))⟩
          · refine r_lconst C (v := 1) dX10_asSort_45 (by decide) ?_
            refine r_goto C (tgt := 54) dX10_asSort_46 rfl ?_
            exact rgl C Z dX10_asSort_54 ⟨rfl, rfl, rfl, congrArg _ (congrArg _ (((if_neg (by assumption)).trans ((if_neg (by assumption)).trans ((if_neg (by assumption)).trans ((if_pos (by assumption)).trans (if_neg (fun z => absurd (lgc0.mpr z) (by assumption))))))).symm))⟩
      · refine r_lload_n C dX10_asSort_28 rfl ?_
        refine r_l2i C dX10_asSort_29 ?_
        refine r_i2l C dX10_asSort_30 ?_
        refine r_goto C (tgt := 54) dX10_asSort_31 rfl ?_
        exact rgl C Z dX10_asSort_54 ⟨rfl, rfl, rfl, congrArg _ (congrArg _ (((if_neg (by assumption)).trans ((if_neg (by assumption)).trans (if_pos (by assumption)))).symm))⟩
    · refine r_lload_n C dX10_asSort_16 rfl ?_
      refine r_l2i C dX10_asSort_17 ?_
      refine r_i2s C dX10_asSort_18 ?_
      refine r_i2l C dX10_asSort_19 ?_
      refine r_goto C (tgt := 54) dX10_asSort_20 rfl ?_
      exact rgl C Z dX10_asSort_54 ⟨rfl, rfl, rfl, congrArg _ (congrArg _ (((if_neg (by assumption)).trans (if_pos (by assumption))).symm))⟩
  · refine r_lload_n C dX10_asSort_4 rfl ?_
    refine r_l2i C dX10_asSort_5 ?_
    refine r_i2b C dX10_asSort_6 ?_
    refine r_i2l C dX10_asSort_7 ?_
    refine r_goto C (tgt := 54) dX10_asSort_8 rfl ?_
    exact rgl C Z dX10_asSort_54 ⟨rfl, rfl, rfl, congrArg _ (congrArg _ ((if_pos (by assumption)).symm))⟩
