theorem bI_congr {p q : Prop} [Decidable p] [Decidable q] (h : p ↔ q) : bI p = bI q := by
  unfold bI
  by_cases hp : p
  · rw [if_pos hp, if_pos (h.mp hp)]
  · rw [if_neg hp, if_neg (fun z => hp (h.mpr z))]
theorem one_int : (1 : Int32).toInt = 1 := rfl
set_option maxRecDepth 100000 in
theorem sX9_isWithin {g : Gb} {d : Nat} (hd : 0 ≤ d) (v m : Int32) (I : Is) (J : Js) (b : Bool) : MC9 g d mX9_isWithin [.int v, .int m] I J b (Qp (bI (0 ≤ v.toInt ∧ v.toInt ≤ m.toInt)) I J b) := by
  refine ent9 (own := RX9) rfl rfl rfl (fun X hg hx C Z => ?_)
  subst hg
  refine r_iload_n C dX9_isWithin_0 rfl ?_
  refine b_iflt C (tgt := 13) dX9_isWithin_1 rfl (fun h1_1 => ?_) (fun h1_1 => ?_)
  · refine r_iconst C (v := 0) dX9_isWithin_13 (by decide) ?_
    exact rpz C Z dX9_isWithin_14 rfl (by first | exact (bI_t (by omega)).symm | exact (bI_f (by omega)).symm)
  · refine r_iload_n C dX9_isWithin_4 rfl ?_
    refine r_iload_n C dX9_isWithin_5 rfl ?_
    refine b_icgt C (tgt := 13) rfl rfl dX9_isWithin_6 rfl (fun h6_2 => ?_) (fun h6_2 => ?_)
    · refine r_iconst C (v := 0) dX9_isWithin_13 (by decide) ?_
      exact rpz C Z dX9_isWithin_14 rfl (by first | exact (bI_t (by omega)).symm | exact (bI_f (by omega)).symm)
    · refine r_iconst C (v := 1) dX9_isWithin_9 (by decide) ?_
      refine r_goto C (tgt := 14) dX9_isWithin_10 rfl ?_
      exact rpz C Z dX9_isWithin_14 rfl (by first | exact (bI_t (by omega)).symm | exact (bI_f (by omega)).symm)
set_option maxRecDepth 100000 in
theorem sX9_isShelf {g : Gb} {d : Nat} (hd : 1 ≤ d) (v : Int32) (I : Is) (J : Js) (b : Bool) : MC9 g d mX9_isShelf [.int v] I J b (Qp (bI (0 ≤ v.toInt ∧ v.toInt ≤ 5)) I J b) := by
  refine ent9 (own := RX9) rfl rfl rfl (fun X hg hx C Z => ?_)
  subst hg
  refine r_iload_n C dX9_isShelf_0 rfl ?_
  refine r_iconst C (v := 5) dX9_isShelf_1 (by decide) ?_
  refine cS C hx (sX9_isWithin (d := d - 1) (by omega) _ _ I J b) moX9_isWithin mlX9_146 mtX9_isWithin dX9_isShelf_2 rfl rfl (by omega) rfl rfl (kp ?_)
  exact rpz C Z dX9_isShelf_5 bI_nar rfl
set_option maxRecDepth 100000 in
theorem sX9_isStraw {g : Gb} {d : Nat} (hd : 1 ≤ d) (k : Int32) (I : Is) (J : Js) (b : Bool) (hs0 : 0 ≤ (I 1 1).toInt) (hs3 : (I 1 1).toInt ≤ 3) : MC9 g d mX9_isStraw [.ref 0, .int k] I J b (Qp (bI (0 ≤ k.toInt ∧ k.toInt < (I 1 1).toInt)) I J b) := by
  refine ent9 (own := RX9) rfl rfl rfl (fun X hg hx C Z => ?_)
  subst hg
  refine r_iload_n C dX9_isStraw_0 rfl ?_
  refine r_aload_n C dX9_isStraw_1 rfl ?_
  refine r_getR C flX9_10 dX9_isStraw_2 rfl rfl rfl ?_
  refine r_getI C flX9_82 dX9_isStraw_5 rfl rfl ?_
  refine r_iconst C (v := 1) dX9_isStraw_8 (by decide) ?_
  refine r_isub C dX9_isStraw_9 ?_
  refine cS C hx (sX9_isWithin (d := d - 1) (by omega) _ _ I J b) moX9_isWithin mlX9_146 mtX9_isWithin dX9_isStraw_10 rfl rfl (by omega) rfl rfl (kp ?_)
  exact rpz C Z dX9_isStraw_13 bI_nar (bI_congr (by rw [tI_sub (by rw [one_int]; omega) (by rw [one_int]; omega), one_int]; omega))
-- pairs
set_option maxRecDepth 100000 in
theorem sX9_isPair {g : Gb} {d : Nat} (hd : 2 ≤ d) (ab : Int32) (I : Is) (J : Js) (b : Bool) (hs0 : 0 ≤ (I 1 1).toInt) (hs3 : (I 1 1).toInt ≤ 3) : MC9 g d mX9_isPair [.ref 0, .int ab] I J b (Qp (bI (0 ≤ ab.toInt ∧ (0 ≤ (ab / 10).toInt ∧ (ab / 10).toInt < (I 1 1).toInt) ∧ (0 ≤ (ab - ab / 10 * 10).toInt ∧ (ab - ab / 10 * 10).toInt < (I 1 1).toInt) ∧ ¬ ab / 10 = ab - ab / 10 * 10)) I J b) := by
  refine ent9 (own := RX9) rfl rfl rfl (fun X hg hx C Z => ?_)
  subst hg
  refine r_iload_n C dX9_isPair_0 rfl ?_
  refine b_iflt C (tgt := 41) dX9_isPair_1 rfl (fun h1_1 => ?_) (fun h1_1 => ?_)
  · refine r_iconst C (v := 0) dX9_isPair_41 (by decide) ?_
    exact rpz C Z dX9_isPair_42 rfl (by first | exact (bI_t ⟨by omega, by assumption, by assumption, by assumption⟩).symm | exact (bI_f (fun z => by have z1 := z.1; have z2 := z.2.1; have z3 := z.2.2.1; have z4 := z.2.2.2; first | omega | contradiction)).symm)
  · refine r_aload_n C dX9_isPair_4 rfl ?_
    refine r_iload_n C dX9_isPair_5 rfl ?_
    refine r_bipush C (v := 10) dX9_isPair_6 (by decide) ?_
    refine r_idiv C dX9_isPair_8 (by decide) ?_
    refine cV (ci := 9) C hx (sX9_isStraw (d := d - 1) (by omega) _ I J b hs0 hs3) moX9_isStraw mlX9_143 miX9_isStraw msX9_isStraw dX9_isPair_9 rfl rfl rfl rfl rfl (by omega) rfl rfl (kp ?_)
    refine z_ifeq C (tgt := 41) dX9_isPair_12 rfl (fun h12_3 => ?_) (fun h12_3 => ?_)
    · refine r_iconst C (v := 0) dX9_isPair_41 (by decide) ?_
      exact rpz C Z dX9_isPair_42 rfl (by first | exact (bI_t ⟨by omega, by assumption, by assumption, by assumption⟩).symm | exact (bI_f (fun z => by have z1 := z.1; have z2 := z.2.1; have z3 := z.2.2.1; have z4 := z.2.2.2; first | omega | contradiction)).symm)
    · refine r_aload_n C dX9_isPair_15 rfl ?_
      refine r_iload_n C dX9_isPair_16 rfl ?_
      refine r_bipush C (v := 10) dX9_isPair_17 (by decide) ?_
      refine r_irem C dX9_isPair_19 (by decide) ?_
      refine cV (ci := 9) C hx (sX9_isStraw (d := d - 1) (by omega) _ I J b hs0 hs3) moX9_isStraw mlX9_143 miX9_isStraw msX9_isStraw dX9_isPair_20 rfl rfl rfl rfl rfl (by omega) rfl rfl (kp ?_)
      refine z_ifeq C (tgt := 41) dX9_isPair_23 rfl (fun h23_5 => ?_) (fun h23_5 => ?_)
      · refine r_iconst C (v := 0) dX9_isPair_41 (by decide) ?_
        exact rpz C Z dX9_isPair_42 rfl (by first | exact (bI_t ⟨by omega, by assumption, by assumption, by assumption⟩).symm | exact (bI_f (fun z => by have z1 := z.1; have z2 := z.2.1; have z3 := z.2.2.1; have z4 := z.2.2.2; first | omega | contradiction)).symm)
      · refine r_iload_n C dX9_isPair_26 rfl ?_
        refine r_bipush C (v := 10) dX9_isPair_27 (by decide) ?_
        refine r_idiv C dX9_isPair_29 (by decide) ?_
        refine r_iload_n C dX9_isPair_30 rfl ?_
        refine r_bipush C (v := 10) dX9_isPair_31 (by decide) ?_
        refine r_irem C dX9_isPair_33 (by decide) ?_
        refine r_iceq C (tgt := 41) dX9_isPair_34 rfl (fun h34_6 => ?_) (fun h34_6 => ?_)
        · refine r_iconst C (v := 0) dX9_isPair_41 (by decide) ?_
          exact rpz C Z dX9_isPair_42 rfl (by first | exact (bI_t ⟨by omega, by assumption, by assumption, by assumption⟩).symm | exact (bI_f (fun z => by have z1 := z.1; have z2 := z.2.1; have z3 := z.2.2.1; have z4 := z.2.2.2; first | omega | contradiction)).symm)
        · refine r_iconst C (v := 1) dX9_isPair_37 (by decide) ?_
          refine r_goto C (tgt := 42) dX9_isPair_38 rfl ?_
          exact rpz C Z dX9_isPair_42 rfl (by first | exact (bI_t ⟨by omega, by assumption, by assumption, by assumption⟩).symm | exact (bI_f (fun z => by have z1 := z.1; have z2 := z.2.1; have z3 := z.2.2.1; have z4 := z.2.2.2; first | omega | contradiction)).symm)
set_option maxRecDepth 100000 in
theorem sX3_glassPlace {g : Gb} {d : Nat} (hd : 0 ≤ d) (w : Int32) (I : Is) (J : Js) (b : Bool) : MC9 g d mX3_glassPlace [.int w] I J b (Qp (24 + w - 8) I J b) := by
  refine ent9 (own := RX3) rfl rfl rfl (fun X hg hx C Z => ?_)
  subst hg
  refine r_bipush C (v := 24) dX3_glassPlace_0 (by decide) ?_
  refine r_iload_n C dX3_glassPlace_2 rfl ?_
  refine r_iadd C dX3_glassPlace_3 ?_
  refine r_bipush C (v := 8) dX3_glassPlace_4 (by decide) ?_
  refine r_isub C dX3_glassPlace_6 ?_
  exact rp C Z dX3_glassPlace_7 rfl
set_option maxRecDepth 100000 in
theorem sX3_fits {g : Gb} {d : Nat} (hd : 0 ≤ d) (w v : Int32) (I : Is) (J : Js) (b : Bool) : MC9 g d mX3_fits [.int w, .int v] I J b (Qp (bI (0 ≤ w.toInt ∧ w.toInt ≤ 11 ∧ ((sLs 0).getD (ix w) 0).toInt ≤ v.toInt ∧ v.toInt ≤ ((sLs 1).getD (ix w) 0).toInt)) I J b) := by
  refine ent9 (own := RX3) rfl rfl rfl (fun X hg hx C Z => ?_)
  subst hg
  refine r_iload_n C dX3_fits_0 rfl ?_
  refine b_iflt C (tgt := 32) dX3_fits_1 rfl (fun h1_1 => ?_) (fun h1_1 => ?_)
  · refine r_iconst C (v := 0) dX3_fits_32 (by decide) ?_
    exact rpz C Z dX3_fits_33 rfl (by first | exact (bI_t ⟨by omega, by omega, by assumption, by assumption⟩).symm | exact (bI_f (fun z => by have z1 := z.1; have z2 := z.2.1; have z3 := z.2.2.1; have z4 := z.2.2.2; first | omega | exact absurd z3 (Int.not_le.mpr (by assumption)) | exact absurd z4 (Int.not_le.mpr (by assumption)))).symm)
  · refine r_iload_n C dX3_fits_4 rfl ?_
    refine r_bipush C (v := 11) dX3_fits_5 (by decide) ?_
    refine b_icgt C (tgt := 32) (my := 11) rfl rfl dX3_fits_7 rfl (fun h7_2 => ?_) (fun h7_2 => ?_)
    · refine r_iconst C (v := 0) dX3_fits_32 (by decide) ?_
      exact rpz C Z dX3_fits_33 rfl (by first | exact (bI_t ⟨by omega, by omega, by assumption, by assumption⟩).symm | exact (bI_f (fun z => by have z1 := z.1; have z2 := z.2.1; have z3 := z.2.2.1; have z4 := z.2.2.2; first | omega | exact absurd z3 (Int.not_le.mpr (by assumption)) | exact absurd z4 (Int.not_le.mpr (by assumption)))).symm)
    · refine r_iload_n C dX3_fits_10 rfl ?_
      refine r_gets C (j := 0) rfl gsX3_22 dX3_fits_11 ?_
      refine r_iload_n C dX3_fits_14 rfl ?_
      refine r_iaro C (j := 0) rfl dX3_fits_15 (vin (by omega) (show w.toInt < 12 by omega)) ?_
      refine b_iclt C (tgt := 32) rfl rfl dX3_fits_16 rfl (fun h16_3 => ?_) (fun h16_3 => ?_)
      · refine r_iconst C (v := 0) dX3_fits_32 (by decide) ?_
        exact rpz C Z dX3_fits_33 rfl (by first | exact (bI_t ⟨by omega, by omega, by assumption, by assumption⟩).symm | exact (bI_f (fun z => by have z1 := z.1; have z2 := z.2.1; have z3 := z.2.2.1; have z4 := z.2.2.2; first | omega | exact absurd z3 (Int.not_le.mpr (by assumption)) | exact absurd z4 (Int.not_le.mpr (by assumption)))).symm)
      · refine r_iload_n C dX3_fits_19 rfl ?_
        refine r_gets C (j := 1) rfl gsX3_25 dX3_fits_20 ?_
        refine r_iload_n C dX3_fits_23 rfl ?_
        refine r_iaro C (j := 1) rfl dX3_fits_24 (vin (by omega) (show w.toInt < 12 by omega)) ?_
        refine b_icgt C (tgt := 32) rfl rfl dX3_fits_25 rfl (fun h25_4 => ?_) (fun h25_4 => ?_)
        · refine r_iconst C (v := 0) dX3_fits_32 (by decide) ?_
          exact rpz C Z dX3_fits_33 rfl (by first | exact (bI_t ⟨by omega, by omega, by assumption, by assumption⟩).symm | exact (bI_f (fun z => by have z1 := z.1; have z2 := z.2.1; have z3 := z.2.2.1; have z4 := z.2.2.2; first | omega | exact absurd z3 (Int.not_le.mpr (by assumption)) | exact absurd z4 (Int.not_le.mpr (by assumption)))).symm)
        · refine r_iconst C (v := 1) dX3_fits_28 (by decide) ?_
          refine r_goto C (tgt := 33) dX3_fits_29 rfl ?_
          exact rpz C Z dX3_fits_33 rfl (by first | exact (bI_t ⟨by omega, by omega, by assumption, by assumption⟩).symm | exact (bI_f (fun z => by have z1 := z.1; have z2 := z.2.1; have z3 := z.2.2.1; have z4 := z.2.2.2; first | omega | exact absurd z3 (Int.not_le.mpr (by assumption)) | exact absurd z4 (Int.not_le.mpr (by assumption)))).symm)
/-- where a number stands, or -1 -/
def plF (s number what : Int32) : Int32 := if what.toInt < 0 ∨ 11 < what.toInt then -1 else if 8 ≤ what.toInt then (if number = 0 then 24 + what - 8 else -1) else if 0 ≤ number.toInt ∧ number.toInt < s.toInt then number * 8 + what else -1
set_option maxRecDepth 100000 in
theorem sX3_place {g : Gb} {d : Nat} (hd : 1 ≤ d) (m w : Int32) (I : Is) (J : Js) (b : Bool) : MC9 g d mX3_place [.ref 1, .int m, .int w] I J b (Qp (plF (I 1 1) m w) I J b) := by
  refine ent9 (own := RX3) rfl rfl rfl (fun X hg hx C Z => ?_)
  subst hg
  refine r_iload_n C dX3_place_0 rfl ?_
  refine b_iflt C (tgt := 10) dX3_place_1 rfl (fun h1_1 => ?_) (fun h1_1 => ?_)
  · refine r_iconst C (v := -1) dX3_place_10 (by decide) ?_
    exact rp C Z dX3_place_11 (by unfold plF; repeat (first | rfl | omega | contradiction | split))
  · refine r_iload_n C dX3_place_4 rfl ?_
    refine r_bipush C (v := 11) dX3_place_5 (by decide) ?_
    refine b_icle C (tgt := 12) (my := 11) rfl rfl dX3_place_7 rfl (fun h7_2 => ?_) (fun h7_2 => ?_)
    · refine r_iload_n C dX3_place_12 rfl ?_
      refine r_bipush C (v := 8) dX3_place_13 (by decide) ?_
      refine b_iclt C (tgt := 31) (my := 8) rfl rfl dX3_place_15 rfl (fun h15_3 => ?_) (fun h15_3 => ?_)
      · refine r_iload_n C dX3_place_31 rfl ?_
        refine b_iflt C (tgt := 52) dX3_place_32 rfl (fun h32_4 => ?_) (fun h32_4 => ?_)
        · refine r_iconst C (v := -1) dX3_place_52 (by decide) ?_
          exact rp C Z dX3_place_53 (by unfold plF; repeat (first | rfl | omega | contradiction | split))
        · refine r_iload_n C dX3_place_35 rfl ?_
          refine r_aload_n C dX3_place_36 rfl ?_
          refine r_getI C flX3_28 dX3_place_37 rfl rfl ?_
          refine b_icge C (tgt := 52) rfl rfl dX3_place_40 rfl (fun h40_5 => ?_) (fun h40_5 => ?_)
          · refine r_iconst C (v := -1) dX3_place_52 (by decide) ?_
            exact rp C Z dX3_place_53 (by unfold plF; repeat (first | rfl | omega | contradiction | split))
          · refine r_iload_n C dX3_place_43 rfl ?_
            refine r_bipush C (v := 8) dX3_place_44 (by decide) ?_
            refine r_imul C dX3_place_46 ?_
            refine r_iload_n C dX3_place_47 rfl ?_
            refine r_iadd C dX3_place_48 ?_
            refine r_goto C (tgt := 53) dX3_place_49 rfl ?_
            exact rp C Z dX3_place_53 (by unfold plF; repeat (first | rfl | omega | contradiction | split))
      · refine r_iload_n C dX3_place_18 rfl ?_
        refine r_ifne C (tgt := 29) dX3_place_19 rfl (fun h19_6 => ?_) (fun h19_6 => ?_)
        · refine r_iconst C (v := -1) dX3_place_29 (by decide) ?_
          exact rp C Z dX3_place_30 (by unfold plF; repeat (first | rfl | omega | contradiction | split))
        · refine r_iload_n C dX3_place_22 rfl ?_
          refine cS C hx (sX3_glassPlace (d := d - 1) (by omega) _ I J b) moX3_glassPlace mlX3_15 mtX3_glassPlace dX3_place_23 rfl rfl (by omega) rfl rfl (kp ?_)
          refine r_goto C (tgt := 30) dX3_place_26 rfl ?_
          exact rp C Z dX3_place_30 (by unfold plF; repeat (first | rfl | omega | contradiction | split))
    · refine r_iconst C (v := -1) dX3_place_10 (by decide) ?_
      exact rp C Z dX3_place_11 (by unfold plF; repeat (first | rfl | omega | contradiction | split))
set_option maxRecDepth 100000 in
theorem sX3_ofStraw {g : Gb} {d : Nat} (hd : 0 ≤ d) (k w : Int32) (I : Is) (J : Js) (b : Bool) (hi : vp_in (k * 8 + w) 28) : MC9 g d mX3_ofStraw [.ref 1, .int k, .int w] I J b (Qp (I 2 (ix (k * 8 + w))) I J b) := by
  refine ent9 (own := RX3) rfl rfl rfl (fun X hg hx C Z => ?_)
  subst hg
  refine r_aload_n C dX3_ofStraw_0 rfl ?_
  refine r_getR C flX3_9 dX3_ofStraw_1 rfl rfl rfl ?_
  refine r_iload_n C dX3_ofStraw_4 rfl ?_
  refine r_bipush C (v := 8) dX3_ofStraw_5 (by decide) ?_
  refine r_imul C dX3_ofStraw_7 ?_
  refine r_iload_n C dX3_ofStraw_8 rfl ?_
  refine r_iadd C dX3_ofStraw_9 ?_
  refine r_iald C rfl dX3_ofStraw_10 hi ?_
  exact rp C Z dX3_ofStraw_11 rfl
set_option maxRecDepth 100000 in
theorem sX3_ofGlass {g : Gb} {d : Nat} (hd : 1 ≤ d) (w : Int32) (I : Is) (J : Js) (b : Bool) (hi : vp_in (24 + w - 8) 28) : MC9 g d mX3_ofGlass [.ref 1, .int w] I J b (Qp (I 2 (ix (24 + w - 8))) I J b) := by
  refine ent9 (own := RX3) rfl rfl rfl (fun X hg hx C Z => ?_)
  subst hg
  refine r_aload_n C dX3_ofGlass_0 rfl ?_
  refine r_getR C flX3_9 dX3_ofGlass_1 rfl rfl rfl ?_
  refine r_iload_n C dX3_ofGlass_4 rfl ?_
  refine cS C hx (sX3_glassPlace (d := d - 1) (by omega) _ I J b) moX3_glassPlace mlX3_15 mtX3_glassPlace dX3_ofGlass_5 rfl rfl (by omega) rfl rfl (kp ?_)
  refine r_iald C rfl dX3_ofGlass_8 hi ?_
  exact rp C Z dX3_ofGlass_9 rfl
set_option maxRecDepth 100000 in
theorem sX4_hasPlaces {g : Gb} {d : Nat} (hd : 0 ≤ d) (t : Nat) (ht : chk 91 t 4 = true) (i n : Int32) (I : Is) (J : Js) (b : Bool) (h0 : 0 ≤ (I t 1).toInt) (h1 : (I t 1).toInt ≤ 60) : MC9 g d mX4_hasPlaces [.ref t, .int i, .int n] I J b (Qp (bI (0 ≤ i.toInt ∧ 0 ≤ n.toInt ∧ i.toInt + n.toInt ≤ (I t 1).toInt)) I J b) := by
  refine ent9 (own := RX4) rfl rfl rfl (fun X hg hx C Z => ?_)
  subst hg
  refine r_iload_n C dX4_hasPlaces_0 rfl ?_
  refine b_iflt C (tgt := 30) dX4_hasPlaces_1 rfl (fun h1_1 => ?_) (fun h1_1 => ?_)
  · refine r_iconst C (v := 0) dX4_hasPlaces_30 (by decide) ?_
    exact rpz C Z dX4_hasPlaces_31 rfl (by first | exact (bI_f (by omega)).symm | (have e := tI_sub (x := I t 1) (y := i) (by omega) (by omega); first | exact (bI_t (by omega)).symm | exact (bI_f (by omega)).symm))
  · refine r_iload_n C dX4_hasPlaces_4 rfl ?_
    refine b_iflt C (tgt := 30) dX4_hasPlaces_5 rfl (fun h5_2 => ?_) (fun h5_2 => ?_)
    · refine r_iconst C (v := 0) dX4_hasPlaces_30 (by decide) ?_
      exact rpz C Z dX4_hasPlaces_31 rfl (by first | exact (bI_f (by omega)).symm | (have e := tI_sub (x := I t 1) (y := i) (by omega) (by omega); first | exact (bI_t (by omega)).symm | exact (bI_f (by omega)).symm))
    · refine r_iload_n C dX4_hasPlaces_8 rfl ?_
      refine r_aload_n C dX4_hasPlaces_9 rfl ?_
      refine r_getI C flX4_19 dX4_hasPlaces_10 ht rfl ?_
      refine b_icgt C (tgt := 30) rfl rfl dX4_hasPlaces_13 rfl (fun h13_3 => ?_) (fun h13_3 => ?_)
      · refine r_iconst C (v := 0) dX4_hasPlaces_30 (by decide) ?_
        exact rpz C Z dX4_hasPlaces_31 rfl (by first | exact (bI_f (by omega)).symm | (have e := tI_sub (x := I t 1) (y := i) (by omega) (by omega); first | exact (bI_t (by omega)).symm | exact (bI_f (by omega)).symm))
      · refine r_iload_n C dX4_hasPlaces_16 rfl ?_
        refine r_aload_n C dX4_hasPlaces_17 rfl ?_
        refine r_getI C flX4_19 dX4_hasPlaces_18 ht rfl ?_
        refine r_iload_n C dX4_hasPlaces_21 rfl ?_
        refine r_isub C dX4_hasPlaces_22 ?_
        refine b_icgt C (tgt := 30) rfl rfl dX4_hasPlaces_23 rfl (fun h23_4 => ?_) (fun h23_4 => ?_)
        · refine r_iconst C (v := 0) dX4_hasPlaces_30 (by decide) ?_
          exact rpz C Z dX4_hasPlaces_31 rfl (by first | exact (bI_f (by omega)).symm | (have e := tI_sub (x := I t 1) (y := i) (by omega) (by omega); first | exact (bI_t (by omega)).symm | exact (bI_f (by omega)).symm))
        · refine r_iconst C (v := 1) dX4_hasPlaces_26 (by decide) ?_
          refine r_goto C (tgt := 31) dX4_hasPlaces_27 rfl ?_
          exact rpz C Z dX4_hasPlaces_31 rfl (by first | exact (bI_f (by omega)).symm | (have e := tI_sub (x := I t 1) (y := i) (by omega) (by omega); first | exact (bI_t (by omega)).symm | exact (bI_f (by omega)).symm))
set_option maxRecDepth 100000 in
theorem sX5_has {g : Gb} {d : Nat} (hd : 0 ≤ d) (k : Int32) (I : Is) (J : Js) (b : Bool) : MC9 g d mX5_has [.ref 48, .int k] I J b (Qp (bI (0 ≤ k.toInt ∧ k.toInt < (I 48 0).toInt)) I J b) := by
  refine ent9 (own := RX5) rfl rfl rfl (fun X hg hx C Z => ?_)
  subst hg
  refine r_iload_n C dX5_has_0 rfl ?_
  refine b_iflt C (tgt := 16) dX5_has_1 rfl (fun h1_1 => ?_) (fun h1_1 => ?_)
  · refine r_iconst C (v := 0) dX5_has_16 (by decide) ?_
    exact rpz C Z dX5_has_17 rfl (by first | exact (bI_t (by omega)).symm | exact (bI_f (by omega)).symm)
  · refine r_iload_n C dX5_has_4 rfl ?_
    refine r_aload_n C dX5_has_5 rfl ?_
    refine r_getI C flX5_18 dX5_has_6 rfl rfl ?_
    refine b_icge C (tgt := 16) rfl rfl dX5_has_9 rfl (fun h9_2 => ?_) (fun h9_2 => ?_)
    · refine r_iconst C (v := 0) dX5_has_16 (by decide) ?_
      exact rpz C Z dX5_has_17 rfl (by first | exact (bI_t (by omega)).symm | exact (bI_f (by omega)).symm)
    · refine r_iconst C (v := 1) dX5_has_12 (by decide) ?_
      refine r_goto C (tgt := 17) dX5_has_13 rfl ?_
      exact rpz C Z dX5_has_17 rfl (by first | exact (bI_t (by omega)).symm | exact (bI_f (by omega)).symm)
set_option maxRecDepth 100000 in
theorem sX5_traced {g : Gb} {d : Nat} (hd : 0 ≤ d) (i : Int32) (I : Is) (J : Js) (b : Bool) (hr : 0 ≤ (I 48 1).toInt) : MC9 g d mX5_traced [.ref 48, .int i] I J b (Qp (if 0 ≤ i.toInt ∧ i.toInt < (I 48 1).toInt ∧ i.toInt < 24 then I 50 (ix i) else -1) I J b) := by
  refine ent9 (own := RX5) rfl rfl rfl (fun X hg hx C Z => ?_)
  subst hg
  refine r_iload_n C dX5_traced_0 rfl ?_
  refine b_iflt C (tgt := 27) dX5_traced_1 rfl (fun h1_1 => ?_) (fun h1_1 => ?_)
  · refine r_iconst C (v := -1) dX5_traced_27 (by decide) ?_
    exact rp C Z dX5_traced_28 (by first | rw [if_pos (by omega)] | rw [if_neg (by omega)])
  · refine r_iload_n C dX5_traced_4 rfl ?_
    refine r_aload_n C dX5_traced_5 rfl ?_
    refine r_getI C flX5_29 dX5_traced_6 rfl rfl ?_
    refine b_icge C (tgt := 27) rfl rfl dX5_traced_9 rfl (fun h9_2 => ?_) (fun h9_2 => ?_)
    · refine r_iconst C (v := -1) dX5_traced_27 (by decide) ?_
      exact rp C Z dX5_traced_28 (by first | rw [if_pos (by omega)] | rw [if_neg (by omega)])
    · refine r_iload_n C dX5_traced_12 rfl ?_
      refine r_bipush C (v := 24) dX5_traced_13 (by decide) ?_
      refine b_icge C (tgt := 27) (my := 24) rfl rfl dX5_traced_15 rfl (fun h15_3 => ?_) (fun h15_3 => ?_)
      · refine r_iconst C (v := -1) dX5_traced_27 (by decide) ?_
        exact rp C Z dX5_traced_28 (by first | rw [if_pos (by omega)] | rw [if_neg (by omega)])
      · refine r_aload_n C dX5_traced_18 rfl ?_
        refine r_getR C flX5_15 dX5_traced_19 rfl rfl rfl ?_
        refine r_iload_n C dX5_traced_22 rfl ?_
        refine r_iald C rfl dX5_traced_23 (vin (by omega) (show i.toInt < 24 by omega)) ?_
        refine r_goto C (tgt := 28) dX5_traced_24 rfl ?_
        exact rp C Z dX5_traced_28 (by first | rw [if_pos (by omega)] | rw [if_neg (by omega)])
set_option maxRecDepth 100000 in
theorem sX2_held {g : Gb} {d : Nat} (hd : 1 ≤ d) (v : Int32) (I : Is) (J : Js) (b : Bool) : MC9 g d mX2_held [.int v] I J b (Qp (imax 0 (imin 99 v)) I J b) := by
  refine ent9 (own := RX2) rfl rfl rfl (fun X hg hx C Z => ?_)
  subst hg
  refine r_iconst C (v := 0) dX2_held_0 (by decide) ?_
  refine r_bipush C (v := 99) dX2_held_1 (by decide) ?_
  refine r_iload_n C dX2_held_3 rfl ?_
  refine cmin C hx mlX2_57 dX2_held_4 (by omega) rfl rfl ?_
  refine cmax C hx mlX2_62 dX2_held_7 (by omega) rfl rfl ?_
  exact rp C Z dX2_held_10 rfl
/-- the frame: rows outside l are as they were -/
def Fr (l : List Nat) (I I' : Is) : Prop := ∀ c, c ∉ l → I' c = I c
theorem Fr.rf {l : List Nat} {I : Is} : Fr l I I := fun _ _ => rfl
theorem Fr.tr {l l' l'' : List Nat} {I I' I'' : Is} (h : Fr l I I') (h' : Fr l' I' I'') (h1 : ∀ c ∈ l, c ∈ l'') (h2 : ∀ c ∈ l', c ∈ l'') : Fr l'' I I'' := fun c hc => (h' c (fun z => hc (h2 c z))).trans (h c (fun z => hc (h1 c z)))
theorem Fr.mo {l l' : List Nat} {I I' : Is} (h : Fr l I I') (h1 : ∀ c ∈ l, c ∈ l') : Fr l' I I' := fun c hc => h c (fun z => hc (h1 c z))
theorem Fr.st {l : List Nat} {I I' : Is} {t k : Nat} {v : Int32} (h : Fr l I I') (ht : t ∈ l) : Fr l I (u2 I' t k v) := fun c hc => (u2_row (fun e => hc (by rw [e]; exact ht))).trans (h c hc)
theorem nIix {j : Nat} (h : j < 1000000) : ix (nI j) = j := nI_clamp (by omega)
theorem nIint {j : Nat} (h : j < 1000000) : (nI j).toInt = (j : Int) := nI_toInt (by omega)
theorem tpl (j w : Nat) (hj : j < 3) (hw : w < 8) : ix (nI j * 8 + nI w) = 8 * j + w ∧ vp_in (nI j * 8 + nI w) 28 := by
  have key : ∀ j, j < 3 → ∀ w, w < 8 → ix (nI j * 8 + nI w) = 8 * j + w ∧ 0 ≤ (nI j * 8 + nI w).toInt ∧ (nI j * 8 + nI w).toInt < 28 := by decide +kernel
  obtain ⟨a, b, c⟩ := key j hj w hw
  exact ⟨a, vin b c⟩
/-- a straw's number, told by place -/
theorem sOf {g : Gb} {d : Nat} (j w : Nat) (hj : j < 3) (hw : w < 8) (I : Is) (J : Js) (b : Bool) : MC9 g d mX3_ofStraw [.ref 1, .int (nI j), .int (nI w)] I J b (Qp (I 2 (8 * j + w)) I J b) := by
  have h := sX3_ofStraw (g := g) (d := d) (Nat.zero_le _) (nI j) (nI w) I J b (tpl j w hj hw).2
  rw [(tpl j w hj hw).1] at h
  exact h
theorem sOg {g : Gb} {d : Nat} (hd : 1 ≤ d) (w : Nat) (hw : 8 ≤ w) (hw2 : w < 12) (I : Is) (J : Js) (b : Bool) : MC9 g d mX3_ofGlass [.ref 1, .int (nI w)] I J b (Qp (I 2 (16 + w)) I J b) := by
  have key : ∀ w, w < 12 → 8 ≤ w → ix (24 + nI w - 8) = 16 + w ∧ 0 ≤ (24 + nI w - 8).toInt ∧ (24 + nI w - 8).toInt < 28 := by decide +kernel
  obtain ⟨e1, e2, e3⟩ := key w hw2 hw
  have h := sX3_ofGlass (g := g) (d := d) hd (nI w) I J b (vin e2 e3)
  rw [e1] at h
  exact h
