def rfM (I : Is) (k i : Int32) : Int32 := if inR k 5 then (if (I 87 (ix k)).toInt < 0 then -11 else if (I 87 (ix k)).toInt < 50 then -12 else if 0 ≤ i.toInt ∧ i.toInt < (I 88 (ix k)).toInt then 0 else -13) else -1
theorem rf_in {I : Is} {k i : Int32} (h : rfM I k i = 0) : inR k 5 ∧ 0 ≤ (I 87 (ix k)).toInt ∧ 0 ≤ i.toInt ∧ i.toInt < (I 88 (ix k)).toInt := by
  unfold rfM at h
  by_cases c : inR k 5
  · rw [if_pos c] at h
    by_cases c1 : (I 87 (ix k)).toInt < 0
    · rw [if_pos c1] at h; exact absurd h (by decide)
    rw [if_neg c1] at h
    by_cases c2 : (I 87 (ix k)).toInt < 50
    · rw [if_pos c2] at h; exact absurd h (by decide)
    rw [if_neg c2] at h
    by_cases c3 : 0 ≤ i.toInt ∧ i.toInt < (I 88 (ix k)).toInt
    · exact ⟨c, by omega, c3⟩
    · rw [if_neg c3] at h; exact absurd h (by decide)
  · rw [if_neg c] at h; exact absurd h (by decide)
def elM (I : Is) (J : Js) (k i : Int32) : Int64 := if rfM I k i = 0 then J 89 (60 * ix k + ix i) else -9223372036854775808
set_option maxRecDepth 100000 in
theorem sX10_refusal {g : Gb} {d : Nat} (hd : 2 ≤ d) (k i : Int32) (I : Is) (J : Js) (b : Bool) : MC9 g d mX10_refusal [.ref 64, .int k, .int i] I J b (Qp (rfM I k i) I J b) := by
  refine ent9 (own := RX10) rfl rfl rfl (fun X hg hx C Z => ?_)
  subst hg
  refine r_iload_n C dX10_refusal_0 rfl ?_
  refine cS C hx (sX10_isShelf (d := d - 1) (by omega) _ I J b) moX10_isShelf mlX10_124 mtX10_isShelf dX10_refusal_1 rfl rfl (by omega) rfl rfl (kp ?_)
  refine z_ifne C (tgt := 9) dX10_refusal_4 rfl (fun h4_2 => ?_) (fun h4_2 => ?_)
  · have hin : inR k 5 := by assumption
    refine r_aload_n C dX10_refusal_9 rfl ?_
    refine r_getR C flX10_76 dX10_refusal_10 rfl rfl rfl ?_
    refine r_iload_n C dX10_refusal_13 rfl ?_
    refine r_iald C rfl dX10_refusal_14 (sh_ix hin) ?_
    refine b_ifge C (tgt := 21) dX10_refusal_15 rfl (fun h15_3 => ?_) (fun h15_3 => ?_)
    · refine r_aload_n C dX10_refusal_21 rfl ?_
      refine r_getR C flX10_76 dX10_refusal_22 rfl rfl rfl ?_
      refine r_iload_n C dX10_refusal_25 rfl ?_
      refine r_iald C rfl dX10_refusal_26 (sh_ix hin) ?_
      refine r_bipush C (v := 50) dX10_refusal_27 (by decide) ?_
      refine b_icge C (tgt := 35) (my := 50) rfl rfl dX10_refusal_29 rfl (fun h29_4 => ?_) (fun h29_4 => ?_)
      · refine r_iload_n C dX10_refusal_35 rfl ?_
        refine b_iflt C (tgt := 53) dX10_refusal_36 rfl (fun h36_5 => ?_) (fun h36_5 => ?_)
        · refine r_bipush C (v := -13) dX10_refusal_53 (by decide) ?_
          exact rp C Z dX10_refusal_55 (by unfold rfM; exact ((if_pos hin).trans ((if_neg (by omega)).trans ((if_neg (by omega)).trans (if_neg (fun z => by have z1 := z.1; have z2 := z.2; omega))))).symm)
        · refine r_iload_n C dX10_refusal_39 rfl ?_
          refine r_aload_n C dX10_refusal_40 rfl ?_
          refine r_getR C flX10_79 dX10_refusal_41 rfl rfl rfl ?_
          refine r_iload_n C dX10_refusal_44 rfl ?_
          refine r_iald C rfl dX10_refusal_45 (sh_ix hin) ?_
          refine b_icge C (tgt := 53) rfl rfl dX10_refusal_46 rfl (fun h46_6 => ?_) (fun h46_6 => ?_)
          · refine r_bipush C (v := -13) dX10_refusal_53 (by decide) ?_
            exact rp C Z dX10_refusal_55 (by unfold rfM; exact ((if_pos hin).trans ((if_neg (by omega)).trans ((if_neg (by omega)).trans (if_neg (fun z => by have z1 := z.1; have z2 := z.2; omega))))).symm)
          · refine r_iconst C (v := 0) dX10_refusal_49 (by decide) ?_
            refine r_goto C (tgt := 55) dX10_refusal_50 rfl ?_
            exact rp C Z dX10_refusal_55 (by unfold rfM; exact ((if_pos hin).trans ((if_neg (by omega)).trans ((if_neg (by omega)).trans (if_pos ⟨by assumption, by assumption⟩)))).symm)
      · refine r_bipush C (v := -12) dX10_refusal_32 (by decide) ?_
        exact rp C Z dX10_refusal_34 (by unfold rfM; exact ((if_pos hin).trans ((if_neg (by omega)).trans (if_pos (by assumption)))).symm)
    · refine r_bipush C (v := -11) dX10_refusal_18 (by decide) ?_
      exact rp C Z dX10_refusal_20 (by unfold rfM; exact ((if_pos hin).trans (if_pos (by assumption))).symm)
  · refine r_iconst C (v := -1) dX10_refusal_7 (by decide) ?_
    exact rp C Z dX10_refusal_8 (by unfold rfM; exact (if_neg (by assumption)).symm)
set_option maxRecDepth 100000 in
theorem sX10_element {g : Gb} {d : Nat} (hd : 3 ≤ d) (k i : Int32) (I : Is) (J : Js) (b : Bool) (hsz : ∀ t : Nat, t < 6 → 0 ≤ (I 88 t).toInt ∧ (I 88 t).toInt ≤ 60) : MC9 g d mX10_element [.ref 64, .int k, .int i] I J b (Qg (fun r I' J' b' => I' = I ∧ J' = J ∧ b' = b ∧ r = some (.long (elM I J k i)))) := by
  refine ent9 (own := RX10) rfl rfl rfl (fun X hg hx C Z => ?_)
  subst hg
  refine r_aload_n C dX10_element_0 rfl ?_
  refine r_iload_n C dX10_element_1 rfl ?_
  refine r_iload_n C dX10_element_2 rfl ?_
  refine cV (ci := 10) C hx (sX10_refusal (d := d - 1) (by omega) k i I J b) moX10_refusal mlX10_347 miX10_refusal msX10_refusal dX10_element_3 rfl rfl rfl rfl rfl (by omega) rfl rfl (kp ?_)
  refine r_ifeq C (tgt := 15) dX10_element_6 rfl (fun h6_2 => ?_) (fun h6_2 => ?_)
  · obtain ⟨hkin, hs0, hi0, hi1⟩ := rf_in (show rfM I k i = 0 by assumption)
    obtain ⟨z1, z2⟩ := hsz (ix k) (by have := ix_nn hkin.1; have := hkin.2; omega)
    have hii : i = nI (ix i) := Int32.toInt_inj.mp (by have := ix_nn hi0; rw [nIint (by omega)]; omega)
    obtain ⟨y1, y2⟩ := m60 hkin (show ix i < 60 by have := ix_nn hi0; omega)
    rw [← hii] at y1 y2
    refine r_aload_n C dX10_element_15 rfl ?_
    refine r_getR C flX10_82 dX10_element_16 rfl rfl rfl ?_
    refine r_bipush C (v := 60) dX10_element_19 (by decide) ?_
    refine r_iload_n C dX10_element_21 rfl ?_
    refine r_imul C dX10_element_22 ?_
    refine r_iload_n C dX10_element_23 rfl ?_
    refine r_iadd C dX10_element_24 ?_
    refine r_lald C rfl dX10_element_25 y2 ?_
    rw [y1]
    exact rgl C Z dX10_element_26 ⟨rfl, rfl, rfl, by unfold elM; rw [if_pos (by assumption)]⟩
  · refine r_ldc2 C kkX10_356 dX10_element_9 ?_
    refine r_goto C (tgt := 26) dX10_element_12 rfl ?_
    exact rgl C Z dX10_element_26 ⟨rfl, rfl, rfl, by unfold elM; rw [if_neg (by assumption)]⟩
set_option maxRecDepth 100000 in
theorem sX10_put {g : Gb} {d : Nat} (hd : 3 ≤ d) (k i : Int32) (v : Int64) (I : Is) (J : Js) (b : Bool) (hsz : ∀ t : Nat, t < 6 → 0 ≤ (I 88 t).toInt ∧ (I 88 t).toInt ≤ 60) : MC9 g d mX10_put [.ref 64, .int k, .int i, .long v] I J b (Qg (fun r I' J' b' => I' = I ∧ b' = b ∧ ((¬ rfM I k i = 0 ∧ r = some (.int (rfM I k i)) ∧ J' = J) ∨ (rfM I k i = 0 ∧ r = some (.int 1) ∧ J' = u2 J 89 (60 * ix k + ix i) (asF (I 87 (ix k) - 50) v))))) := by
  refine ent9 (own := RX10) rfl rfl rfl (fun X hg hx C Z => ?_)
  subst hg
  refine r_aload_n C dX10_put_0 rfl ?_
  refine r_iload_n C dX10_put_1 rfl ?_
  refine r_iload_n C dX10_put_2 rfl ?_
  refine cV (ci := 10) C hx (sX10_refusal (d := d - 1) (by omega) k i I J b) moX10_refusal mlX10_347 miX10_refusal msX10_refusal dX10_put_3 rfl rfl rfl rfl rfl (by omega) rfl rfl (kp ?_)
  refine r_istore C dX10_put_6 rfl rfl ?_
  refine r_iload C dX10_put_8 rfl ?_
  refine r_ifne C (tgt := 37) dX10_put_10 rfl (fun h10_2 => ?_) (fun h10_2 => ?_)
  · refine r_iload C dX10_put_37 rfl ?_
    refine r_ifne C (tgt := 46) dX10_put_39 rfl (fun h39_3 => ?_) (fun h39_3 => ?_)
    · refine r_iload C dX10_put_46 rfl ?_
      exact rgi C Z dX10_put_48 ⟨rfl, rfl, Or.inl ⟨by assumption, rfl, rfl⟩⟩
    · exact absurd (show rfM I k i = 0 by assumption) (by assumption)
  · obtain ⟨hkin, hs0, hi0, hi1⟩ := rf_in (show rfM I k i = 0 by assumption)
    obtain ⟨z1, z2⟩ := hsz (ix k) (by have := ix_nn hkin.1; have := hkin.2; omega)
    have hii : i = nI (ix i) := Int32.toInt_inj.mp (by have := ix_nn hi0; rw [nIint (by omega)]; omega)
    obtain ⟨y1, y2⟩ := m60 hkin (show ix i < 60 by have := ix_nn hi0; omega)
    rw [← hii] at y1 y2
    refine r_aload_n C dX10_put_13 rfl ?_
    refine r_getR C flX10_82 dX10_put_14 rfl rfl rfl ?_
    refine r_bipush C (v := 60) dX10_put_17 (by decide) ?_
    refine r_iload_n C dX10_put_19 rfl ?_
    refine r_imul C dX10_put_20 ?_
    refine r_iload_n C dX10_put_21 rfl ?_
    refine r_iadd C dX10_put_22 ?_
    refine r_aload_n C dX10_put_23 rfl ?_
    refine r_getR C flX10_76 dX10_put_24 rfl rfl rfl ?_
    refine r_iload_n C dX10_put_27 rfl ?_
    refine r_iald C rfl dX10_put_28 (sh_ix hkin) ?_
    refine r_bipush C (v := 50) dX10_put_29 (by decide) ?_
    refine r_isub C dX10_put_31 ?_
    refine r_lload_n C dX10_put_32 rfl ?_
    refine cS C hx (sX10_asSort (d := d - 1) (by omega) (I 87 (ix k) - 50) v I J b) moX10_asSort mlX10_350 mtX10_asSort dX10_put_33 rfl rfl (by omega) rfl rfl (kg (fun v_33_4 I_33_4 J_33_4 b_33_4 q_33_4 => ?_))
    obtain ⟨hI_, hJ_, hb_, hr_⟩ := q_33_4
    rw [hI_, hJ_, hb_]
    subst hr_
    refine r_last C rfl dX10_put_36 y2 ?_
    rw [y1]
    refine r_iload C dX10_put_37 rfl ?_
    refine r_ifne C (tgt := 46) dX10_put_39 rfl (fun h39_5 => ?_) (fun h39_5 => ?_)
    · exact absurd (show rfM I k i = 0 by assumption) (by assumption)
    · refine r_iconst C (v := 1) dX10_put_42 (by decide) ?_
      refine r_goto C (tgt := 48) dX10_put_43 rfl ?_
      exact rgi C Z dX10_put_48 ⟨rfl, rfl, Or.inr ⟨by assumption, rfl, rfl⟩⟩
set_option maxRecDepth 100000 in
theorem sX10_keep {g : Gb} {d : Nat} (hd : 2 ≤ d) (k w : Int32) (I : Is) (J : Js) (b : Bool) (hb0 : 0 ≤ (I 64 43).toInt) (hb5 : (I 64 43).toInt ≤ 50) : MC9 g d mX10_keep [.ref 64, .int k, .int w] I J b (Qi J b (fun v I' => (¬ (inR k 5 ∧ (w = -1 ∨ (0 ≤ w.toInt ∧ w.toInt < (I 64 43).toInt))) ∧ v = -1 ∧ I' = I) ∨ ((inR k 5 ∧ (w = -1 ∨ (0 ≤ w.toInt ∧ w.toInt < (I 64 43).toInt))) ∧ v = 1 ∧ I' = u2 (u2 I 87 (ix k) w) 88 (ix k) 0))) := by
  refine ent9 (own := RX10) rfl rfl rfl (fun X hg hx C Z => ?_)
  subst hg
  refine r_iload_n C dX10_keep_0 rfl ?_
  refine cS C hx (sX10_isShelf (d := d - 1) (by omega) _ I J b) moX10_isShelf mlX10_124 mtX10_isShelf dX10_keep_1 rfl rfl (by omega) rfl rfl (kp ?_)
  refine z_ifeq C (tgt := 20) dX10_keep_4 rfl (fun h4_2 => ?_) (fun h4_2 => ?_)
  · refine r_iconst C (v := -1) dX10_keep_20 (by decide) ?_
    exact ri C Z dX10_keep_21 (Or.inl ⟨fun z => absurd z.1 (by assumption), rfl, rfl⟩)
  · refine r_iload_n C dX10_keep_7 rfl ?_
    refine r_iconst C (v := -1) dX10_keep_8 (by decide) ?_
    refine r_iceq C (tgt := 22) dX10_keep_9 rfl (fun h9_3 => ?_) (fun h9_3 => ?_)
    · have hin : inR k 5 ∧ (w = -1 ∨ (0 ≤ w.toInt ∧ w.toInt < (I 64 43).toInt)) := ⟨by assumption, by first | exact Or.inl (by assumption) | exact Or.inr (by assumption)⟩
      refine r_aload_n C dX10_keep_22 rfl ?_
      refine r_getR C flX10_76 dX10_keep_23 rfl rfl rfl ?_
      refine r_iload_n C dX10_keep_26 rfl ?_
      refine r_iload_n C dX10_keep_27 rfl ?_
      refine r_iast C rfl dX10_keep_28 (sh_ix hin.1) ?_
      refine r_aload_n C dX10_keep_29 rfl ?_
      refine r_getR C flX10_79 dX10_keep_30 rfl rfl rfl ?_
      refine r_iload_n C dX10_keep_33 rfl ?_
      refine r_iconst C (v := 0) dX10_keep_34 (by decide) ?_
      refine r_iast C rfl dX10_keep_35 (sh_ix hin.1) ?_
      refine r_iconst C (v := 1) dX10_keep_36 (by decide) ?_
      exact ri C Z dX10_keep_37 (Or.inr ⟨hin, rfl, rfl⟩)
    · refine r_aload_n C dX10_keep_12 rfl ?_
      refine r_iload_n C dX10_keep_13 rfl ?_
      refine cV (ci := 10) C hx (sX10_isBody (d := d - 1) (by omega) w I J b hb0 hb5) moX10_isBody mlX10_340 miX10_isBody msX10_isBody dX10_keep_14 rfl rfl rfl rfl rfl (by omega) rfl rfl (kp ?_)
      refine z_ifne C (tgt := 22) dX10_keep_17 rfl (fun h17_5 => ?_) (fun h17_5 => ?_)
      · have hin : inR k 5 ∧ (w = -1 ∨ (0 ≤ w.toInt ∧ w.toInt < (I 64 43).toInt)) := ⟨by assumption, by first | exact Or.inl (by assumption) | exact Or.inr (by assumption)⟩
        refine r_aload_n C dX10_keep_22 rfl ?_
        refine r_getR C flX10_76 dX10_keep_23 rfl rfl rfl ?_
        refine r_iload_n C dX10_keep_26 rfl ?_
        refine r_iload_n C dX10_keep_27 rfl ?_
        refine r_iast C rfl dX10_keep_28 (sh_ix hin.1) ?_
        refine r_aload_n C dX10_keep_29 rfl ?_
        refine r_getR C flX10_79 dX10_keep_30 rfl rfl rfl ?_
        refine r_iload_n C dX10_keep_33 rfl ?_
        refine r_iconst C (v := 0) dX10_keep_34 (by decide) ?_
        refine r_iast C rfl dX10_keep_35 (sh_ix hin.1) ?_
        refine r_iconst C (v := 1) dX10_keep_36 (by decide) ?_
        exact ri C Z dX10_keep_37 (Or.inr ⟨hin, rfl, rfl⟩)
      · refine r_iconst C (v := -1) dX10_keep_20 (by decide) ?_
        exact ri C Z dX10_keep_21 (Or.inl ⟨fun z => z.2.elim (by assumption) (by assumption), rfl, rfl⟩)
theorem k60 {k : Int32} (h : inR k 5) : (60 * k : Int32).toInt = 60 * (ix k : Int) ∧ (60 * k + 60 : Int32).toInt = 60 * (ix k : Int) + 60 ∧ ix k ≤ 5 := by
  obtain ⟨h0, h5⟩ := h
  have e60 : (60 : Int32).toInt = 60 := rfl
  have ik := ix_nn h0
  have em : (60 * k : Int32).toInt = 60 * k.toInt := by rw [tI_mul (by rw [e60]; omega) (by rw [e60]; omega), e60]
  refine ⟨by omega, by rw [tI_add (by omega) (by omega), em, e60]; omega, by omega⟩
set_option maxRecDepth 100000 in
set_option maxHeartbeats 400000 in
theorem sX10_row {g : Gb} {d : Nat} (hd : 2 ≤ d) (k s n : Int32) (I : Is) (J : Js) (b : Bool) : MC9 g d mX10_row [.ref 64, .int k, .int s, .int n] I J b (Qg (fun r I' J' b' => b' = b ∧ ((¬ (inR k 5 ∧ inR s 4 ∧ n.toInt ≤ 60) ∧ r = some (.int (-1)) ∧ I' = I ∧ J' = J) ∨ ((inR k 5 ∧ inR s 4 ∧ n.toInt ≤ 60) ∧ n.toInt < 0 ∧ r = some (.int (-14)) ∧ I' = I ∧ J' = J) ∨ ((inR k 5 ∧ inR s 4 ∧ n.toInt ≤ 60) ∧ 0 ≤ n.toInt ∧ r = some (.int 1) ∧ I' = u2 (u2 I 87 (ix k) (50 + s)) 88 (ix k) n ∧ (∀ c, c ≠ 89 → J' c = J c) ∧ ∀ q, J' 89 q = if 60 * ix k ≤ q ∧ q < 60 * ix k + 60 then 0 else J 89 q)))) := by
  refine ent9 (own := RX10) rfl rfl rfl (fun X hg hx C Z => ?_)
  subst hg
  have loop : ∀ (m i : Nat) (y : Int32) (J' : Js), (inR k 5 ∧ inR s 4 ∧ n.toInt ≤ 60) → 0 ≤ n.toInt → m + i = 60 → y.toInt = 60 * (ix k : Int) + i → (∀ c, c ≠ 89 → J' c = J c) → (∀ q, J' 89 q = if 60 * ix k ≤ q ∧ q < 60 * ix k + i then 0 else J 89 q) → Aw X 57 [some (.ref 64), some (.int k), some (.int s), some (.int n), some (.int y)] [] (st9 (u2 (u2 I 87 (ix k) (50 + s)) 88 (ix k) n) J' b) := by
    intro m
    induction m with
    | zero =>
      intro i y J' hin hn0 hm hy hc hq
      obtain ⟨q1, q2, q3⟩ := k60 hin.1
      have hi60 : i = 60 := by omega
      rw [hi60] at hq hy
      refine r_iload C dX10_row_57 rfl ?_
      refine r_bipush C (v := 60) dX10_row_59 (by decide) ?_
      refine r_iload_n C dX10_row_61 rfl ?_
      refine r_imul C dX10_row_62 ?_
      refine r_bipush C (v := 60) dX10_row_63 (by decide) ?_
      refine r_iadd C dX10_row_65 ?_
      refine b_icge C (tgt := 83) rfl rfl dX10_row_66 rfl (fun h66_1 => ?_) (fun h66_1 => ?_)
      · refine r_iconst C (v := 1) dX10_row_83 (by decide) ?_
        exact rgi C Z dX10_row_84 (show _ ∧ (_ ∨ _ ∨ _) from ⟨rfl, Or.inr (Or.inr ⟨hin, hn0, rfl, rfl, hc, hq⟩)⟩)
      · exfalso; omega
    | succ m ih =>
      intro i y J' hin hn0 hm hy hc hq
      obtain ⟨q1, q2, q3⟩ := k60 hin.1
      have yx : ix y = 60 * ix k + i := ix_of (by omega)
      refine r_iload C dX10_row_57 rfl ?_
      refine r_bipush C (v := 60) dX10_row_59 (by decide) ?_
      refine r_iload_n C dX10_row_61 rfl ?_
      refine r_imul C dX10_row_62 ?_
      refine r_bipush C (v := 60) dX10_row_63 (by decide) ?_
      refine r_iadd C dX10_row_65 ?_
      refine b_icge C (tgt := 83) rfl rfl dX10_row_66 rfl (fun h66_1 => ?_) (fun h66_1 => ?_)
      · exfalso; omega
      · refine r_aload_n C dX10_row_69 rfl ?_
        refine r_getR C flX10_82 dX10_row_70 rfl rfl rfl ?_
        refine r_iload C dX10_row_73 rfl ?_
        refine r_lconst C (v := 0) dX10_row_75 (by decide) ?_
        refine r_last C rfl dX10_row_76 (vin (by omega) (show y.toInt < 360 by omega)) ?_
        rw [yx]
        refine r_iinc C (v := 1) dX10_row_77 rfl (by decide) rfl ?_
        refine r_goto C (tgt := 57) dX10_row_80 rfl ?_
        exact ih (i + 1) _ _ hin hn0 (by omega) (by rw [tI_add (by rw [one_int]; omega) (by rw [one_int]; omega), one_int]; omega) (fun c h => (u2_row h).trans (hc c h)) (fun q => by
          by_cases e : q = 60 * ix k + i
          · rw [e, u2_same, if_pos ⟨by omega, by omega⟩]
          · rw [u2_ne _ _ _ _ (Or.inr e), hq q]
            by_cases c : 60 * ix k ≤ q ∧ q < 60 * ix k + i
            · rw [if_pos c, if_pos ⟨c.1, by omega⟩]
            · rw [if_neg c, if_neg (fun z => c ⟨z.1, by omega⟩)])
  refine r_iload_n C dX10_row_0 rfl ?_
  refine cS C hx (sX10_isShelf (d := d - 1) (by omega) _ I J b) moX10_isShelf mlX10_124 mtX10_isShelf dX10_row_1 rfl rfl (by omega) rfl rfl (kp ?_)
  refine z_ifeq C (tgt := 25) dX10_row_4 rfl (fun h4_2 => ?_) (fun h4_2 => ?_)
  · refine r_iconst C (v := -1) dX10_row_25 (by decide) ?_
    exact rgi C Z dX10_row_26 (show _ ∧ (_ ∨ _ ∨ _) from ⟨rfl, Or.inl ⟨fun z => absurd z.1 (by assumption), rfl, rfl, rfl⟩⟩)
  · refine r_iload_n C dX10_row_7 rfl ?_
    refine r_i2l C dX10_row_8 ?_
    refine r_lconst C (v := 0) dX10_row_9 (by decide) ?_
    refine r_ldc2 C kkX10_345 dX10_row_10 ?_
    refine cS C hx (sWi (d := d - 1) _ (lo := 0) (hi := 4) rfl rfl I J b) moX10_within mlX10_105 mtX10_within dX10_row_13 rfl rfl (by omega) rfl rfl (kp ?_)
    refine z_ifeq C (tgt := 25) dX10_row_16 rfl (fun h16_4 => ?_) (fun h16_4 => ?_)
    · refine r_iconst C (v := -1) dX10_row_25 (by decide) ?_
      exact rgi C Z dX10_row_26 (show _ ∧ (_ ∨ _ ∨ _) from ⟨rfl, Or.inl ⟨fun z => absurd z.2.1 (by assumption), rfl, rfl, rfl⟩⟩)
    · refine r_iload_n C dX10_row_19 rfl ?_
      refine r_bipush C (v := 60) dX10_row_20 (by decide) ?_
      refine b_icle C (tgt := 27) (my := 60) rfl rfl dX10_row_22 rfl (fun h22_5 => ?_) (fun h22_5 => ?_)
      · have hin : (inR k 5 ∧ inR s 4 ∧ n.toInt ≤ 60) := ⟨by assumption, by assumption, by assumption⟩
        obtain ⟨q1, q2, q3⟩ := k60 hin.1
        refine r_iload_n C dX10_row_27 rfl ?_
        refine b_ifge C (tgt := 34) dX10_row_28 rfl (fun h28_6 => ?_) (fun h28_6 => ?_)
        · refine r_aload_n C dX10_row_34 rfl ?_
          refine r_getR C flX10_76 dX10_row_35 rfl rfl rfl ?_
          refine r_iload_n C dX10_row_38 rfl ?_
          refine r_bipush C (v := 50) dX10_row_39 (by decide) ?_
          refine r_iload_n C dX10_row_41 rfl ?_
          refine r_iadd C dX10_row_42 ?_
          refine r_iast C rfl dX10_row_43 (sh_ix hin.1) ?_
          refine r_aload_n C dX10_row_44 rfl ?_
          refine r_getR C flX10_79 dX10_row_45 rfl rfl rfl ?_
          refine r_iload_n C dX10_row_48 rfl ?_
          refine r_iload_n C dX10_row_49 rfl ?_
          refine r_iast C rfl dX10_row_50 (sh_ix hin.1) ?_
          refine r_bipush C (v := 60) dX10_row_51 (by decide) ?_
          refine r_iload_n C dX10_row_53 rfl ?_
          refine r_imul C dX10_row_54 ?_
          refine r_istore C dX10_row_55 rfl rfl ?_
          exact loop 60 0 _ J hin (by assumption) rfl (by rw [q1]; omega) (fun _ _ => rfl) (fun q => by rw [if_neg (by omega)])
        · refine r_bipush C (v := -14) dX10_row_31 (by decide) ?_
          exact rgi C Z dX10_row_33 (show _ ∧ (_ ∨ _ ∨ _) from ⟨rfl, Or.inr (Or.inl ⟨hin, by assumption, rfl, rfl, rfl⟩)⟩)
      · refine r_iconst C (v := -1) dX10_row_25 (by decide) ?_
        exact rgi C Z dX10_row_26 (show _ ∧ (_ ∨ _ ∨ _) from ⟨rfl, Or.inl ⟨fun z => by have := z.2.2; omega, rfl, rfl, rfl⟩⟩)
def abM (k : Int32) : Int32 := if k = 3 then 2 else if k = 4 then 1 else if k = 5 then 3 else if k = 7 then 4 else 0
def upM (w : Int32) : Nat → Int32 → Int32
  | 0, x => x
  | n + 1, x => if ¬ x = w ∧ 0 < x.toInt then upM w n (abM x) else x
theorem abM_lt {x : Int32} (h : 0 < x.toInt) : (abM x).toInt < x.toInt := by
  unfold abM
  by_cases c3 : x = 3
  · rw [if_pos c3, c3]; decide
  rw [if_neg c3]
  by_cases c4 : x = 4
  · rw [if_pos c4, c4]; decide
  rw [if_neg c4]
  by_cases c5 : x = 5
  · rw [if_pos c5, c5]; decide
  rw [if_neg c5]
  by_cases c7 : x = 7
  · rw [if_pos c7, c7]; decide
  rw [if_neg c7]
  exact h
def taM (I : Is) (k w : Int32) : Int32 := if inR k 5 ∧ inR w 7 then (if (I 87 (ix k)).toInt < 0 then -11 else if 50 ≤ (I 87 (ix k)).toInt then -12 else if upM w 8 (I 85 (ix (I 87 (ix k)))) = w then I 85 (ix (I 87 (ix k))) else -12) else -1
set_option maxRecDepth 100000 in
set_option maxHeartbeats 400000 in
theorem sX10_taken {g : Gb} {d : Nat} (hd : 2 ≤ d) (k w : Int32) (I : Is) (J : Js) (b : Bool) (hkd : ∀ q : Nat, q < 50 → (I 85 q).toInt ≤ 7) : MC9 g d mX10_taken [.ref 64, .int k, .int w] I J b (Qp (taM I k w) I J b) := by
  refine ent9 (own := RX10) rfl rfl rfl (fun X hg hx C Z => ?_)
  subst hg
  have loop : ∀ (n : Nat) (x : Int32), (inR k 5 ∧ inR w 7) → 0 ≤ (I 87 (ix k)).toInt → (I 87 (ix k)).toInt < 50 → x.toInt < (n : Int) → upM w n x = upM w 8 (I 85 (ix (I 87 (ix k)))) → Aw X 58 [some (.ref 64), some (.int k), some (.int w), some (.int x)] [] (st9 I J b) := by
    intro n
    induction n with
    | zero =>
      intro x hin h0 h5 hxl hu
      have hu0 : upM w 0 x = x := rfl
      rw [hu0] at hu
      have hvv : vp_in (I 87 (ix k)) 50 := vin h0 h5
      refine r_iload_n C dX10_taken_58 rfl ?_
      refine r_iload_n C dX10_taken_59 rfl ?_
      refine r_iceq C (tgt := 75) dX10_taken_60 rfl (fun h60_1 => ?_) (fun h60_1 => ?_)
      · refine r_iload_n C dX10_taken_75 rfl ?_
        refine r_iload_n C dX10_taken_76 rfl ?_
        refine r_icne C (tgt := 93) dX10_taken_77 rfl (fun h77_2 => ?_) (fun h77_2 => ?_)
        · refine r_bipush C (v := -12) dX10_taken_93 (by decide) ?_
          exact rp C Z dX10_taken_95 (by unfold taM; exact ((if_pos hin).trans ((if_neg (by omega)).trans ((if_neg (by omega)).trans (if_neg (fun z => absurd (hu.trans z) (by assumption)))))).symm)
        · refine r_aload_n C dX10_taken_80 rfl ?_
          refine r_aload_n C dX10_taken_81 rfl ?_
          refine r_getR C flX10_76 dX10_taken_82 rfl rfl rfl ?_
          refine r_iload_n C dX10_taken_85 rfl ?_
          refine r_iald C rfl dX10_taken_86 (sh_ix hin.1) ?_
          refine cV (ci := 10) C hx (sX10_kindOf (d := d - 1) (by omega) (I 87 (ix k)) I J b hvv) moX10_kindOf mlX10_358 miX10_kindOf msX10_kindOf dX10_taken_87 rfl rfl rfl rfl rfl (by omega) rfl rfl (kp ?_)
          refine r_goto C (tgt := 95) dX10_taken_90 rfl ?_
          exact rp C Z dX10_taken_95 (by unfold taM; exact ((if_pos hin).trans ((if_neg (by omega)).trans ((if_neg (by omega)).trans (if_pos (hu.symm.trans (by assumption)))))).symm)
      · refine r_iload_n C dX10_taken_63 rfl ?_
        refine b_ifle C (tgt := 75) dX10_taken_64 rfl (fun h64_4 => ?_) (fun h64_4 => ?_)
        · refine r_iload_n C dX10_taken_75 rfl ?_
          refine r_iload_n C dX10_taken_76 rfl ?_
          refine r_icne C (tgt := 93) dX10_taken_77 rfl (fun h77_5 => ?_) (fun h77_5 => ?_)
          · refine r_bipush C (v := -12) dX10_taken_93 (by decide) ?_
            exact rp C Z dX10_taken_95 (by unfold taM; exact ((if_pos hin).trans ((if_neg (by omega)).trans ((if_neg (by omega)).trans (if_neg (fun z => absurd (hu.trans z) (by assumption)))))).symm)
          · refine r_aload_n C dX10_taken_80 rfl ?_
            refine r_aload_n C dX10_taken_81 rfl ?_
            refine r_getR C flX10_76 dX10_taken_82 rfl rfl rfl ?_
            refine r_iload_n C dX10_taken_85 rfl ?_
            refine r_iald C rfl dX10_taken_86 (sh_ix hin.1) ?_
            refine cV (ci := 10) C hx (sX10_kindOf (d := d - 1) (by omega) (I 87 (ix k)) I J b hvv) moX10_kindOf mlX10_358 miX10_kindOf msX10_kindOf dX10_taken_87 rfl rfl rfl rfl rfl (by omega) rfl rfl (kp ?_)
            refine r_goto C (tgt := 95) dX10_taken_90 rfl ?_
            exact rp C Z dX10_taken_95 (by unfold taM; exact ((if_pos hin).trans ((if_neg (by omega)).trans ((if_neg (by omega)).trans (if_pos (hu.symm.trans (by assumption)))))).symm)
        · exfalso; omega
    | succ n ih =>
      intro x hin h0 h5 hxl hu
      have hvv : vp_in (I 87 (ix k)) 50 := vin h0 h5
      have hu1 : upM w (n + 1) x = if ¬ x = w ∧ 0 < x.toInt then upM w n (abM x) else x := rfl
      rw [hu1] at hu
      refine r_iload_n C dX10_taken_58 rfl ?_
      refine r_iload_n C dX10_taken_59 rfl ?_
      refine r_iceq C (tgt := 75) dX10_taken_60 rfl (fun h60_1 => ?_) (fun h60_1 => ?_)
      · rw [if_neg (fun z => absurd (show x = w by assumption) z.1)] at hu
        refine r_iload_n C dX10_taken_75 rfl ?_
        refine r_iload_n C dX10_taken_76 rfl ?_
        refine r_icne C (tgt := 93) dX10_taken_77 rfl (fun h77_2 => ?_) (fun h77_2 => ?_)
        · exact absurd (show x = w by assumption) (by assumption)
        · refine r_aload_n C dX10_taken_80 rfl ?_
          refine r_aload_n C dX10_taken_81 rfl ?_
          refine r_getR C flX10_76 dX10_taken_82 rfl rfl rfl ?_
          refine r_iload_n C dX10_taken_85 rfl ?_
          refine r_iald C rfl dX10_taken_86 (sh_ix hin.1) ?_
          refine cV (ci := 10) C hx (sX10_kindOf (d := d - 1) (by omega) (I 87 (ix k)) I J b hvv) moX10_kindOf mlX10_358 miX10_kindOf msX10_kindOf dX10_taken_87 rfl rfl rfl rfl rfl (by omega) rfl rfl (kp ?_)
          refine r_goto C (tgt := 95) dX10_taken_90 rfl ?_
          exact rp C Z dX10_taken_95 (by unfold taM; exact ((if_pos hin).trans ((if_neg (by omega)).trans ((if_neg (by omega)).trans (if_pos (hu.symm.trans (by assumption)))))).symm)
      · refine r_iload_n C dX10_taken_63 rfl ?_
        refine b_ifle C (tgt := 75) dX10_taken_64 rfl (fun h64_4 => ?_) (fun h64_4 => ?_)
        · rw [if_neg (fun z => by have := z.2; omega)] at hu
          refine r_iload_n C dX10_taken_75 rfl ?_
          refine r_iload_n C dX10_taken_76 rfl ?_
          refine r_icne C (tgt := 93) dX10_taken_77 rfl (fun h77_5 => ?_) (fun h77_5 => ?_)
          · refine r_bipush C (v := -12) dX10_taken_93 (by decide) ?_
            exact rp C Z dX10_taken_95 (by unfold taM; exact ((if_pos hin).trans ((if_neg (by omega)).trans ((if_neg (by omega)).trans (if_neg (fun z => absurd (hu.trans z) (by assumption)))))).symm)
          · refine r_aload_n C dX10_taken_80 rfl ?_
            refine r_aload_n C dX10_taken_81 rfl ?_
            refine r_getR C flX10_76 dX10_taken_82 rfl rfl rfl ?_
            refine r_iload_n C dX10_taken_85 rfl ?_
            refine r_iald C rfl dX10_taken_86 (sh_ix hin.1) ?_
            refine cV (ci := 10) C hx (sX10_kindOf (d := d - 1) (by omega) (I 87 (ix k)) I J b hvv) moX10_kindOf mlX10_358 miX10_kindOf msX10_kindOf dX10_taken_87 rfl rfl rfl rfl rfl (by omega) rfl rfl (kp ?_)
            refine r_goto C (tgt := 95) dX10_taken_90 rfl ?_
            exact rp C Z dX10_taken_95 (by unfold taM; exact ((if_pos hin).trans ((if_neg (by omega)).trans ((if_neg (by omega)).trans (if_pos (hu.symm.trans (by assumption)))))).symm)
        · refine r_iload_n C dX10_taken_67 rfl ?_
          refine cS C hx (sX10_above (d := d - 1) (by omega) x I J b) moX10_above mlX10_361 mtX10_above dX10_taken_68 rfl rfl (by omega) rfl rfl (kp ?_)
          refine r_istore_n C dX10_taken_71 rfl rfl ?_
          refine r_goto C (tgt := 58) dX10_taken_72 rfl ?_
          rw [if_pos ⟨by assumption, by assumption⟩] at hu
          exact ih (abM x) hin h0 h5 (by have := abM_lt (show 0 < x.toInt by assumption); omega) hu
  refine r_iload_n C dX10_taken_0 rfl ?_
  refine cS C hx (sX10_isShelf (d := d - 1) (by omega) _ I J b) moX10_isShelf mlX10_124 mtX10_isShelf dX10_taken_1 rfl rfl (by omega) rfl rfl (kp ?_)
  refine z_ifeq C (tgt := 19) dX10_taken_4 rfl (fun h4_2 => ?_) (fun h4_2 => ?_)
  · refine r_iconst C (v := -1) dX10_taken_19 (by decide) ?_
    exact rp C Z dX10_taken_20 (by unfold taM; exact (if_neg (fun z => absurd z.1 (by assumption))).symm)
  · refine r_iload_n C dX10_taken_7 rfl ?_
    refine r_i2l C dX10_taken_8 ?_
    refine r_lconst C (v := 0) dX10_taken_9 (by decide) ?_
    refine r_ldc2 C kkX10_128 dX10_taken_10 ?_
    refine cS C hx (sWi (d := d - 1) _ (lo := 0) (hi := 7) rfl rfl I J b) moX10_within mlX10_105 mtX10_within dX10_taken_13 rfl rfl (by omega) rfl rfl (kp ?_)
    refine z_ifne C (tgt := 21) dX10_taken_16 rfl (fun h16_4 => ?_) (fun h16_4 => ?_)
    · have hin : (inR k 5 ∧ inR w 7) := ⟨by assumption, by assumption⟩
      refine r_aload_n C dX10_taken_21 rfl ?_
      refine r_getR C flX10_76 dX10_taken_22 rfl rfl rfl ?_
      refine r_iload_n C dX10_taken_25 rfl ?_
      refine r_iald C rfl dX10_taken_26 (sh_ix hin.1) ?_
      refine b_ifge C (tgt := 33) dX10_taken_27 rfl (fun h27_5 => ?_) (fun h27_5 => ?_)
      · refine r_aload_n C dX10_taken_33 rfl ?_
        refine r_getR C flX10_76 dX10_taken_34 rfl rfl rfl ?_
        refine r_iload_n C dX10_taken_37 rfl ?_
        refine r_iald C rfl dX10_taken_38 (sh_ix hin.1) ?_
        refine r_bipush C (v := 50) dX10_taken_39 (by decide) ?_
        refine b_iclt C (tgt := 47) (my := 50) rfl rfl dX10_taken_41 rfl (fun h41_6 => ?_) (fun h41_6 => ?_)
        · have hvv : vp_in (I 87 (ix k)) 50 := vin (by assumption) (by assumption)
          refine r_aload_n C dX10_taken_47 rfl ?_
          refine r_aload_n C dX10_taken_48 rfl ?_
          refine r_getR C flX10_76 dX10_taken_49 rfl rfl rfl ?_
          refine r_iload_n C dX10_taken_52 rfl ?_
          refine r_iald C rfl dX10_taken_53 (sh_ix hin.1) ?_
          refine cV (ci := 10) C hx (sX10_kindOf (d := d - 1) (by omega) (I 87 (ix k)) I J b hvv) moX10_kindOf mlX10_358 miX10_kindOf msX10_kindOf dX10_taken_54 rfl rfl rfl rfl rfl (by omega) rfl rfl (kp ?_)
          refine r_istore_n C dX10_taken_57 rfl rfl ?_
          exact loop 8 _ hin (by assumption) (by assumption) (by have := hkd (ix (I 87 (ix k))) (by have := ix_nn (show 0 ≤ (I 87 (ix k)).toInt by assumption); omega); omega) rfl
        · refine r_bipush C (v := -12) dX10_taken_44 (by decide) ?_
          exact rp C Z dX10_taken_46 (by unfold taM; exact ((if_pos hin).trans ((if_neg (by omega)).trans (if_pos (by assumption)))).symm)
      · refine r_bipush C (v := -11) dX10_taken_30 (by decide) ?_
        exact rp C Z dX10_taken_32 (by unfold taM; exact ((if_pos hin).trans (if_pos (by assumption))).symm)
    · refine r_iconst C (v := -1) dX10_taken_19 (by decide) ?_
      exact rp C Z dX10_taken_20 (by unfold taM; exact (if_neg (fun z => absurd z.2 (by assumption))).symm)
set_option maxRecDepth 100000 in
set_option maxHeartbeats 400000 in
theorem sX10_shift {g : Gb} {d : Nat} (hd : 2 ≤ d) (a i e j n : Int32) (I : Is) (J : Js) (b : Bool) (hsz : ∀ t : Nat, t < 6 → 0 ≤ (I 88 t).toInt ∧ (I 88 t).toInt ≤ 60) : MC9 g d mX10_shift [.ref 64, .int a, .int i, .int e, .int j, .int n] I J b (Qg (fun r I' J' b' => (I' = I ∧ b' = b ∧ ((¬ (inR a 5 ∧ inR e 5) ∧ r = some (.int (-1)) ∧ J' = J) ∨ ((inR a 5 ∧ inR e 5) ∧ ¬ (0 ≤ (I 87 (ix a)).toInt ∧ 0 ≤ (I 87 (ix e)).toInt) ∧ r = some (.int (-11)) ∧ J' = J) ∨ ((inR a 5 ∧ inR e 5) ∧ (0 ≤ (I 87 (ix a)).toInt ∧ 0 ≤ (I 87 (ix e)).toInt) ∧ ¬ (50 ≤ (I 87 (ix a)).toInt ∧ I 87 (ix a) = I 87 (ix e)) ∧ r = some (.int (-12)) ∧ J' = J) ∨ ((inR a 5 ∧ inR e 5) ∧ (0 ≤ (I 87 (ix a)).toInt ∧ 0 ≤ (I 87 (ix e)).toInt) ∧ (50 ≤ (I 87 (ix a)).toInt ∧ I 87 (ix a) = I 87 (ix e)) ∧ ¬ (0 ≤ n.toInt ∧ 0 ≤ i.toInt ∧ 0 ≤ j.toInt ∧ i.toInt + n.toInt ≤ (I 88 (ix a)).toInt ∧ j.toInt + n.toInt ≤ (I 88 (ix e)).toInt) ∧ r = some (.int (-13)) ∧ J' = J) ∨ ((inR a 5 ∧ inR e 5) ∧ (0 ≤ (I 87 (ix a)).toInt ∧ 0 ≤ (I 87 (ix e)).toInt) ∧ (50 ≤ (I 87 (ix a)).toInt ∧ I 87 (ix a) = I 87 (ix e)) ∧ (0 ≤ n.toInt ∧ 0 ≤ i.toInt ∧ 0 ≤ j.toInt ∧ i.toInt + n.toInt ≤ (I 88 (ix a)).toInt ∧ j.toInt + n.toInt ≤ (I 88 (ix e)).toInt) ∧ r = some (.int n) ∧ (∀ c, c ≠ 89 → c ≠ 90 → J' c = J c) ∧ ∀ q, J' 89 q = if 60 * ix e + ix j ≤ q ∧ q < 60 * ix e + ix j + ix n then J 89 (60 * ix a + ix i + (q - (60 * ix e + ix j))) else J 89 q))))) := by
  refine ent9 (own := RX10) rfl rfl rfl (fun X hg hx C Z => ?_)
  subst hg
  have body : (inR a 5 ∧ inR e 5) → (0 ≤ (I 87 (ix a)).toInt ∧ 0 ≤ (I 87 (ix e)).toInt) → (50 ≤ (I 87 (ix a)).toInt ∧ I 87 (ix a) = I 87 (ix e)) → (0 ≤ n.toInt ∧ 0 ≤ i.toInt ∧ 0 ≤ j.toInt ∧ i.toInt + n.toInt ≤ (I 88 (ix a)).toInt ∧ j.toInt + n.toInt ≤ (I 88 (ix e)).toInt) → Aw X 110 [some (.ref 64), some (.int a), some (.int i), some (.int e), some (.int j), some (.int n), none] [] (st9 I J b) := by
    intro h1 h2 h3 h4
    obtain ⟨p1, p2, p3⟩ := k60 h1.1
    obtain ⟨r1, r2, r3⟩ := k60 h1.2
    obtain ⟨z1, z2⟩ := hsz (ix a) (by omega)
    obtain ⟨z3, z4⟩ := hsz (ix e) (by omega)
    obtain ⟨hn0, hi0, hj0, hi1, hj1⟩ := h4
    have inn := ix_nn hn0
    have ini := ix_nn hi0
    have inj_ := ix_nn hj0
    have eai : (60 * a + i : Int32).toInt = 60 * (ix a : Int) + ix i := by rw [tI_add (by omega) (by omega), p1]; omega
    have eej : (60 * e + j : Int32).toInt = 60 * (ix e : Int) + ix j := by rw [tI_add (by omega) (by omega), r1]; omega
    have loop2 : ∀ (m c : Nat) (J' : Js), m + c = ix n → (∀ q, q < ix n → J' 90 q = J 89 (60 * ix a + ix i + q)) → (∀ c, c ≠ 89 → c ≠ 90 → J' c = J c) → (∀ q, J' 89 q = if 60 * ix e + ix j ≤ q ∧ q < 60 * ix e + ix j + c then J 89 (60 * ix a + ix i + (q - (60 * ix e + ix j))) else J 89 q) → Aw X 150 [some (.ref 64), some (.int a), some (.int i), some (.int e), some (.int j), some (.int n), some (.int (nI c))] [] (st9 I J' b) := by
      intro m
      induction m with
      | zero =>
        intro c J' hm h90 hc hq
        have inc : (nI c).toInt = (c : Int) := nIint (by omega)
        rw [show c = ix n by omega] at hq
        refine r_iload C dX10_shift_150 rfl ?_
        refine r_iload C dX10_shift_152 rfl ?_
        refine b_icge C (tgt := 185) rfl rfl dX10_shift_154 rfl (fun h154_1 => ?_) (fun h154_1 => ?_)
        · refine r_iload C dX10_shift_185 rfl ?_
          exact rgi C Z dX10_shift_187 (show _ ∧ _ ∧ (_ ∨ _ ∨ _ ∨ _ ∨ _) from ⟨rfl, rfl, Or.inr (Or.inr (Or.inr (Or.inr ⟨h1, h2, h3, ⟨hn0, hi0, hj0, hi1, hj1⟩, rfl, hc, hq⟩)))⟩)
        · exfalso; omega
      | succ m ih =>
        intro c J' hm h90 hc hq
        have inc : (nI c).toInt = (c : Int) := nIint (by omega)
        have cx : ix (nI c) = c := nIix (by omega)
        have eejc : (60 * e + j + nI c : Int32).toInt = 60 * (ix e : Int) + ix j + c := by rw [tI_add (by omega) (by omega), eej, inc]
        have xx : ix (60 * e + j + nI c) = 60 * ix e + ix j + c := ix_of (by omega)
        refine r_iload C dX10_shift_150 rfl ?_
        refine r_iload C dX10_shift_152 rfl ?_
        refine b_icge C (tgt := 185) rfl rfl dX10_shift_154 rfl (fun h154_1 => ?_) (fun h154_1 => ?_)
        · exfalso; omega
        · refine r_aload_n C dX10_shift_157 rfl ?_
          refine r_getR C flX10_82 dX10_shift_158 rfl rfl rfl ?_
          refine r_bipush C (v := 60) dX10_shift_161 (by decide) ?_
          refine r_iload_n C dX10_shift_163 rfl ?_
          refine r_imul C dX10_shift_164 ?_
          refine r_iload C dX10_shift_165 rfl ?_
          refine r_iadd C dX10_shift_167 ?_
          refine r_iload C dX10_shift_168 rfl ?_
          refine r_iadd C dX10_shift_170 ?_
          refine r_aload_n C dX10_shift_171 rfl ?_
          refine r_getR C flX10_86 dX10_shift_172 rfl rfl rfl ?_
          refine r_iload C dX10_shift_175 rfl ?_
          refine r_lald C rfl dX10_shift_177 (vin (by omega) (show (nI c).toInt < 60 by omega)) ?_
          rw [cx, h90 c (by omega)]
          refine r_last C rfl dX10_shift_178 (vin (by omega) (show (60 * e + j + nI c : Int32).toInt < 360 by omega)) ?_
          rw [xx]
          refine r_iinc C (v := 1) dX10_shift_179 rfl (by decide) rfl ?_
          refine r_goto C (tgt := 150) dX10_shift_182 rfl ?_
          rw [nI_s]
          exact ih (c + 1) _ (by omega) (fun q hq2 => (congrFun (u2_row (by decide)) q).trans (h90 q hq2)) (fun c' h h' => (u2_row h).trans (hc c' h h')) (fun q => by
            by_cases e9 : q = 60 * ix e + ix j + c
            · rw [e9, u2_same, if_pos ⟨by omega, by omega⟩, show 60 * ix e + ix j + c - (60 * ix e + ix j) = c by omega]
            · rw [u2_ne _ _ _ _ (Or.inr e9), hq q]
              by_cases c9 : 60 * ix e + ix j ≤ q ∧ q < 60 * ix e + ix j + c
              · rw [if_pos c9, if_pos ⟨c9.1, by omega⟩]
              · rw [if_neg c9, if_neg (fun z => c9 ⟨z.1, by omega⟩)])
    have loop1 : ∀ (m c : Nat) (J' : Js), m + c = ix n → (∀ q, q < c → J' 90 q = J 89 (60 * ix a + ix i + q)) → (∀ c, c ≠ 90 → J' c = J c) → Aw X 113 [some (.ref 64), some (.int a), some (.int i), some (.int e), some (.int j), some (.int n), some (.int (nI c))] [] (st9 I J' b) := by
      intro m
      induction m with
      | zero =>
        intro c J' hm h90 hc
        have inc : (nI c).toInt = (c : Int) := nIint (by omega)
        refine r_iload C dX10_shift_113 rfl ?_
        refine r_iload C dX10_shift_115 rfl ?_
        refine b_icge C (tgt := 147) rfl rfl dX10_shift_117 rfl (fun h117_1 => ?_) (fun h117_1 => ?_)
        · refine r_iconst C (v := 0) dX10_shift_147 (by decide) ?_
          refine r_istore C dX10_shift_148 rfl rfl ?_
          exact loop2 (ix n) 0 J' rfl (fun q hq => h90 q (by omega)) (fun c' h h' => hc c' h') (fun q => by rw [if_neg (by omega)]; exact congrFun (hc 89 (by decide)) q)
        · exfalso; omega
      | succ m ih =>
        intro c J' hm h90 hc
        have inc : (nI c).toInt = (c : Int) := nIint (by omega)
        have cx : ix (nI c) = c := nIix (by omega)
        have eaic : (60 * a + i + nI c : Int32).toInt = 60 * (ix a : Int) + ix i + c := by rw [tI_add (by omega) (by omega), eai, inc]
        have xx : ix (60 * a + i + nI c) = 60 * ix a + ix i + c := ix_of (by omega)
        have e89 : J' 89 = J 89 := hc 89 (by decide)
        refine r_iload C dX10_shift_113 rfl ?_
        refine r_iload C dX10_shift_115 rfl ?_
        refine b_icge C (tgt := 147) rfl rfl dX10_shift_117 rfl (fun h117_1 => ?_) (fun h117_1 => ?_)
        · exfalso; omega
        · refine r_aload_n C dX10_shift_120 rfl ?_
          refine r_getR C flX10_86 dX10_shift_121 rfl rfl rfl ?_
          refine r_iload C dX10_shift_124 rfl ?_
          refine r_aload_n C dX10_shift_126 rfl ?_
          refine r_getR C flX10_82 dX10_shift_127 rfl rfl rfl ?_
          refine r_bipush C (v := 60) dX10_shift_130 (by decide) ?_
          refine r_iload_n C dX10_shift_132 rfl ?_
          refine r_imul C dX10_shift_133 ?_
          refine r_iload_n C dX10_shift_134 rfl ?_
          refine r_iadd C dX10_shift_135 ?_
          refine r_iload C dX10_shift_136 rfl ?_
          refine r_iadd C dX10_shift_138 ?_
          refine r_lald C rfl dX10_shift_139 (vin (by omega) (show (60 * a + i + nI c : Int32).toInt < 360 by omega)) ?_
          rw [xx, e89]
          refine r_last C rfl dX10_shift_140 (vin (by omega) (show (nI c).toInt < 60 by omega)) ?_
          rw [cx]
          refine r_iinc C (v := 1) dX10_shift_141 rfl (by decide) rfl ?_
          refine r_goto C (tgt := 113) dX10_shift_144 rfl ?_
          rw [nI_s]
          exact ih (c + 1) _ (by omega) (fun q hq => by
            by_cases e9 : q = c
            · rw [e9, u2_same]
            · rw [u2_ne _ _ _ _ (Or.inr e9)]; exact h90 q (by omega)) (fun c' h => (u2_row h).trans (hc c' h))
    refine r_iconst C (v := 0) dX10_shift_110 (by decide) ?_
    refine r_istore C dX10_shift_111 rfl rfl ?_
    exact loop1 (ix n) 0 J rfl (fun q hq => absurd hq (Nat.not_lt_zero q)) (fun _ _ => rfl)
  refine r_iload_n C dX10_shift_0 rfl ?_
  refine cS C hx (sX10_isShelf (d := d - 1) (by omega) _ I J b) moX10_isShelf mlX10_124 mtX10_isShelf dX10_shift_1 rfl rfl (by omega) rfl rfl (kp ?_)
  refine z_ifeq C (tgt := 14) dX10_shift_4 rfl (fun h4_2 => ?_) (fun h4_2 => ?_)
  · refine r_iconst C (v := -1) dX10_shift_14 (by decide) ?_
    exact rgi C Z dX10_shift_15 (show _ ∧ _ ∧ (_ ∨ _ ∨ _ ∨ _ ∨ _) from ⟨rfl, rfl, Or.inl ⟨fun z => absurd z.1 (by assumption), rfl, rfl⟩⟩)
  · refine r_iload_n C dX10_shift_7 rfl ?_
    refine cS C hx (sX10_isShelf (d := d - 1) (by omega) _ I J b) moX10_isShelf mlX10_124 mtX10_isShelf dX10_shift_8 rfl rfl (by omega) rfl rfl (kp ?_)
    refine z_ifne C (tgt := 16) dX10_shift_11 rfl (fun h11_4 => ?_) (fun h11_4 => ?_)
    · have h1 : (inR a 5 ∧ inR e 5) := ⟨by assumption, by assumption⟩
      obtain ⟨p1, p2, p3⟩ := k60 h1.1
      obtain ⟨r1, r2, r3⟩ := k60 h1.2
      obtain ⟨z1, z2⟩ := hsz (ix a) (by omega)
      obtain ⟨z3, z4⟩ := hsz (ix e) (by omega)
      have hrn := i32_rng n
      refine r_aload_n C dX10_shift_16 rfl ?_
      refine r_getR C flX10_76 dX10_shift_17 rfl rfl rfl ?_
      refine r_iload_n C dX10_shift_20 rfl ?_
      refine r_iald C rfl dX10_shift_21 (sh_ix h1.1) ?_
      refine b_iflt C (tgt := 34) dX10_shift_22 rfl (fun h22_5 => ?_) (fun h22_5 => ?_)
      · refine r_bipush C (v := -11) dX10_shift_34 (by decide) ?_
        exact rgi C Z dX10_shift_36 (show _ ∧ _ ∧ (_ ∨ _ ∨ _ ∨ _ ∨ _) from ⟨rfl, rfl, Or.inr (Or.inl ⟨h1, fun z => by have y1 := z.1; have y2 := z.2; omega, rfl, rfl⟩)⟩)
      · refine r_aload_n C dX10_shift_25 rfl ?_
        refine r_getR C flX10_76 dX10_shift_26 rfl rfl rfl ?_
        refine r_iload_n C dX10_shift_29 rfl ?_
        refine r_iald C rfl dX10_shift_30 (sh_ix h1.2) ?_
        refine b_ifge C (tgt := 37) dX10_shift_31 rfl (fun h31_6 => ?_) (fun h31_6 => ?_)
        · have h2 : (0 ≤ (I 87 (ix a)).toInt ∧ 0 ≤ (I 87 (ix e)).toInt) := ⟨by assumption, by assumption⟩
          refine r_aload_n C dX10_shift_37 rfl ?_
          refine r_getR C flX10_76 dX10_shift_38 rfl rfl rfl ?_
          refine r_iload_n C dX10_shift_41 rfl ?_
          refine r_iald C rfl dX10_shift_42 (sh_ix h1.1) ?_
          refine r_bipush C (v := 50) dX10_shift_43 (by decide) ?_
          refine b_iclt C (tgt := 63) (my := 50) rfl rfl dX10_shift_45 rfl (fun h45_7 => ?_) (fun h45_7 => ?_)
          · refine r_bipush C (v := -12) dX10_shift_63 (by decide) ?_
            exact rgi C Z dX10_shift_65 (show _ ∧ _ ∧ (_ ∨ _ ∨ _ ∨ _ ∨ _) from ⟨rfl, rfl, Or.inr (Or.inr (Or.inl ⟨h1, h2, fun z => by have y1 := z.1; omega, rfl, rfl⟩))⟩)
          · refine r_aload_n C dX10_shift_48 rfl ?_
            refine r_getR C flX10_76 dX10_shift_49 rfl rfl rfl ?_
            refine r_iload_n C dX10_shift_52 rfl ?_
            refine r_iald C rfl dX10_shift_53 (sh_ix h1.1) ?_
            refine r_aload_n C dX10_shift_54 rfl ?_
            refine r_getR C flX10_76 dX10_shift_55 rfl rfl rfl ?_
            refine r_iload_n C dX10_shift_58 rfl ?_
            refine r_iald C rfl dX10_shift_59 (sh_ix h1.2) ?_
            refine r_iceq C (tgt := 66) dX10_shift_60 rfl (fun h60_8 => ?_) (fun h60_8 => ?_)
            · have h3 : (50 ≤ (I 87 (ix a)).toInt ∧ I 87 (ix a) = I 87 (ix e)) := ⟨by assumption, by assumption⟩
              refine r_iload C dX10_shift_66 rfl ?_
              refine b_iflt C (tgt := 107) dX10_shift_68 rfl (fun h68_9 => ?_) (fun h68_9 => ?_)
              · refine r_bipush C (v := -13) dX10_shift_107 (by decide) ?_
                exact rgi C Z dX10_shift_109 (show _ ∧ _ ∧ (_ ∨ _ ∨ _ ∨ _ ∨ _) from ⟨rfl, rfl, Or.inr (Or.inr (Or.inr (Or.inl ⟨h1, h2, h3, fun z => by obtain ⟨y1, y2, y3, y4, y5⟩ := z; omega, rfl, rfl⟩)))⟩)
              · refine r_iload_n C dX10_shift_71 rfl ?_
                refine b_iflt C (tgt := 107) dX10_shift_72 rfl (fun h72_10 => ?_) (fun h72_10 => ?_)
                · refine r_bipush C (v := -13) dX10_shift_107 (by decide) ?_
                  exact rgi C Z dX10_shift_109 (show _ ∧ _ ∧ (_ ∨ _ ∨ _ ∨ _ ∨ _) from ⟨rfl, rfl, Or.inr (Or.inr (Or.inr (Or.inl ⟨h1, h2, h3, fun z => by obtain ⟨y1, y2, y3, y4, y5⟩ := z; omega, rfl, rfl⟩)))⟩)
                · refine r_iload C dX10_shift_75 rfl ?_
                  refine b_iflt C (tgt := 107) dX10_shift_77 rfl (fun h77_11 => ?_) (fun h77_11 => ?_)
                  · refine r_bipush C (v := -13) dX10_shift_107 (by decide) ?_
                    exact rgi C Z dX10_shift_109 (show _ ∧ _ ∧ (_ ∨ _ ∨ _ ∨ _ ∨ _) from ⟨rfl, rfl, Or.inr (Or.inr (Or.inr (Or.inl ⟨h1, h2, h3, fun z => by obtain ⟨y1, y2, y3, y4, y5⟩ := z; omega, rfl, rfl⟩)))⟩)
                  · have s1 : (I 88 (ix a) - n).toInt = (I 88 (ix a)).toInt - n.toInt := by rw [tI_sub (by omega) (by omega)]
                    have s2 : (I 88 (ix e) - n).toInt = (I 88 (ix e)).toInt - n.toInt := by rw [tI_sub (by omega) (by omega)]
                    refine r_iload_n C dX10_shift_80 rfl ?_
                    refine r_aload_n C dX10_shift_81 rfl ?_
                    refine r_getR C flX10_79 dX10_shift_82 rfl rfl rfl ?_
                    refine r_iload_n C dX10_shift_85 rfl ?_
                    refine r_iald C rfl dX10_shift_86 (sh_ix h1.1) ?_
                    refine r_iload C dX10_shift_87 rfl ?_
                    refine r_isub C dX10_shift_89 ?_
                    refine b_icgt C (tgt := 107) rfl rfl dX10_shift_90 rfl (fun h90_12 => ?_) (fun h90_12 => ?_)
                    · refine r_bipush C (v := -13) dX10_shift_107 (by decide) ?_
                      exact rgi C Z dX10_shift_109 (show _ ∧ _ ∧ (_ ∨ _ ∨ _ ∨ _ ∨ _) from ⟨rfl, rfl, Or.inr (Or.inr (Or.inr (Or.inl ⟨h1, h2, h3, fun z => by obtain ⟨y1, y2, y3, y4, y5⟩ := z; omega, rfl, rfl⟩)))⟩)
                    · refine r_iload C dX10_shift_93 rfl ?_
                      refine r_aload_n C dX10_shift_95 rfl ?_
                      refine r_getR C flX10_79 dX10_shift_96 rfl rfl rfl ?_
                      refine r_iload_n C dX10_shift_99 rfl ?_
                      refine r_iald C rfl dX10_shift_100 (sh_ix h1.2) ?_
                      refine r_iload C dX10_shift_101 rfl ?_
                      refine r_isub C dX10_shift_103 ?_
                      refine b_icle C (tgt := 110) rfl rfl dX10_shift_104 rfl (fun h104_13 => ?_) (fun h104_13 => ?_)
                      · exact body h1 h2 h3 ⟨by assumption, by assumption, by assumption, by omega, by omega⟩
                      · refine r_bipush C (v := -13) dX10_shift_107 (by decide) ?_
                        exact rgi C Z dX10_shift_109 (show _ ∧ _ ∧ (_ ∨ _ ∨ _ ∨ _ ∨ _) from ⟨rfl, rfl, Or.inr (Or.inr (Or.inr (Or.inl ⟨h1, h2, h3, fun z => by obtain ⟨y1, y2, y3, y4, y5⟩ := z; omega, rfl, rfl⟩)))⟩)
            · refine r_bipush C (v := -12) dX10_shift_63 (by decide) ?_
              exact rgi C Z dX10_shift_65 (show _ ∧ _ ∧ (_ ∨ _ ∨ _ ∨ _ ∨ _) from ⟨rfl, rfl, Or.inr (Or.inr (Or.inl ⟨h1, h2, fun z => absurd z.2 (by assumption), rfl, rfl⟩))⟩)
        · refine r_bipush C (v := -11) dX10_shift_34 (by decide) ?_
          exact rgi C Z dX10_shift_36 (show _ ∧ _ ∧ (_ ∨ _ ∨ _ ∨ _ ∨ _) from ⟨rfl, rfl, Or.inr (Or.inl ⟨h1, fun z => by have y1 := z.1; have y2 := z.2; omega, rfl, rfl⟩)⟩)
    · refine r_iconst C (v := -1) dX10_shift_14 (by decide) ?_
      exact rgi C Z dX10_shift_15 (show _ ∧ _ ∧ (_ ∨ _ ∨ _ ∨ _ ∨ _) from ⟨rfl, rfl, Or.inl ⟨fun z => absurd z.2 (by assumption), rfl, rfl⟩⟩)
