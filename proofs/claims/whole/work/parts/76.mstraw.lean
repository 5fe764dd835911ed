set_option maxRecDepth 100000 in
set_option maxHeartbeats 400000 in
theorem sX10_adds {g : Gb} {d : Nat} (hd : 0 ≤ d) (st wi re : Int32) (I : Is) (J : Js) (b : Bool) (S : Nat) (hS : S < 3) (hs6 : I 64 6 = nI S) : MC9 g d mX10_adds [.ref 64, .int st, .int wi, .int re] I J b (Qv J b (fun I' => (I' 64 6 = I 64 6 + 1 ∧ (∀ k, I' 65 k = if 8 * ix (I 64 6) ≤ k ∧ k < 8 * ix (I 64 6) + 8 then nwF st wi re (k - 8 * ix (I 64 6)) else I 65 k) ∧ FrM [65] [6] I I'))) := by
  have hSx : ix (I 64 6) = S := by rw [hs6]; exact nIix (by omega)
  refine ent9 (own := RX10) rfl rfl rfl (fun X hg hx C Z => ?_)
  subst hg
  refine r_bipush C (v := 8) dX10_adds_0 (by decide) ?_
  refine r_aload_n C dX10_adds_2 rfl ?_
  refine r_getI C flX10_102 dX10_adds_3 rfl rfl ?_
  rw [hs6]
  refine r_imul C dX10_adds_6 ?_
  refine r_istore C dX10_adds_7 rfl rfl ?_
  refine r_aload_n C dX10_adds_9 rfl ?_
  refine r_getR C flX10_9 dX10_adds_10 rfl rfl rfl ?_
  refine r_iload C dX10_adds_13 rfl ?_
  refine r_iconst C (v := 0) dX10_adds_15 (by decide) ?_
  refine r_iadd C dX10_adds_16 ?_
  refine r_iload_n C dX10_adds_17 rfl ?_
  refine r_iast C rfl dX10_adds_18 (mpl S 0 hS (by decide)).2 ?_
  rw [show ix (8 * nI S + 0) = 8 * S + 0 from (mpl S 0 hS (by decide)).1]
  refine r_aload_n C dX10_adds_19 rfl ?_
  refine r_getR C flX10_9 dX10_adds_20 rfl rfl rfl ?_
  refine r_iload C dX10_adds_23 rfl ?_
  refine r_iconst C (v := 1) dX10_adds_25 (by decide) ?_
  refine r_iadd C dX10_adds_26 ?_
  refine r_iload_n C dX10_adds_27 rfl ?_
  refine r_iast C rfl dX10_adds_28 (mpl S 1 hS (by decide)).2 ?_
  rw [show ix (8 * nI S + 1) = 8 * S + 1 from (mpl S 1 hS (by decide)).1]
  refine r_aload_n C dX10_adds_29 rfl ?_
  refine r_getR C flX10_9 dX10_adds_30 rfl rfl rfl ?_
  refine r_iload C dX10_adds_33 rfl ?_
  refine r_iconst C (v := 2) dX10_adds_35 (by decide) ?_
  refine r_iadd C dX10_adds_36 ?_
  refine r_iload_n C dX10_adds_37 rfl ?_
  refine r_iast C rfl dX10_adds_38 (mpl S 2 hS (by decide)).2 ?_
  rw [show ix (8 * nI S + 2) = 8 * S + 2 from (mpl S 2 hS (by decide)).1]
  refine r_aload_n C dX10_adds_39 rfl ?_
  refine r_getR C flX10_9 dX10_adds_40 rfl rfl rfl ?_
  refine r_iload C dX10_adds_43 rfl ?_
  refine r_iconst C (v := 3) dX10_adds_45 (by decide) ?_
  refine r_iadd C dX10_adds_46 ?_
  refine r_bipush C (v := 10) dX10_adds_47 (by decide) ?_
  refine r_iast C rfl dX10_adds_49 (mpl S 3 hS (by decide)).2 ?_
  rw [show ix (8 * nI S + 3) = 8 * S + 3 from (mpl S 3 hS (by decide)).1]
  refine r_aload_n C dX10_adds_50 rfl ?_
  refine r_getR C flX10_9 dX10_adds_51 rfl rfl rfl ?_
  refine r_iload C dX10_adds_54 rfl ?_
  refine r_iconst C (v := 4) dX10_adds_56 (by decide) ?_
  refine r_iadd C dX10_adds_57 ?_
  refine r_bipush C (v := 60) dX10_adds_58 (by decide) ?_
  refine r_iast C rfl dX10_adds_60 (mpl S 4 hS (by decide)).2 ?_
  rw [show ix (8 * nI S + 4) = 8 * S + 4 from (mpl S 4 hS (by decide)).1]
  refine r_aload_n C dX10_adds_61 rfl ?_
  refine r_getR C flX10_9 dX10_adds_62 rfl rfl rfl ?_
  refine r_iload C dX10_adds_65 rfl ?_
  refine r_iconst C (v := 5) dX10_adds_67 (by decide) ?_
  refine r_iadd C dX10_adds_68 ?_
  refine r_iconst C (v := 0) dX10_adds_69 (by decide) ?_
  refine r_iast C rfl dX10_adds_70 (mpl S 5 hS (by decide)).2 ?_
  rw [show ix (8 * nI S + 5) = 8 * S + 5 from (mpl S 5 hS (by decide)).1]
  refine r_aload_n C dX10_adds_71 rfl ?_
  refine r_getR C flX10_9 dX10_adds_72 rfl rfl rfl ?_
  refine r_iload C dX10_adds_75 rfl ?_
  refine r_bipush C (v := 6) dX10_adds_77 (by decide) ?_
  refine r_iadd C dX10_adds_79 ?_
  refine r_iconst C (v := -1) dX10_adds_80 (by decide) ?_
  refine r_iast C rfl dX10_adds_81 (mpl S 6 hS (by decide)).2 ?_
  rw [show ix (8 * nI S + 6) = 8 * S + 6 from (mpl S 6 hS (by decide)).1]
  refine r_aload_n C dX10_adds_82 rfl ?_
  refine r_getR C flX10_9 dX10_adds_83 rfl rfl rfl ?_
  refine r_iload C dX10_adds_86 rfl ?_
  refine r_bipush C (v := 7) dX10_adds_88 (by decide) ?_
  refine r_iadd C dX10_adds_90 ?_
  refine r_sipush C (v := 999) dX10_adds_91 (by decide) ?_
  refine r_iast C rfl dX10_adds_94 (mpl S 7 hS (by decide)).2 ?_
  rw [show ix (8 * nI S + 7) = 8 * S + 7 from (mpl S 7 hS (by decide)).1]
  refine r_aload_n C dX10_adds_95 rfl ?_
  refine r_dup C dX10_adds_96 rfl ?_
  refine r_getI C flX10_102 dX10_adds_97 rfl rfl ?_
  refine r_iconst C (v := 1) dX10_adds_100 (by decide) ?_
  refine r_iadd C dX10_adds_101 ?_
  refine r_putI C flX10_102 dX10_adds_102 rfl rfl rfl rfl rfl ?_
  exact rv C Z dX10_adds_105 (show _ ∧ _ ∧ _ from ⟨rfl, fun k => by
    rw [hSx]
    refine (congrFun (u2_row (t := 64) (t' := 65) (by decide)) k).trans ?_
    by_cases c : 8 * S ≤ k ∧ k < 8 * S + 8
    · rw [if_pos c]
      obtain ⟨q, hq8, rfl⟩ : ∃ q, q < 8 ∧ k = 8 * S + q := ⟨k - 8 * S, by omega, by omega⟩
      clear c
      rcases (show q = 0 ∨ q = 1 ∨ q = 2 ∨ q = 3 ∨ q = 4 ∨ q = 5 ∨ q = 6 ∨ q = 7 by omega) with rfl | rfl | rfl | rfl | rfl | rfl | rfl | rfl
      · rw [u2_ne _ _ _ _ (Or.inr (by omega)), u2_ne _ _ _ _ (Or.inr (by omega)), u2_ne _ _ _ _ (Or.inr (by omega)), u2_ne _ _ _ _ (Or.inr (by omega)), u2_ne _ _ _ _ (Or.inr (by omega)), u2_ne _ _ _ _ (Or.inr (by omega)), u2_ne _ _ _ _ (Or.inr (by omega)), u2_same, show 8 * S + 0 - 8 * S = 0 by omega]; rfl
      · rw [u2_ne _ _ _ _ (Or.inr (by omega)), u2_ne _ _ _ _ (Or.inr (by omega)), u2_ne _ _ _ _ (Or.inr (by omega)), u2_ne _ _ _ _ (Or.inr (by omega)), u2_ne _ _ _ _ (Or.inr (by omega)), u2_ne _ _ _ _ (Or.inr (by omega)), u2_same, show 8 * S + 1 - 8 * S = 1 by omega]; rfl
      · rw [u2_ne _ _ _ _ (Or.inr (by omega)), u2_ne _ _ _ _ (Or.inr (by omega)), u2_ne _ _ _ _ (Or.inr (by omega)), u2_ne _ _ _ _ (Or.inr (by omega)), u2_ne _ _ _ _ (Or.inr (by omega)), u2_same, show 8 * S + 2 - 8 * S = 2 by omega]; rfl
      · rw [u2_ne _ _ _ _ (Or.inr (by omega)), u2_ne _ _ _ _ (Or.inr (by omega)), u2_ne _ _ _ _ (Or.inr (by omega)), u2_ne _ _ _ _ (Or.inr (by omega)), u2_same, show 8 * S + 3 - 8 * S = 3 by omega]; rfl
      · rw [u2_ne _ _ _ _ (Or.inr (by omega)), u2_ne _ _ _ _ (Or.inr (by omega)), u2_ne _ _ _ _ (Or.inr (by omega)), u2_same, show 8 * S + 4 - 8 * S = 4 by omega]; rfl
      · rw [u2_ne _ _ _ _ (Or.inr (by omega)), u2_ne _ _ _ _ (Or.inr (by omega)), u2_same, show 8 * S + 5 - 8 * S = 5 by omega]; rfl
      · rw [u2_ne _ _ _ _ (Or.inr (by omega)), u2_same, show 8 * S + 6 - 8 * S = 6 by omega]; rfl
      · rw [u2_same, show 8 * S + 7 - 8 * S = 7 by omega]; rfl
    · rw [if_neg c]
      rw [u2_ne _ _ _ _ (Or.inr (by omega)), u2_ne _ _ _ _ (Or.inr (by omega)), u2_ne _ _ _ _ (Or.inr (by omega)), u2_ne _ _ _ _ (Or.inr (by omega)), u2_ne _ _ _ _ (Or.inr (by omega)), u2_ne _ _ _ _ (Or.inr (by omega)), u2_ne _ _ _ _ (Or.inr (by omega)), u2_ne _ _ _ _ (Or.inr (by omega))], (((((((((FrM.rf.st (by decide) (by decide)).st (by decide) (by decide)).st (by decide) (by decide)).st (by decide) (by decide)).st (by decide) (by decide)).st (by decide) (by decide)).st (by decide) (by decide)).st (by decide) (by decide)).sf (by decide))⟩)
theorem s6_nI {I : Is} (h0 : 0 ≤ (I 64 6).toInt) (h3 : (I 64 6).toInt ≤ 3) (hn : ¬ I 64 6 = 3) : ∃ S : Nat, S < 3 ∧ I 64 6 = nI S := by
  have := ne_int hn
  rw [three_int] at this
  exact ⟨ix (I 64 6), by have := ix_nn h0; omega, Int32.toInt_inj.mp (by have := ix_nn h0; rw [nIint (by omega)]; omega)⟩
set_option maxRecDepth 100000 in
set_option maxHeartbeats 400000 in
theorem sX10_straw {g : Gb} {d : Nat} (hd : 2 ≤ d) (st re : Int32) (I : Is) (J : Js) (b : Bool) (hs0 : 0 ≤ (I 64 6).toInt) (hs3 : (I 64 6).toInt ≤ 3) : MC9 g d mX10_straw [.ref 64, .int st, .int re] I J b (Qi J b (fun v I' => (¬ ((0 ≤ st.toInt ∧ st.toInt ≤ 20) ∧ 0 ≤ re.toInt ∧ re.toInt ≤ 999) ∧ v = -1 ∧ I' = I) ∨ (((0 ≤ st.toInt ∧ st.toInt ≤ 20) ∧ 0 ≤ re.toInt ∧ re.toInt ≤ 999) ∧ I 64 6 = 3 ∧ v = -3 ∧ I' = I) ∨ (((0 ≤ st.toInt ∧ st.toInt ≤ 20) ∧ 0 ≤ re.toInt ∧ re.toInt ≤ 999) ∧ ¬ I 64 6 = 3 ∧ v = I 64 6 + 1 - 1 ∧ (I' 64 6 = I 64 6 + 1 ∧ (∀ k, I' 65 k = if 8 * ix (I 64 6) ≤ k ∧ k < 8 * ix (I 64 6) + 8 then nwF st 3 re (k - 8 * ix (I 64 6)) else I 65 k) ∧ FrM [65] [6] I I')))) := by
  refine ent9 (own := RX10) rfl rfl rfl (fun X hg hx C Z => ?_)
  subst hg
  refine r_iload_n C dX10_straw_0 rfl ?_
  refine r_i2l C dX10_straw_1 ?_
  refine r_ldc2 C kkX10_115 dX10_straw_2 ?_
  refine r_iload_n C dX10_straw_5 rfl ?_
  refine r_i2l C dX10_straw_6 ?_
  refine cS C hx (sX10_isOne (d := d - 1) (by omega) st.toInt64 3 re.toInt64 I J b) moX10_isOne mlX10_117 mtX10_isOne dX10_straw_7 rfl rfl (by omega) rfl rfl (kp ?_)
  refine z_ifne C (tgt := 15) dX10_straw_10 rfl (fun h10_2 => ?_) (fun h10_2 => ?_)
  · have h1 := (show _ ∧ _ ∧ _ by assumption)
    rw [Int32.toInt_toInt64, Int32.toInt_toInt64] at h1
    have hin : ((0 ≤ st.toInt ∧ st.toInt ≤ 20) ∧ 0 ≤ re.toInt ∧ re.toInt ≤ 999) := ⟨h1.1, h1.2.2⟩
    refine r_aload_n C dX10_straw_15 rfl ?_
    refine r_getI C flX10_102 dX10_straw_16 rfl rfl ?_
    refine r_iconst C (v := 3) dX10_straw_19 (by decide) ?_
    refine r_icne C (tgt := 26) dX10_straw_20 rfl (fun h20_3 => ?_) (fun h20_3 => ?_)
    · obtain ⟨S, hS, hs6⟩ := s6_nI hs0 hs3 (by assumption)
      refine r_aload_n C dX10_straw_26 rfl ?_
      refine r_iload_n C dX10_straw_27 rfl ?_
      refine r_iconst C (v := 3) dX10_straw_28 (by decide) ?_
      refine r_iload_n C dX10_straw_29 rfl ?_
      refine cV (ci := 10) C hx (sX10_adds (d := d - 1) (by omega) st 3 re I J b S hS hs6) moX10_adds mlX10_120 miX10_adds msX10_adds dX10_straw_30 rfl rfl rfl rfl rfl (by omega) rfl rfl (kv (fun I_30_4 q_30_4 => ?_))
      have hq := q_30_4
      have e6 : I_30_4 64 6 = I 64 6 + 1 := hq.1
      refine r_aload_n C dX10_straw_33 rfl ?_
      refine r_getI C flX10_102 dX10_straw_34 rfl rfl ?_
      rw [e6]
      refine r_iconst C (v := 1) dX10_straw_37 (by decide) ?_
      refine r_isub C dX10_straw_38 ?_
      exact ri C Z dX10_straw_39 (Or.inr (Or.inr ⟨hin, by assumption, rfl, hq⟩))
    · refine r_bipush C (v := -3) dX10_straw_23 (by decide) ?_
      exact ri C Z dX10_straw_25 (Or.inr (Or.inl ⟨hin, by assumption, rfl, rfl⟩))
  · skip
    refine r_iconst C (v := -1) dX10_straw_13 (by decide) ?_
    exact ri C Z dX10_straw_14 (Or.inl ⟨fun z => (show ¬ _ by assumption) (by rw [Int32.toInt_toInt64, Int32.toInt_toInt64]; exact ⟨z.1, by decide, z.2⟩), rfl, rfl⟩)
/-- a straw added, its numbers told -/
def adM (st wi re : Int32) (I I' : Is) : Prop := I' 64 6 = I 64 6 + 1 ∧ (∀ k, I' 65 k = if 8 * ix (I 64 6) ≤ k ∧ k < 8 * ix (I 64 6) + 8 then nwF st wi re (k - 8 * ix (I 64 6)) else I 65 k) ∧ FrM [65] [6] I I'
def onP (x y z : Int64) : Prop := (0 ≤ x.toInt ∧ x.toInt ≤ 20) ∧ (1 ≤ y.toInt ∧ y.toInt ≤ 9) ∧ (0 ≤ z.toInt ∧ z.toInt ≤ 999)
/-- straws from a row, the m next ones, c had come: they stand from place i + 3 c on -/
def srM (J : Js) (k i : Int32) (N : Int32) : Nat → Nat → Is → Int32 → Is → Prop
  | 0, c, I, v, I' => v = nI c ∧ I' = I
  | m + 1, c, I, v, I' =>
    ((0 ≤ i.toInt ∧ i.toInt + 3 * c + 3 ≤ N.toInt ∧ (I 64 6).toInt < 3) ∧ onP (J 89 (60 * ix k + (ix i + 3 * c))) (J 89 (60 * ix k + (ix i + 3 * c + 1))) (J 89 (60 * ix k + (ix i + 3 * c + 2))) ∧ ∃ I1 : Is, adM (J 89 (60 * ix k + (ix i + 3 * c))).toInt32 (J 89 (60 * ix k + (ix i + 3 * c + 1))).toInt32 (J 89 (60 * ix k + (ix i + 3 * c + 2))).toInt32 I I1 ∧ srM J k i N m (c + 1) I1 v I') ∨
    (¬ ((0 ≤ i.toInt ∧ i.toInt + 3 * c + 3 ≤ N.toInt ∧ (I 64 6).toInt < 3) ∧ onP (J 89 (60 * ix k + (ix i + 3 * c))) (J 89 (60 * ix k + (ix i + 3 * c + 1))) (J 89 (60 * ix k + (ix i + 3 * c + 2)))) ∧ v = nI c ∧ I' = I)
set_option maxRecDepth 100000 in
set_option maxHeartbeats 400000 in
theorem sX10_straws {g : Gb} {d : Nat} (hd : 2 ≤ d) (k i n : Int32) (I : Is) (J : Js) (b : Bool) (hs0 : 0 ≤ (I 64 6).toInt) (hs3 : (I 64 6).toInt ≤ 3) (hsz : ∀ t : Nat, t < 6 → 0 ≤ (I 88 t).toInt ∧ (I 88 t).toInt ≤ 60) : MC9 g d mX10_straws [.ref 64, .int k, .int i, .int n] I J b (Qi J b (fun v I' => ((¬ (inR k 5 ∧ 1 ≤ n.toInt ∧ n.toInt ≤ 3) ∧ v = -1 ∧ I' = I) ∨ ((inR k 5 ∧ 1 ≤ n.toInt ∧ n.toInt ≤ 3) ∧ (I 87 (ix k)).toInt < 0 ∧ v = 0 ∧ I' = I) ∨ ((inR k 5 ∧ 1 ≤ n.toInt ∧ n.toInt ≤ 3) ∧ 0 ≤ (I 87 (ix k)).toInt ∧ ¬ I 87 (ix k) = 50 ∧ v = -12 ∧ I' = I) ∨ ((inR k 5 ∧ 1 ≤ n.toInt ∧ n.toInt ≤ 3) ∧ I 87 (ix k) = 50 ∧ srM J k i (I 88 (ix k)) n.toInt.toNat 0 I v I')))) := by
  have e50 : (50 : Int32).toInt = 50 := rfl
  refine ent9 (own := RX10) rfl rfl rfl (fun X hg hx C Z => ?_)
  subst hg
  have loop : ∀ (m c : Nat) (I0 : Is) (x6 : Option Value), (inR k 5 ∧ 1 ≤ n.toInt ∧ n.toInt ≤ 3) → I 87 (ix k) = 50 → m + c = n.toInt.toNat → 0 ≤ i.toInt → 0 ≤ (I0 64 6).toInt ∧ (I0 64 6).toInt ≤ 3 → FrM [65] [6] I I0 → (∀ v I', srM J k i (I 88 (ix k)) m c I0 v I' → srM J k i (I 88 (ix k)) n.toInt.toNat 0 I v I') → Aw X 69 [some (.ref 64), some (.int k), some (.int i), some (.int n), some (.int (nI c)), some (.int 1), x6] [] (st9 I0 J b) := by
    intro m
    induction m with
    | zero =>
      intro c I0 x6 hin h50 hm hi0 hs hF hc
      have inc : (nI c).toInt = (c : Int) := nIint (by omega)
      have fin : srM J k i (I 88 (ix k)) n.toInt.toNat 0 I (nI c) I0 := hc _ _ ⟨rfl, rfl⟩
      refine r_iload C dX10_straws_69 rfl ?_
      refine r_ifeq C (tgt := 211) dX10_straws_71 rfl (fun h71_1 => ?_) (fun h71_1 => ?_)
      · exact absurd (show (1 : Int32) = 0 by assumption) (by decide)
      · refine r_iload C dX10_straws_74 rfl ?_
        refine r_iload_n C dX10_straws_76 rfl ?_
        refine b_icge C (tgt := 211) rfl rfl dX10_straws_77 rfl (fun h77_2 => ?_) (fun h77_2 => ?_)
        · refine r_iload C dX10_straws_211 rfl ?_
          exact ri C Z dX10_straws_213 (show (_ ∨ _ ∨ _ ∨ _) from Or.inr (Or.inr (Or.inr ⟨hin, h50, fin⟩)))
        · exfalso; omega
    | succ m ih =>
      intro c I0 x6 hin h50 hm hi0 hs hF hc
      have inc : (nI c).toInt = (c : Int) := nIint (by omega)
      have hc3 : c < 3 := by omega
      have e88 : I0 88 = I 88 := hF.1 88 (by decide) (by decide)
      have kin := hin.1
      obtain ⟨z1, z2⟩ := hsz (ix k) (by have := ix_nn kin.1; have := kin.2; omega)
      have e3 : (3 : Int32).toInt = 3 := rfl
      have em : (3 * nI c : Int32).toInt = 3 * (c : Int) := by rw [tI_mul (by rw [e3, inc]; omega) (by rw [e3, inc]; omega), e3, inc]
      have es1 : (I 88 (ix k) - 3).toInt = (I 88 (ix k)).toInt - 3 := by rw [tI_sub (by omega) (by omega), e3]
      have es : (I 88 (ix k) - 3 - 3 * nI c).toInt = (I 88 (ix k)).toInt - 3 - 3 * c := by rw [tI_sub (by omega) (by omega), es1, em]
      -- no more
      have stp : ∀ (x6 : Option Value), ¬ ((0 ≤ i.toInt ∧ i.toInt + 3 * c + 3 ≤ (I 88 (ix k)).toInt ∧ (I0 64 6).toInt < 3) ∧ onP (J 89 (60 * ix k + (ix i + 3 * c))) (J 89 (60 * ix k + (ix i + 3 * c + 1))) (J 89 (60 * ix k + (ix i + 3 * c + 2)))) → Aw X 69 [some (.ref 64), some (.int k), some (.int i), some (.int n), some (.int (nI c)), some (.int 0), x6] [] (st9 I0 J b) := by
        intro x6 hno
        have fin : srM J k i (I 88 (ix k)) n.toInt.toNat 0 I (nI c) I0 := hc _ _ (Or.inr ⟨hno, rfl, rfl⟩)
        refine r_iload C dX10_straws_69 rfl ?_
        refine r_ifeq C (tgt := 211) dX10_straws_71 rfl (fun h71_1 => ?_) (fun h71_1 => ?_)
        · refine r_iload C dX10_straws_211 rfl ?_
          exact ri C Z dX10_straws_213 (show (_ ∨ _ ∨ _ ∨ _) from Or.inr (Or.inr (Or.inr ⟨hin, h50, fin⟩)))
        · exact absurd rfl (show ¬ (0 : Int32) = 0 by assumption)
      refine r_iload C dX10_straws_69 rfl ?_
      refine r_ifeq C (tgt := 211) dX10_straws_71 rfl (fun h71_1 => ?_) (fun h71_1 => ?_)
      · exact absurd (show (1 : Int32) = 0 by assumption) (by decide)
      · refine r_iload C dX10_straws_74 rfl ?_
        refine r_iload_n C dX10_straws_76 rfl ?_
        refine b_icge C (tgt := 211) rfl rfl dX10_straws_77 rfl (fun h77_2 => ?_) (fun h77_2 => ?_)
        · exfalso; omega
        · refine r_iload_n C dX10_straws_80 rfl ?_
          refine r_aload_n C dX10_straws_81 rfl ?_
          refine r_getR C flX10_79 dX10_straws_82 rfl rfl rfl ?_
          refine r_iload_n C dX10_straws_85 rfl ?_
          refine r_iald C rfl dX10_straws_86 (sh_ix kin) ?_
          rw [e88]
          refine r_iconst C (v := 3) dX10_straws_87 (by decide) ?_
          refine r_isub C dX10_straws_88 ?_
          refine r_iconst C (v := 3) dX10_straws_89 (by decide) ?_
          refine r_iload C dX10_straws_90 rfl ?_
          refine r_imul C dX10_straws_92 ?_
          refine r_isub C dX10_straws_93 ?_
          refine b_icgt C (tgt := 109) rfl rfl dX10_straws_94 rfl (fun h94_3 => ?_) (fun h94_3 => ?_)
          · refine r_iconst C (v := 0) dX10_straws_109 (by decide) ?_
            refine r_istore C dX10_straws_110 rfl rfl ?_
            refine r_bipush C (v := 60) dX10_straws_112 (by decide) ?_
            refine r_iload_n C dX10_straws_114 rfl ?_
            refine r_imul C dX10_straws_115 ?_
            refine r_iload_n C dX10_straws_116 rfl ?_
            refine r_iadd C dX10_straws_117 ?_
            refine r_iconst C (v := 3) dX10_straws_118 (by decide) ?_
            refine r_iload C dX10_straws_119 rfl ?_
            refine r_imul C dX10_straws_121 ?_
            refine r_iadd C dX10_straws_122 ?_
            refine r_istore C dX10_straws_123 rfl rfl ?_
            refine r_iload C dX10_straws_125 rfl ?_
            refine r_ifeq C (tgt := 165) dX10_straws_127 rfl (fun h127_4 => ?_) (fun h127_4 => ?_)
            · refine r_iconst C (v := 0) dX10_straws_165 (by decide) ?_
              refine r_istore C dX10_straws_166 rfl rfl ?_
              refine r_iload C dX10_straws_168 rfl ?_
              refine r_ifeq C (tgt := 208) dX10_straws_170 rfl (fun h170_5 => ?_) (fun h170_5 => ?_)
              · refine r_goto C (tgt := 69) dX10_straws_208 rfl ?_
                exact stp _ (fun z => by have := z.1.2.1; omega)
              · exact absurd rfl (show ¬ (0 : Int32) = 0 by assumption)
            · exact absurd rfl (show ¬ (0 : Int32) = 0 by assumption)
          · refine r_aload_n C dX10_straws_97 rfl ?_
            refine r_getI C flX10_102 dX10_straws_98 rfl rfl ?_
            refine r_iconst C (v := 3) dX10_straws_101 (by decide) ?_
            refine b_icge C (tgt := 109) (my := 3) rfl rfl dX10_straws_102 rfl (fun h102_6 => ?_) (fun h102_6 => ?_)
            · refine r_iconst C (v := 0) dX10_straws_109 (by decide) ?_
              refine r_istore C dX10_straws_110 rfl rfl ?_
              refine r_bipush C (v := 60) dX10_straws_112 (by decide) ?_
              refine r_iload_n C dX10_straws_114 rfl ?_
              refine r_imul C dX10_straws_115 ?_
              refine r_iload_n C dX10_straws_116 rfl ?_
              refine r_iadd C dX10_straws_117 ?_
              refine r_iconst C (v := 3) dX10_straws_118 (by decide) ?_
              refine r_iload C dX10_straws_119 rfl ?_
              refine r_imul C dX10_straws_121 ?_
              refine r_iadd C dX10_straws_122 ?_
              refine r_istore C dX10_straws_123 rfl rfl ?_
              refine r_iload C dX10_straws_125 rfl ?_
              refine r_ifeq C (tgt := 165) dX10_straws_127 rfl (fun h127_7 => ?_) (fun h127_7 => ?_)
              · refine r_iconst C (v := 0) dX10_straws_165 (by decide) ?_
                refine r_istore C dX10_straws_166 rfl rfl ?_
                refine r_iload C dX10_straws_168 rfl ?_
                refine r_ifeq C (tgt := 208) dX10_straws_170 rfl (fun h170_8 => ?_) (fun h170_8 => ?_)
                · refine r_goto C (tgt := 69) dX10_straws_208 rfl ?_
                  exact stp _ (fun z => by have := z.1.2.2; omega)
                · exact absurd rfl (show ¬ (0 : Int32) = 0 by assumption)
              · exact absurd rfl (show ¬ (0 : Int32) = 0 by assumption)
            · refine r_iconst C (v := 1) dX10_straws_105 (by decide) ?_
              refine r_goto C (tgt := 110) dX10_straws_106 rfl ?_
              refine r_istore C dX10_straws_110 rfl rfl ?_
              have hA : i.toInt + 3 * c + 3 ≤ (I 88 (ix k)).toInt ∧ (I0 64 6).toInt < 3 := ⟨by omega, by assumption⟩
              have ii := ix_nn hi0
              have ik := ix_nn kin.1
              have e60 : (60 : Int32).toInt = 60 := rfl
              have ek5 := kin.2
              have ekm : (60 * k : Int32).toInt = 60 * k.toInt := by rw [tI_mul (by rw [e60]; omega) (by rw [e60]; omega), e60]
              have eki : (60 * k + i : Int32).toInt = 60 * k.toInt + i.toInt := by rw [tI_add (by omega) (by omega), ekm]
              have ekc : (60 * k + i + 3 * nI c : Int32).toInt = 60 * k.toInt + i.toInt + 3 * c := by rw [tI_add (by omega) (by omega), eki, em]
              have x0 : ix (60 * k + i + 3 * nI c) = 60 * ix k + (ix i + 3 * c) := ix_of (by omega)
              have v0 : vp_in (60 * k + i + 3 * nI c) 360 := vin (by omega) (by omega)
              have e1 : (60 * k + i + 3 * nI c + 1 : Int32).toInt = 60 * k.toInt + i.toInt + 3 * c + 1 := by rw [tI_add (by rw [one_int]; omega) (by rw [one_int]; omega), ekc, one_int]
              have x1 : ix (60 * k + i + 3 * nI c + 1) = 60 * ix k + (ix i + 3 * c + 1) := ix_of (by omega)
              have v1 : vp_in (60 * k + i + 3 * nI c + 1) 360 := vin (by omega) (by omega)
              have e2_ : (2 : Int32).toInt = 2 := rfl
              have e2i : (60 * k + i + 3 * nI c + 2 : Int32).toInt = 60 * k.toInt + i.toInt + 3 * c + 2 := by rw [tI_add (by omega) (by omega), ekc, e2_]
              have x2 : ix (60 * k + i + 3 * nI c + 2) = 60 * ix k + (ix i + 3 * c + 2) := ix_of (by omega)
              have v2 : vp_in (60 * k + i + 3 * nI c + 2) 360 := vin (by omega) (by omega)
              refine r_bipush C (v := 60) dX10_straws_112 (by decide) ?_
              refine r_iload_n C dX10_straws_114 rfl ?_
              refine r_imul C dX10_straws_115 ?_
              refine r_iload_n C dX10_straws_116 rfl ?_
              refine r_iadd C dX10_straws_117 ?_
              refine r_iconst C (v := 3) dX10_straws_118 (by decide) ?_
              refine r_iload C dX10_straws_119 rfl ?_
              refine r_imul C dX10_straws_121 ?_
              refine r_iadd C dX10_straws_122 ?_
              refine r_istore C dX10_straws_123 rfl rfl ?_
              refine r_iload C dX10_straws_125 rfl ?_
              refine r_ifeq C (tgt := 165) dX10_straws_127 rfl (fun h127_9 => ?_) (fun h127_9 => ?_)
              · exact absurd (show (1 : Int32) = 0 by assumption) (by decide)
              · refine r_aload_n C dX10_straws_130 rfl ?_
                refine r_getR C flX10_82 dX10_straws_131 rfl rfl rfl ?_
                refine r_iload C dX10_straws_134 rfl ?_
                refine r_lald C rfl dX10_straws_136 v0 ?_
                rw [x0]
                refine r_aload_n C dX10_straws_137 rfl ?_
                refine r_getR C flX10_82 dX10_straws_138 rfl rfl rfl ?_
                refine r_iload C dX10_straws_141 rfl ?_
                refine r_iconst C (v := 1) dX10_straws_143 (by decide) ?_
                refine r_iadd C dX10_straws_144 ?_
                refine r_lald C rfl dX10_straws_145 v1 ?_
                rw [x1]
                refine r_aload_n C dX10_straws_146 rfl ?_
                refine r_getR C flX10_82 dX10_straws_147 rfl rfl rfl ?_
                refine r_iload C dX10_straws_150 rfl ?_
                refine r_iconst C (v := 2) dX10_straws_152 (by decide) ?_
                refine r_iadd C dX10_straws_153 ?_
                refine r_lald C rfl dX10_straws_154 v2 ?_
                rw [x2]
                refine cS C hx (sX10_isOne (d := d - 1) (by omega) (J 89 (60 * ix k + (ix i + 3 * c))) (J 89 (60 * ix k + (ix i + 3 * c + 1))) (J 89 (60 * ix k + (ix i + 3 * c + 2))) I0 J b) moX10_isOne mlX10_117 mtX10_isOne dX10_straws_155 rfl rfl (by omega) rfl rfl (kp ?_)
                refine z_ifeq C (tgt := 165) dX10_straws_158 rfl (fun h158_11 => ?_) (fun h158_11 => ?_)
                · refine r_iconst C (v := 0) dX10_straws_165 (by decide) ?_
                  refine r_istore C dX10_straws_166 rfl rfl ?_
                  refine r_iload C dX10_straws_168 rfl ?_
                  refine r_ifeq C (tgt := 208) dX10_straws_170 rfl (fun h170_12 => ?_) (fun h170_12 => ?_)
                  · refine r_goto C (tgt := 69) dX10_straws_208 rfl ?_
                    exact stp _ (fun z => absurd z.2 (by assumption))
                  · exact absurd rfl (show ¬ (0 : Int32) = 0 by assumption)
                · refine r_iconst C (v := 1) dX10_straws_161 (by decide) ?_
                  refine r_goto C (tgt := 166) dX10_straws_162 rfl ?_
                  refine r_istore C dX10_straws_166 rfl rfl ?_
                  refine r_iload C dX10_straws_168 rfl ?_
                  refine r_ifeq C (tgt := 208) dX10_straws_170 rfl (fun h170_13 => ?_) (fun h170_13 => ?_)
                  · exact absurd (show (1 : Int32) = 0 by assumption) (by decide)
                  · have hon : onP (J 89 (60 * ix k + (ix i + 3 * c))) (J 89 (60 * ix k + (ix i + 3 * c + 1))) (J 89 (60 * ix k + (ix i + 3 * c + 2))) := by assumption
                    obtain ⟨S, hS, hs6⟩ := s6_nI hs.1 hs.2 (fun e => by have := hA.2; rw [e] at this; exact absurd this (by decide))
                    refine r_aload_n C dX10_straws_173 rfl ?_
                    refine r_aload_n C dX10_straws_174 rfl ?_
                    refine r_getR C flX10_82 dX10_straws_175 rfl rfl rfl ?_
                    refine r_iload C dX10_straws_178 rfl ?_
                    refine r_lald C rfl dX10_straws_180 v0 ?_
                    rw [x0]
                    refine r_l2i C dX10_straws_181 ?_
                    refine r_aload_n C dX10_straws_182 rfl ?_
                    refine r_getR C flX10_82 dX10_straws_183 rfl rfl rfl ?_
                    refine r_iload C dX10_straws_186 rfl ?_
                    refine r_iconst C (v := 1) dX10_straws_188 (by decide) ?_
                    refine r_iadd C dX10_straws_189 ?_
                    refine r_lald C rfl dX10_straws_190 v1 ?_
                    rw [x1]
                    refine r_l2i C dX10_straws_191 ?_
                    refine r_aload_n C dX10_straws_192 rfl ?_
                    refine r_getR C flX10_82 dX10_straws_193 rfl rfl rfl ?_
                    refine r_iload C dX10_straws_196 rfl ?_
                    refine r_iconst C (v := 2) dX10_straws_198 (by decide) ?_
                    refine r_iadd C dX10_straws_199 ?_
                    refine r_lald C rfl dX10_straws_200 v2 ?_
                    rw [x2]
                    refine r_l2i C dX10_straws_201 ?_
                    refine cV (ci := 10) C hx (sX10_adds (d := d - 1) (by omega) _ _ _ I0 J b S hS hs6) moX10_adds mlX10_120 miX10_adds msX10_adds dX10_straws_202 rfl rfl rfl rfl rfl (by omega) rfl rfl (kv (fun I_202_14 q_202_14 => ?_))
                    have hq := q_202_14
                    refine r_iinc C (v := 1) dX10_straws_205 rfl (by decide) rfl ?_
                    refine r_goto C (tgt := 69) dX10_straws_208 rfl ?_
                    rw [nI_s]
                    refine ih (c + 1) _ _ hin h50 (by omega) hi0 (by rw [hq.1, tI_add (by rw [one_int]; omega) (by rw [one_int]; omega), one_int]; omega) (hF.tr hq.2.2 (by decide) (by decide) (by decide) (by decide)) (fun v I' h => hc v I' (Or.inl ⟨⟨hi0, hA⟩, hon, _, hq, h⟩))
  refine r_iload_n C dX10_straws_0 rfl ?_
  refine cS C hx (sX10_isShelf (d := d - 1) (by omega) _ I J b) moX10_isShelf mlX10_124 mtX10_isShelf dX10_straws_1 rfl rfl (by omega) rfl rfl (kp ?_)
  refine z_ifeq C (tgt := 19) dX10_straws_4 rfl (fun h4_2 => ?_) (fun h4_2 => ?_)
  · refine r_iconst C (v := -1) dX10_straws_19 (by decide) ?_
    exact ri C Z dX10_straws_20 (show (_ ∨ _ ∨ _ ∨ _) from Or.inl ⟨fun z => absurd z.1 (by assumption), rfl, rfl⟩)
  · refine r_iload_n C dX10_straws_7 rfl ?_
    refine r_i2l C dX10_straws_8 ?_
    refine r_lconst C (v := 1) dX10_straws_9 (by decide) ?_
    refine r_ldc2 C kkX10_115 dX10_straws_10 ?_
    refine cS C hx (sWi (d := d - 1) _ (lo := 1) (hi := 3) rfl rfl I J b) moX10_within mlX10_105 mtX10_within dX10_straws_13 rfl rfl (by omega) rfl rfl (kp ?_)
    refine z_ifne C (tgt := 21) dX10_straws_16 rfl (fun h16_4 => ?_) (fun h16_4 => ?_)
    · have hin : (inR k 5 ∧ 1 ≤ n.toInt ∧ n.toInt ≤ 3) := ⟨by assumption, by assumption⟩
      refine r_aload_n C dX10_straws_21 rfl ?_
      refine r_getR C flX10_76 dX10_straws_22 rfl rfl rfl ?_
      refine r_iload_n C dX10_straws_25 rfl ?_
      refine r_iald C rfl dX10_straws_26 (sh_ix hin.1) ?_
      refine b_iflt C (tgt := 44) dX10_straws_27 rfl (fun h27_5 => ?_) (fun h27_5 => ?_)
      · refine r_iconst C (v := 0) dX10_straws_44 (by decide) ?_
        refine r_istore C dX10_straws_45 rfl rfl ?_
        refine r_aload_n C dX10_straws_47 rfl ?_
        refine r_getR C flX10_76 dX10_straws_48 rfl rfl rfl ?_
        refine r_iload_n C dX10_straws_51 rfl ?_
        refine r_iald C rfl dX10_straws_52 (sh_ix hin.1) ?_
        refine r_bipush C (v := 50) dX10_straws_53 (by decide) ?_
        refine r_icne C (tgt := 66) dX10_straws_55 rfl (fun h55_6 => ?_) (fun h55_6 => ?_)
        · refine r_iconst C (v := 0) dX10_straws_66 (by decide) ?_
          refine r_istore C dX10_straws_67 rfl rfl ?_
          refine r_iload C dX10_straws_69 rfl ?_
          refine r_ifeq C (tgt := 211) dX10_straws_71 rfl (fun h71_1 => ?_) (fun h71_1 => ?_)
          · refine r_iload C dX10_straws_211 rfl ?_
            exact ri C Z dX10_straws_213 (show (_ ∨ _ ∨ _ ∨ _) from Or.inr (Or.inl ⟨hin, by assumption, rfl, rfl⟩))
          · exact absurd rfl (show ¬ (0 : Int32) = 0 by assumption)
        · exfalso; have hh : (I 87 (ix k)).toInt < 0 := (by assumption); rw [show I 87 (ix k) = 50 by assumption] at hh; exact absurd hh (by decide)
      · refine r_aload_n C dX10_straws_30 rfl ?_
        refine r_getR C flX10_76 dX10_straws_31 rfl rfl rfl ?_
        refine r_iload_n C dX10_straws_34 rfl ?_
        refine r_iald C rfl dX10_straws_35 (sh_ix hin.1) ?_
        refine r_bipush C (v := 50) dX10_straws_36 (by decide) ?_
        refine r_iceq C (tgt := 44) dX10_straws_38 rfl (fun h38_7 => ?_) (fun h38_7 => ?_)
        · refine r_iconst C (v := 0) dX10_straws_44 (by decide) ?_
          refine r_istore C dX10_straws_45 rfl rfl ?_
          refine r_aload_n C dX10_straws_47 rfl ?_
          refine r_getR C flX10_76 dX10_straws_48 rfl rfl rfl ?_
          refine r_iload_n C dX10_straws_51 rfl ?_
          refine r_iald C rfl dX10_straws_52 (sh_ix hin.1) ?_
          refine r_bipush C (v := 50) dX10_straws_53 (by decide) ?_
          refine r_icne C (tgt := 66) dX10_straws_55 rfl (fun h55_8 => ?_) (fun h55_8 => ?_)
          · exact absurd (show I 87 (ix k) = 50 by assumption) (by assumption)
          · refine r_iload_n C dX10_straws_58 rfl ?_
            refine b_iflt C (tgt := 66) dX10_straws_59 rfl (fun h59_9 => ?_) (fun h59_9 => ?_)
            · refine r_iconst C (v := 0) dX10_straws_66 (by decide) ?_
              refine r_istore C dX10_straws_67 rfl rfl ?_
              have hneg : i.toInt < 0 → srM J k i (I 88 (ix k)) n.toInt.toNat 0 I 0 I := fun h => by
                obtain ⟨q, hq⟩ : ∃ q, n.toInt.toNat = q + 1 := ⟨n.toInt.toNat - 1, by have := hin.2; omega⟩
                rw [hq]
                exact Or.inr ⟨fun z => by have := z.1.1; omega, rfl, rfl⟩
              refine r_iload C dX10_straws_69 rfl ?_
              refine r_ifeq C (tgt := 211) dX10_straws_71 rfl (fun h71_1 => ?_) (fun h71_1 => ?_)
              · refine r_iload C dX10_straws_211 rfl ?_
                exact ri C Z dX10_straws_213 (show (_ ∨ _ ∨ _ ∨ _) from Or.inr (Or.inr (Or.inr ⟨hin, by assumption, hneg (by assumption)⟩)))
              · exact absurd rfl (show ¬ (0 : Int32) = 0 by assumption)
            · refine r_iconst C (v := 1) dX10_straws_62 (by decide) ?_
              refine r_goto C (tgt := 67) dX10_straws_63 rfl ?_
              refine r_istore C dX10_straws_67 rfl rfl ?_
              exact loop n.toInt.toNat 0 I _ hin (by assumption) rfl (by assumption) ⟨hs0, hs3⟩ FrM.rf (fun v I' h => h)
        · refine r_bipush C (v := -12) dX10_straws_41 (by decide) ?_
          exact ri C Z dX10_straws_43 (show (_ ∨ _ ∨ _ ∨ _) from Or.inr (Or.inr (Or.inl ⟨hin, by assumption, by assumption, rfl, rfl⟩)))
    · refine r_iconst C (v := -1) dX10_straws_19 (by decide) ?_
      exact ri C Z dX10_straws_20 (show (_ ∨ _ ∨ _ ∨ _) from Or.inl ⟨fun z => absurd z.2 (by assumption), rfl, rfl⟩)
