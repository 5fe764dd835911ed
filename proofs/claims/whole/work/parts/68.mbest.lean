theorem u2_65 (I : Is) (p : Nat) (v : Int32) : (u2 I 65 p v) 65 = fun k => if k = p then v else I 65 k := by
  funext k
  unfold u2
  rw [if_pos rfl]
/-- n seconds in thought with one number told otherwise -/
def gaM (I : Is) (p : Nat) (v : Int32) (n : Nat) : GV := goF (enM (u2 I 65 p v)) (bit 7) (bit 0) (bit 0) n (bgF (gvT I))
/-- the best of the first n and what it brings -/
def brM (val : Nat → Int32) : Nat → Nat × Int32
  | 0 => (0, -1)
  | n + 1 => if (brM val n).2.toInt < (val n).toInt then (n, val n) else brM val n
theorem NM_65 {I : Is} (hN : NM I) {j w : Nat} {v : Int32} (hj : (j : Int) < (I 64 6).toInt) (hw : rgW w v) : NM (u2 I 65 (8 * j + w) v) := by
  refine ⟨?_, hN.2⟩
  rw [u2_65]
  exact NW_upd hN.1 hj hw
theorem fr_65 {I I' : Is} {p : Nat} (x : Int32) (h : FrM (65 :: RTM) FTM I I') (hk : ∀ k, k ≠ p → I' 65 k = I 65 k) : FrM RTM FTM (u2 I 65 p x) (u2 I' 65 p x) := by
  refine ⟨fun c hc hl => ?_, fun k hk2 => h.2 k hk2⟩
  by_cases e : c = 65
  · subst e
    rw [u2_65, u2_65]
    funext k
    by_cases e2 : k = p
    · rw [if_pos e2, if_pos e2]
    · rw [if_neg e2, if_neg e2, hk k e2]
  · rw [u2_row e, u2_row e]
    exact h.1 c hc (fun z => by rcases List.mem_cons.mp z with y | y; exact e y; exact hl y)
theorem fr_65b {I I2 : Is} {p : Nat} {x : Int32} (h : FrM RTM FTM (u2 I 65 p x) I2) : FrM (65 :: RTM) FTM I I2 ∧ ∀ k, k ≠ p → I2 65 k = I 65 k := by
  refine ⟨⟨fun c hc hl => ?_, fun k hk => h.2 k hk⟩, fun k hk => ?_⟩
  · rw [h.1 c hc (fun z => hl (List.mem_cons_of_mem _ z))]
    exact u2_row (fun e => hl (by rw [e]; exact List.mem_cons_self))
  · rw [h.1 65 (by decide) (by decide)]
    exact u2_ne _ _ _ _ (Or.inr hk)
theorem fr_65c {I I2 : Is} {p : Nat} (h : FrM (65 :: RTM) FTM I I2) (hk : ∀ k, k ≠ p → I2 65 k = I 65 k) : FrM RTM FTM I (u2 I2 65 p (I 65 p)) := by
  refine ⟨fun c hc hl => ?_, fun k hk2 => h.2 k hk2⟩
  by_cases e : c = 65
  · subst e
    rw [u2_65]
    funext k
    by_cases e2 : k = p
    · rw [if_pos e2, e2]
    · rw [if_neg e2]; exact hk k e2
  · rw [u2_row e]
    exact h.1 c hc (fun z => by rcases List.mem_cons.mp z with y | y; exact e y; exact hl y)
set_option maxRecDepth 100000 in
set_option maxHeartbeats 400000 in
theorem sX10_othersGet {g : Gb} {d : Nat} (hd : 84 ≤ d) (j : Nat) (h n : Int32) (I I1 : Is) (J : Js) (b : Bool) (hN : NM I) (hv : VOk (gvT I)) (hj : (j : Int) < (I 64 6).toInt) (hh : -1 ≤ h.toInt ∧ h.toInt ≤ 999) (hn0 : 0 ≤ n.toInt) (hF : FrM RTM FTM I I1) : MC9 g d mX10_othersGet [.ref 64, .int (nI j), .int h, .int n] I1 J b (Qi J b (fun v I' => v = otF (gaM I (8 * j + 6) h (ix n)).2.2.2.2.1 j (I 64 6).toInt.toNat ∧ FrM RTM FTM I I')) := by
  have hs3 := hN.1.2.1
  obtain ⟨s, hs⟩ : ∃ s : Nat, (I 64 6).toInt = (s : Int) := ⟨(I 64 6).toInt.toNat, by have := hN.1.1; omega⟩
  have hsn : (I 64 6).toInt.toNat = s := by omega
  rw [hsn]
  have ij : (nI j).toInt = (j : Int) := nIint (by omega)
  obtain ⟨hpx, hpv⟩ := mpl j 6 (by omega) (by decide)
  have hpx : ix (8 * nI j + 6) = 8 * j + 6 := hpx
  have hpv : vp_in (8 * nI j + 6) 28 := hpv
  have hNv : NM (u2 I 65 (8 * j + 6) h) := NM_65 hN hj (Or.inr (Or.inr (Or.inl ⟨rfl, hh⟩)))
  have hgt : gvT (u2 I 65 (8 * j + 6) h) = gvT I := rfl
  have hvb : VOk (bgF (gvT (u2 I 65 (8 * j + 6) h))) := hv
  have h65 : I1 65 = I 65 := hF.1 65 (by decide) (by decide)
  have hF0 : FrM RTM FTM (u2 I 65 (8 * j + 6) h) (u2 I1 65 (8 * j + 6) h) := fr_65 h (hF.mo (by decide) (by decide)) (fun k _ => congrFun h65 k)
  refine ent9 (own := RX10) rfl rfl rfl (fun X hg hx C Z => ?_)
  subst hg
  have loop : ∀ (m k : Nat) (I' : Is) (a4 a5 : Int32), m + k = s → FrM RTM FTM I I' → (∀ i, i < 3 → I' 74 i = (gaM I (8 * j + 6) h (ix n)).2.2.2.2.1 i) → Aw X 50 [some (.ref 64), some (.int (nI j)), some (.int h), some (.int n), some (.int a4), some (.int a5), some (.int (otF (gaM I (8 * j + 6) h (ix n)).2.2.2.2.1 j k)), some (.int (nI k))] [] (st9 I' J b) := by
    intro m
    induction m with
    | zero =>
      intro k I' a4 a5 hm hF' hg
      have ink : (nI k).toInt = (k : Int) := nIint (by omega)
      have e6 : (I' 64 6).toInt = (s : Int) := by rw [hF'.2 6 (by decide)]; exact hs
      refine r_iload C dX10_othersGet_50 rfl ?_
      refine r_aload_n C dX10_othersGet_52 rfl ?_
      refine r_getI C flX10_102 dX10_othersGet_53 rfl rfl ?_
      refine b_icge C (tgt := 87) rfl rfl dX10_othersGet_56 rfl (fun h56_1 => ?_) (fun h56_1 => ?_)
      · refine r_iload C dX10_othersGet_87 rfl ?_
        exact ri C Z dX10_othersGet_89 ⟨by rw [show k = s by omega], hF'⟩
      · exfalso; omega
    | succ m ih =>
      intro k I' a4 a5 hm hF' hg
      have ink : (nI k).toInt = (k : Int) := nIint (by omega)
      have kx : ix (nI k) = k := nIix (by omega)
      have e6 : (I' 64 6).toInt = (s : Int) := by rw [hF'.2 6 (by decide)]; exact hs
      have hst : otF (gaM I (8 * j + 6) h (ix n)).2.2.2.2.1 j (k + 1) = if k = j then otF (gaM I (8 * j + 6) h (ix n)).2.2.2.2.1 j k else otF (gaM I (8 * j + 6) h (ix n)).2.2.2.2.1 j k + (gaM I (8 * j + 6) h (ix n)).2.2.2.2.1 k := rfl
      refine r_iload C dX10_othersGet_50 rfl ?_
      refine r_aload_n C dX10_othersGet_52 rfl ?_
      refine r_getI C flX10_102 dX10_othersGet_53 rfl rfl ?_
      refine b_icge C (tgt := 87) rfl rfl dX10_othersGet_56 rfl (fun h56_1 => ?_) (fun h56_1 => ?_)
      · exfalso; omega
      · refine r_iload C dX10_othersGet_59 rfl ?_
        refine r_iload C dX10_othersGet_61 rfl ?_
        refine r_iload_n C dX10_othersGet_63 rfl ?_
        refine r_icne C (tgt := 71) dX10_othersGet_64 rfl (fun h64_2 => ?_) (fun h64_2 => ?_)
        · refine r_aload_n C dX10_othersGet_71 rfl ?_
          refine r_getR C flX10_37 dX10_othersGet_72 rfl rfl rfl ?_
          refine r_iload C dX10_othersGet_75 rfl ?_
          refine r_iald C rfl dX10_othersGet_77 (vin (by omega) (show (nI k).toInt < 3 by omega)) ?_
          refine r_iadd C dX10_othersGet_78 ?_
          refine r_istore C dX10_othersGet_79 rfl rfl ?_
          refine r_iinc C (v := 1) dX10_othersGet_81 rfl (by decide) rfl ?_
          refine r_goto C (tgt := 50) dX10_othersGet_84 rfl ?_
          have e : ¬ k = j := fun z => absurd (congrArg nI z) (by assumption)
          rw [nI_s, kx, hg k (by omega)]
          have h2 := ih (k + 1) I' a4 a5 (by omega) hF' hg
          rw [hst, if_neg e] at h2
          exact h2
        · refine r_iconst C (v := 0) dX10_othersGet_67 (by decide) ?_
          refine r_goto C (tgt := 78) dX10_othersGet_68 rfl ?_
          refine r_iadd C dX10_othersGet_78 ?_
          refine r_istore C dX10_othersGet_79 rfl rfl ?_
          refine r_iinc C (v := 1) dX10_othersGet_81 rfl (by decide) rfl ?_
          refine r_goto C (tgt := 50) dX10_othersGet_84 rfl ?_
          have e : k = j := by have := congrArg Int32.toInt (show nI k = nI j by assumption); omega
          rw [nI_s, Int32.add_zero]
          have h2 := ih (k + 1) I' a4 a5 (by omega) hF' hg
          rw [hst, if_pos e] at h2
          exact h2
  refine r_bipush C (v := 8) dX10_othersGet_0 (by decide) ?_
  refine r_iload_n C dX10_othersGet_2 rfl ?_
  refine r_imul C dX10_othersGet_3 ?_
  refine r_bipush C (v := 6) dX10_othersGet_4 (by decide) ?_
  refine r_iadd C dX10_othersGet_6 ?_
  refine r_istore C dX10_othersGet_7 rfl rfl ?_
  refine r_aload_n C dX10_othersGet_9 rfl ?_
  refine r_getR C flX10_9 dX10_othersGet_10 rfl rfl rfl ?_
  refine r_iload C dX10_othersGet_13 rfl ?_
  refine r_iald C rfl dX10_othersGet_15 hpv ?_
  rw [hpx, h65]
  refine r_istore C dX10_othersGet_16 rfl rfl ?_
  refine r_aload_n C dX10_othersGet_18 rfl ?_
  refine r_getR C flX10_9 dX10_othersGet_19 rfl rfl rfl ?_
  refine r_iload C dX10_othersGet_22 rfl ?_
  refine r_iload_n C dX10_othersGet_24 rfl ?_
  refine r_iast C rfl dX10_othersGet_25 hpv ?_
  rw [hpx]
  refine r_aload_n C dX10_othersGet_26 rfl ?_
  refine cV (ci := 10) C hx (sX10_begins1 (d := d - 1) (by omega) _ J b) moX10_begins1 mlX10_258 miX10_begins1 msX10_begins1 dX10_othersGet_27 rfl rfl rfl rfl rfl (by omega) rfl rfl (kv (fun I_27_1 q_27_1 => ?_))
  have hT := th_bg (I := (u2 I 65 (8 * j + 6) h)) hNv hF0 q_27_1
  refine r_aload_n C dX10_othersGet_30 rfl ?_
  refine r_iload_n C dX10_othersGet_31 rfl ?_
  refine cV (ci := 10) C hx (sX10_goes (d := d - 1) (by omega) (ix n) n (ix_of0 hn0) (u2 I 65 (8 * j + 6) h) _ J b hNv (hvb) hT) moX10_goes mlX10_261 miX10_goes msX10_goes dX10_othersGet_32 rfl rfl rfl rfl rfl (by omega) rfl rfl (kv (fun I_32_2 q_32_2 => ?_))
  have hT2 := q_32_2
  refine r_aload_n C dX10_othersGet_35 rfl ?_
  refine r_getR C flX10_9 dX10_othersGet_36 rfl rfl rfl ?_
  refine r_iload C dX10_othersGet_39 rfl ?_
  refine r_iload C dX10_othersGet_41 rfl ?_
  refine r_iast C rfl dX10_othersGet_43 hpv ?_
  rw [hpx]
  obtain ⟨hFc, hkc⟩ := fr_65b hT2.1
  refine r_iconst C (v := 0) dX10_othersGet_44 (by decide) ?_
  refine r_istore C dX10_othersGet_45 rfl rfl ?_
  refine r_iconst C (v := 0) dX10_othersGet_47 (by decide) ?_
  refine r_istore C dX10_othersGet_48 rfl rfl ?_
  exact loop s 0 _ _ _ rfl (fr_65c hFc hkc) (fun i hi => (congrFun (u2_row (t := 65) (t' := 74) (by decide)) i).trans (hT2.2.1.2.2.2.2.1 i hi))
set_option maxRecDepth 100000 in
set_option maxHeartbeats 400000 in
theorem sX10_holeFor {g : Gb} {d : Nat} (hd : 85 ≤ d) (k h n : Int32) (I : Is) (J : Js) (b : Bool) (hN : NM I) (hv : VOk (gvT I)) : MC9 g d mX10_holeFor [.ref 64, .int k, .int h, .int n] I J b (Qi J b (fun v I' => (¬ (inM I k ∧ inR h 999 ∧ inR n 60) ∧ v = -2000000000 ∧ I' = I) ∨ ((inM I k ∧ inR h 999 ∧ inR n 60) ∧ v = otF (gaM I (8 * ix k + 6) h (ix n)).2.2.2.2.1 (ix k) (I 64 6).toInt.toNat - otF (gaM I (8 * ix k + 6) (-1) (ix n)).2.2.2.2.1 (ix k) (I 64 6).toInt.toNat ∧ FrM RTM FTM I I'))) := by
  have hs0 := hN.1.1
  have hs3 := hN.1.2.1
  refine ent9 (own := RX10) rfl rfl rfl (fun X hg hx C Z => ?_)
  subst hg
  refine r_aload_n C dX10_holeFor_0 rfl ?_
  refine r_iload_n C dX10_holeFor_1 rfl ?_
  refine cV (ci := 10) C hx (sX10_isStraw (d := d - 1) (by omega) _ I J b hs0 hs3) moX10_isStraw mlX10_130 miX10_isStraw msX10_isStraw dX10_holeFor_2 rfl rfl rfl rfl rfl (by omega) rfl rfl (kp ?_)
  refine z_ifeq C (tgt := 45) dX10_holeFor_5 rfl (fun h5_2 => ?_) (fun h5_2 => ?_)
  · refine r_ldc C kkX10_156 dX10_holeFor_45 ?_
    exact ri C Z dX10_holeFor_47 (Or.inl ⟨fun z => absurd z.1 (by assumption), rfl, rfl⟩)
  · refine r_iload_n C dX10_holeFor_8 rfl ?_
    refine r_i2l C dX10_holeFor_9 ?_
    refine r_lconst C (v := 0) dX10_holeFor_10 (by decide) ?_
    refine r_ldc2 C kkX10_113 dX10_holeFor_11 ?_
    refine cS C hx (sWi (d := d - 1) _ (lo := 0) (hi := 999) rfl rfl I J b) moX10_within mlX10_105 mtX10_within dX10_holeFor_14 rfl rfl (by omega) rfl rfl (kp ?_)
    refine z_ifeq C (tgt := 45) dX10_holeFor_17 rfl (fun h17_4 => ?_) (fun h17_4 => ?_)
    · refine r_ldc C kkX10_156 dX10_holeFor_45 ?_
      exact ri C Z dX10_holeFor_47 (Or.inl ⟨fun z => absurd z.2.1 (by assumption), rfl, rfl⟩)
    · refine r_iload_n C dX10_holeFor_20 rfl ?_
      refine cS C hx (sX10_isSoon (d := d - 1) (by omega) _ I J b) moX10_isSoon mlX10_278 mtX10_isSoon dX10_holeFor_21 rfl rfl (by omega) rfl rfl (kp ?_)
      refine z_ifeq C (tgt := 45) dX10_holeFor_24 rfl (fun h24_6 => ?_) (fun h24_6 => ?_)
      · refine r_ldc C kkX10_156 dX10_holeFor_45 ?_
        exact ri C Z dX10_holeFor_47 (Or.inl ⟨fun z => absurd z.2.2 (by assumption), rfl, rfl⟩)
      · have hin : (inM I k ∧ inR h 999 ∧ inR n 60) := ⟨by assumption, by assumption, by assumption⟩
        obtain ⟨j, hj, rfl⟩ := nI_get hin.1.1 hin.1.2 (by omega)
        have hjx : ix (nI j) = j := nIix (by omega)
        rw [hjx] at Z
        refine r_aload_n C dX10_holeFor_27 rfl ?_
        refine r_iload_n C dX10_holeFor_28 rfl ?_
        refine r_iload_n C dX10_holeFor_29 rfl ?_
        refine r_iload_n C dX10_holeFor_30 rfl ?_
        refine cV (ci := 10) C hx (sX10_othersGet (d := d - 1) (by omega) j h n I I J b hN hv hj ⟨by omega, hin.2.1.2⟩ hin.2.2.1 FrM.rf) moX10_othersGet mlX10_288 miX10_othersGet msX10_othersGet dX10_holeFor_31 rfl rfl rfl rfl rfl (by omega) rfl rfl (ki (fun v_31_7 I_31_7 q_31_7 => ?_))
        obtain ⟨rfl, hF1⟩ := q_31_7
        refine r_aload_n C dX10_holeFor_34 rfl ?_
        refine r_iload_n C dX10_holeFor_35 rfl ?_
        refine r_iconst C (v := -1) dX10_holeFor_36 (by decide) ?_
        refine r_iload_n C dX10_holeFor_37 rfl ?_
        refine cV (ci := 10) C hx (sX10_othersGet (d := d - 1) (by omega) j (-1) n I _ J b hN hv hj (by decide : -1 ≤ (-1 : Int32).toInt ∧ (-1 : Int32).toInt ≤ 999) hin.2.2.1 hF1) moX10_othersGet mlX10_288 miX10_othersGet msX10_othersGet dX10_holeFor_38 rfl rfl rfl rfl rfl (by omega) rfl rfl (ki (fun v_38_8 I_38_8 q_38_8 => ?_))
        obtain ⟨rfl, hF2⟩ := q_38_8
        refine r_isub C dX10_holeFor_41 ?_
        refine r_goto C (tgt := 47) dX10_holeFor_42 rfl ?_
        exact ri C Z dX10_holeFor_47 (Or.inr ⟨hin, rfl, hF2⟩)
set_option maxRecDepth 100000 in
set_option maxHeartbeats 400000 in
theorem sX10_reachFor {g : Gb} {d : Nat} (hd : 85 ≤ d) (k n w : Int32) (I : Is) (J : Js) (b : Bool) (hN : NM I) (hv : VOk (gvT I)) : MC9 g d mX10_reachFor [.ref 64, .int k, .int n, .int w] I J b (Qi J b (fun v I' => (¬ (inM I k ∧ inR n 60 ∧ inR w 3) ∧ v = -1 ∧ I' = I) ∨ ((inM I k ∧ inR n 60 ∧ inR w 3) ∧ v = (if w - w / 2 * 2 = 0 then nI (brM (fun x => gsF (if 2 ≤ w.toInt then 1 else 0) (gaM I (8 * ix k + 2) (nI x) (ix n)) (ix k)) 1000).1 else (brM (fun x => gsF (if 2 ≤ w.toInt then 1 else 0) (gaM I (8 * ix k + 2) (nI x) (ix n)) (ix k)) 1000).2) ∧ FrM RTM FTM I I'))) := by
  have hs0 := hN.1.1
  have hs3 := hN.1.2.1
  refine ent9 (own := RX10) rfl rfl rfl (fun X hg hx C Z => ?_)
  subst hg
  have loop : ∀ (j : Nat) (val : Nat → Int32) (N m i : Nat) (I' : Is) (x9 : Option Value), (j : Int) < (I 64 6).toInt → k = nI j → (inM I (nI j) ∧ inR n 60 ∧ inR w 3) → val = (fun x => gsF (if 2 ≤ w.toInt then 1 else 0) (gaM I (8 * j + 2) (nI x) (ix n)) j) → N = 1000 → m + i = N → FrM (65 :: RTM) FTM I I' → (∀ k, k ≠ (8 * j + 2) → I' 65 k = I 65 k) → Aw X 55 [some (.ref 64), some (.int (nI j)), some (.int n), some (.int w), some (.int (8 * nI j + 2)), some (.int (I 65 (8 * j + 2))), some (.int (nI (brM val i).1)), some (.int (brM val i).2), some (.int (nI i)), x9] [] (st9 I' J b) := by
    intro j val N m
    induction m with
    | zero =>
      intro i I' x9 hj hkj hin hval hNN hm hF hk
      have ini : (nI i).toInt = (i : Int) := nIint (by omega)
      have hjx : ix (nI j) = j := nIix (by omega)
      obtain ⟨hpx, hpv⟩ := mpl j 2 (by omega) (by decide)
      have hpx : ix (8 * nI j + 2) = (8 * j + 2) := hpx
      have hpv : vp_in (8 * nI j + 2) 28 := hpv
      have hiN : i = N := by omega
      have hkx : ix k = j := by rw [hkj]; exact hjx
      have hin0 : (inM I k ∧ inR n 60 ∧ inR w 3) := by rw [hkj]; exact hin
      have hz0 : (fun x => gsF (if 2 ≤ w.toInt then 1 else 0) (gaM I (8 * ix k + 2) (nI x) (ix n)) (ix k)) = val := by rw [hkx, hval]
      refine r_iload C dX10_reachFor_55 rfl ?_
      refine r_sipush C (v := 999) dX10_reachFor_57 (by decide) ?_
      refine b_icgt C (tgt := 137) (my := 999) rfl rfl dX10_reachFor_60 rfl (fun h60_1 => ?_) (fun h60_1 => ?_)
      · refine r_aload_n C dX10_reachFor_137 rfl ?_
        refine r_getR C flX10_9 dX10_reachFor_138 rfl rfl rfl ?_
        refine r_iload C dX10_reachFor_141 rfl ?_
        refine r_iload C dX10_reachFor_143 rfl ?_
        refine r_iast C rfl dX10_reachFor_145 hpv ?_
        rw [hpx]
        refine r_iload_n C dX10_reachFor_146 rfl ?_
        refine r_iconst C (v := 2) dX10_reachFor_147 (by decide) ?_
        refine r_irem C dX10_reachFor_148 (by decide) ?_
        refine r_ifne C (tgt := 157) dX10_reachFor_149 rfl (fun h149_2 => ?_) (fun h149_2 => ?_)
        · refine r_iload C dX10_reachFor_157 rfl ?_
          exact ri C Z dX10_reachFor_159 (show (_ ∨ _) from Or.inr ⟨hin0, by rw [hz0, hiN, hNN]; exact (if_neg (by assumption)).symm, fr_65c hF hk⟩)
        · refine r_iload C dX10_reachFor_152 rfl ?_
          refine r_goto C (tgt := 159) dX10_reachFor_154 rfl ?_
          exact ri C Z dX10_reachFor_159 (show (_ ∨ _) from Or.inr ⟨hin0, by rw [hz0, hiN, hNN]; exact (if_pos (by assumption)).symm, fr_65c hF hk⟩)
      · exfalso; omega
    | succ m ih =>
      intro i I' x9 hj hkj hin hval hNN hm hF hk
      have ini : (nI i).toInt = (i : Int) := nIint (by omega)
      have hjx : ix (nI j) = j := nIix (by omega)
      obtain ⟨hpx, hpv⟩ := mpl j 2 (by omega) (by decide)
      have hpx : ix (8 * nI j + 2) = (8 * j + 2) := hpx
      have hpv : vp_in (8 * nI j + 2) 28 := hpv
      have hNv : NM (u2 I 65 (8 * j + 2) (nI i)) := NM_65 hN hj (Or.inr (Or.inl ⟨rfl, by omega, by omega⟩))
      have hFv := fr_65 (nI i) hF hk
      have hvl : val i = gsF (if 2 ≤ w.toInt then 1 else 0) (gaM I (8 * j + 2) (nI i) (ix n)) j := by rw [hval]
      have hbr : brM val (i + 1) = if (brM val i).2.toInt < (val i).toInt then (i, val i) else brM val i := rfl
      refine r_iload C dX10_reachFor_55 rfl ?_
      refine r_sipush C (v := 999) dX10_reachFor_57 (by decide) ?_
      refine b_icgt C (tgt := 137) (my := 999) rfl rfl dX10_reachFor_60 rfl (fun h60_1 => ?_) (fun h60_1 => ?_)
      · exfalso; omega
      · refine r_aload_n C dX10_reachFor_63 rfl ?_
        refine r_getR C flX10_9 dX10_reachFor_64 rfl rfl rfl ?_
        refine r_iload C dX10_reachFor_67 rfl ?_
        refine r_iload C dX10_reachFor_69 rfl ?_
        refine r_iast C rfl dX10_reachFor_71 hpv ?_
        rw [hpx]
        refine r_aload_n C dX10_reachFor_72 rfl ?_
        refine r_iload_n C dX10_reachFor_73 rfl ?_
        refine r_iload_n C dX10_reachFor_74 rfl ?_
        refine cV (ci := 10) C hx (sX10_gets (d := d - 1) (by omega) j (by omega) n hin.2.1.1 (u2 I 65 (8 * j + 2) (nI i)) (u2 I' 65 (8 * j + 2) (nI i)) J b hNv hv hFv) moX10_gets mlX10_281 miX10_gets msX10_gets dX10_reachFor_75 rfl rfl rfl rfl rfl (by omega) rfl rfl (ki (fun v_75_2 I_75_2 q_75_2 => ?_))
        obtain ⟨hg1, hg2, hFg⟩ := q_75_2
        obtain ⟨I2, hI2⟩ : ∃ z, z = I_75_2 := ⟨_, rfl⟩
        rw [← hI2] at hFg ⊢
        obtain ⟨hF2, hk2⟩ := fr_65b hFg
        have r65 : I2 65 = (u2 I 65 (8 * j + 2) (nI i)) 65 := hFg.1 65 (by decide) (by decide)
        have hg3 : v_75_2 = (gaM I (8 * j + 2) (nI i) (ix n)).2.2.2.2.1 j := hg1
        have hg4 : v_75_2 * swF ((u2 I 65 (8 * j + 2) (nI i)) 65) j = (gaM I (8 * j + 2) (nI i) (ix n)).2.2.2.2.2.1 j := hg2
        obtain ⟨gv_, hgv⟩ : ∃ z, z = v_75_2 := ⟨_, rfl⟩
        rw [← hgv] at hg3 hg4 ⊢
        refine r_istore C dX10_reachFor_78 rfl rfl ?_
        refine r_iload_n C dX10_reachFor_80 rfl ?_
        refine r_iconst C (v := 2) dX10_reachFor_81 (by decide) ?_
        refine b_icge C (tgt := 90) (my := 2) rfl rfl dX10_reachFor_82 rfl (fun h82_3 => ?_) (fun h82_3 => ?_)
        · refine r_aload_n C dX10_reachFor_90 rfl ?_
          refine r_iload_n C dX10_reachFor_91 rfl ?_
          refine r_iload C dX10_reachFor_92 rfl ?_
          refine cV (ci := 10) C hx (sX10_sweetOf (d := d - 1) (by omega) j (by omega) gv_ I2 J b) moX10_sweetOf mlX10_265 miX10_sweetOf msX10_sweetOf dX10_reachFor_94 rfl rfl rfl rfl rfl (by omega) rfl rfl (kp ?_)
          rw [r65, show gv_ * swF ((u2 I 65 (8 * j + 2) (nI i)) 65) j = val i from by rw [hvl]; unfold gsF; rw [if_neg (by rw [if_pos (show 2 ≤ w.toInt by omega)]; decide)]; exact hg4]
          refine r_istore C dX10_reachFor_97 rfl rfl ?_
          refine r_iload C dX10_reachFor_99 rfl ?_
          refine r_iload C dX10_reachFor_101 rfl ?_
          refine b_icle C (tgt := 111) rfl rfl dX10_reachFor_103 rfl (fun h103_5 => ?_) (fun h103_5 => ?_)
          · refine r_iload C dX10_reachFor_111 rfl ?_
            refine r_istore C dX10_reachFor_113 rfl rfl ?_
            refine r_iload C dX10_reachFor_115 rfl ?_
            refine r_iload C dX10_reachFor_117 rfl ?_
            refine b_icle C (tgt := 127) rfl rfl dX10_reachFor_119 rfl (fun h119_6 => ?_) (fun h119_6 => ?_)
            · refine r_iload C dX10_reachFor_127 rfl ?_
              refine r_istore C dX10_reachFor_129 rfl rfl ?_
              refine r_iinc C (v := 1) dX10_reachFor_131 rfl (by decide) rfl ?_
              refine r_goto C (tgt := 55) dX10_reachFor_134 rfl ?_
              rw [nI_s]
              have h2 := ih (i + 1) I2 (some (.int (val i))) hj hkj hin hval hNN (by omega) hF2 hk2
              rw [hbr, if_neg (by omega)] at h2
              exact h2
            · refine r_iload C dX10_reachFor_122 rfl ?_
              refine r_goto C (tgt := 129) dX10_reachFor_124 rfl ?_
              refine r_istore C dX10_reachFor_129 rfl rfl ?_
              refine r_iinc C (v := 1) dX10_reachFor_131 rfl (by decide) rfl ?_
              refine r_goto C (tgt := 55) dX10_reachFor_134 rfl ?_
              exfalso; omega
          · refine r_iload C dX10_reachFor_106 rfl ?_
            refine r_goto C (tgt := 113) dX10_reachFor_108 rfl ?_
            refine r_istore C dX10_reachFor_113 rfl rfl ?_
            refine r_iload C dX10_reachFor_115 rfl ?_
            refine r_iload C dX10_reachFor_117 rfl ?_
            refine b_icle C (tgt := 127) rfl rfl dX10_reachFor_119 rfl (fun h119_7 => ?_) (fun h119_7 => ?_)
            · refine r_iload C dX10_reachFor_127 rfl ?_
              refine r_istore C dX10_reachFor_129 rfl rfl ?_
              refine r_iinc C (v := 1) dX10_reachFor_131 rfl (by decide) rfl ?_
              refine r_goto C (tgt := 55) dX10_reachFor_134 rfl ?_
              exfalso; omega
            · refine r_iload C dX10_reachFor_122 rfl ?_
              refine r_goto C (tgt := 129) dX10_reachFor_124 rfl ?_
              refine r_istore C dX10_reachFor_129 rfl rfl ?_
              refine r_iinc C (v := 1) dX10_reachFor_131 rfl (by decide) rfl ?_
              refine r_goto C (tgt := 55) dX10_reachFor_134 rfl ?_
              rw [nI_s]
              have h2 := ih (i + 1) I2 (some (.int (val i))) hj hkj hin hval hNN (by omega) hF2 hk2
              rw [hbr, if_pos (by assumption)] at h2
              exact h2
        · refine r_iload C dX10_reachFor_85 rfl ?_
          refine r_goto C (tgt := 97) dX10_reachFor_87 rfl ?_
          rw [show gv_ = val i from by rw [hvl]; unfold gsF; rw [if_pos (if_neg (by omega))]; exact hg3]
          refine r_istore C dX10_reachFor_97 rfl rfl ?_
          refine r_iload C dX10_reachFor_99 rfl ?_
          refine r_iload C dX10_reachFor_101 rfl ?_
          refine b_icle C (tgt := 111) rfl rfl dX10_reachFor_103 rfl (fun h103_8 => ?_) (fun h103_8 => ?_)
          · refine r_iload C dX10_reachFor_111 rfl ?_
            refine r_istore C dX10_reachFor_113 rfl rfl ?_
            refine r_iload C dX10_reachFor_115 rfl ?_
            refine r_iload C dX10_reachFor_117 rfl ?_
            refine b_icle C (tgt := 127) rfl rfl dX10_reachFor_119 rfl (fun h119_9 => ?_) (fun h119_9 => ?_)
            · refine r_iload C dX10_reachFor_127 rfl ?_
              refine r_istore C dX10_reachFor_129 rfl rfl ?_
              refine r_iinc C (v := 1) dX10_reachFor_131 rfl (by decide) rfl ?_
              refine r_goto C (tgt := 55) dX10_reachFor_134 rfl ?_
              rw [nI_s]
              have h2 := ih (i + 1) I2 (some (.int (val i))) hj hkj hin hval hNN (by omega) hF2 hk2
              rw [hbr, if_neg (by omega)] at h2
              exact h2
            · refine r_iload C dX10_reachFor_122 rfl ?_
              refine r_goto C (tgt := 129) dX10_reachFor_124 rfl ?_
              refine r_istore C dX10_reachFor_129 rfl rfl ?_
              refine r_iinc C (v := 1) dX10_reachFor_131 rfl (by decide) rfl ?_
              refine r_goto C (tgt := 55) dX10_reachFor_134 rfl ?_
              exfalso; omega
          · refine r_iload C dX10_reachFor_106 rfl ?_
            refine r_goto C (tgt := 113) dX10_reachFor_108 rfl ?_
            refine r_istore C dX10_reachFor_113 rfl rfl ?_
            refine r_iload C dX10_reachFor_115 rfl ?_
            refine r_iload C dX10_reachFor_117 rfl ?_
            refine b_icle C (tgt := 127) rfl rfl dX10_reachFor_119 rfl (fun h119_10 => ?_) (fun h119_10 => ?_)
            · refine r_iload C dX10_reachFor_127 rfl ?_
              refine r_istore C dX10_reachFor_129 rfl rfl ?_
              refine r_iinc C (v := 1) dX10_reachFor_131 rfl (by decide) rfl ?_
              refine r_goto C (tgt := 55) dX10_reachFor_134 rfl ?_
              exfalso; omega
            · refine r_iload C dX10_reachFor_122 rfl ?_
              refine r_goto C (tgt := 129) dX10_reachFor_124 rfl ?_
              refine r_istore C dX10_reachFor_129 rfl rfl ?_
              refine r_iinc C (v := 1) dX10_reachFor_131 rfl (by decide) rfl ?_
              refine r_goto C (tgt := 55) dX10_reachFor_134 rfl ?_
              rw [nI_s]
              have h2 := ih (i + 1) I2 (some (.int (val i))) hj hkj hin hval hNN (by omega) hF2 hk2
              rw [hbr, if_pos (by assumption)] at h2
              exact h2
  refine r_aload_n C dX10_reachFor_0 rfl ?_
  refine r_iload_n C dX10_reachFor_1 rfl ?_
  refine cV (ci := 10) C hx (sX10_isStraw (d := d - 1) (by omega) _ I J b hs0 hs3) moX10_isStraw mlX10_130 miX10_isStraw msX10_isStraw dX10_reachFor_2 rfl rfl rfl rfl rfl (by omega) rfl rfl (kp ?_)
  refine z_ifeq C (tgt := 27) dX10_reachFor_5 rfl (fun h5_2 => ?_) (fun h5_2 => ?_)
  · refine r_iconst C (v := -1) dX10_reachFor_27 (by decide) ?_
    exact ri C Z dX10_reachFor_28 (show (_ ∨ _) from Or.inl ⟨fun z => absurd z.1 (by assumption), rfl, rfl⟩)
  · refine r_iload_n C dX10_reachFor_8 rfl ?_
    refine cS C hx (sX10_isSoon (d := d - 1) (by omega) _ I J b) moX10_isSoon mlX10_278 mtX10_isSoon dX10_reachFor_9 rfl rfl (by omega) rfl rfl (kp ?_)
    refine z_ifeq C (tgt := 27) dX10_reachFor_12 rfl (fun h12_4 => ?_) (fun h12_4 => ?_)
    · refine r_iconst C (v := -1) dX10_reachFor_27 (by decide) ?_
      exact ri C Z dX10_reachFor_28 (show (_ ∨ _) from Or.inl ⟨fun z => absurd z.2.1 (by assumption), rfl, rfl⟩)
    · refine r_iload_n C dX10_reachFor_15 rfl ?_
      refine r_i2l C dX10_reachFor_16 ?_
      refine r_lconst C (v := 0) dX10_reachFor_17 (by decide) ?_
      refine r_ldc2 C kkX10_115 dX10_reachFor_18 ?_
      refine cS C hx (sWi (d := d - 1) _ (lo := 0) (hi := 3) rfl rfl I J b) moX10_within mlX10_105 mtX10_within dX10_reachFor_21 rfl rfl (by omega) rfl rfl (kp ?_)
      refine z_ifne C (tgt := 29) dX10_reachFor_24 rfl (fun h24_6 => ?_) (fun h24_6 => ?_)
      · have hin : (inM I k ∧ inR n 60 ∧ inR w 3) := ⟨by assumption, by assumption, by assumption⟩
        obtain ⟨j, hj, hkj⟩ := nI_get hin.1.1 hin.1.2 (by omega)
        rw [hkj]
        rw [hkj] at hin
        obtain ⟨hpx, hpv⟩ := mpl j 2 (by omega) (by decide)
        have hpx : ix (8 * nI j + 2) = 8 * j + 2 := hpx
        have hpv : vp_in (8 * nI j + 2) 28 := hpv
        refine r_bipush C (v := 8) dX10_reachFor_29 (by decide) ?_
        refine r_iload_n C dX10_reachFor_31 rfl ?_
        refine r_imul C dX10_reachFor_32 ?_
        refine r_iconst C (v := 2) dX10_reachFor_33 (by decide) ?_
        refine r_iadd C dX10_reachFor_34 ?_
        refine r_istore C dX10_reachFor_35 rfl rfl ?_
        refine r_aload_n C dX10_reachFor_37 rfl ?_
        refine r_getR C flX10_9 dX10_reachFor_38 rfl rfl rfl ?_
        refine r_iload C dX10_reachFor_41 rfl ?_
        refine r_iald C rfl dX10_reachFor_43 hpv ?_
        rw [hpx]
        refine r_istore C dX10_reachFor_44 rfl rfl ?_
        refine r_iconst C (v := 0) dX10_reachFor_46 (by decide) ?_
        refine r_istore C dX10_reachFor_47 rfl rfl ?_
        refine r_iconst C (v := -1) dX10_reachFor_49 (by decide) ?_
        refine r_istore C dX10_reachFor_50 rfl rfl ?_
        refine r_iconst C (v := 0) dX10_reachFor_52 (by decide) ?_
        refine r_istore C dX10_reachFor_53 rfl rfl ?_
        exact loop j _ 1000 1000 0 I _ hj hkj hin rfl rfl rfl FrM.rf (fun _ _ => rfl)
      · refine r_iconst C (v := -1) dX10_reachFor_27 (by decide) ?_
        exact ri C Z dX10_reachFor_28 (show (_ ∨ _) from Or.inl ⟨fun z => absurd z.2.2 (by assumption), rfl, rfl⟩)
set_option maxRecDepth 100000 in
set_option maxHeartbeats 400000 in
theorem sX10_slow {g : Gb} {d : Nat} (hd : 85 ≤ d) (k n : Int32) (I : Is) (J : Js) (b : Bool) (hN : NM I) (hv : VOk (gvT I)) : MC9 g d mX10_slow [.ref 64, .int k, .int n] I J b (Qi J b (fun v I' => (¬ (inM I k ∧ inR n 60) ∧ v = -1 ∧ I' = I) ∨ ((inM I k ∧ inR n 60) ∧ v = nI (brM (fun x => gsF 0 (gaM I (8 * ix k + 0) (nI x) (ix n)) (ix k)) (ix (I 65 (8 * ix k + 0)) + 1)).1 ∧ FrM RTM FTM I I'))) := by
  have hs0 := hN.1.1
  have hs3 := hN.1.2.1
  refine ent9 (own := RX10) rfl rfl rfl (fun X hg hx C Z => ?_)
  subst hg
  have loop : ∀ (j : Nat) (val : Nat → Int32) (N m i : Nat) (I' : Is) (x9 : Option Value), (j : Int) < (I 64 6).toInt → k = nI j → (inM I (nI j) ∧ inR n 60) → val = (fun x => gsF 0 (gaM I (8 * j + 0) (nI x) (ix n)) j) → N = ix (I 65 (8 * j + 0)) + 1 ∧ (I 65 (8 * j + 0)).toInt = ((ix (I 65 (8 * j + 0)) : Nat) : Int) ∧ (I 65 (8 * j + 0)).toInt ≤ 20 → m + i = N → FrM (65 :: RTM) FTM I I' → (∀ k, k ≠ (8 * j + 0) → I' 65 k = I 65 k) → Aw X 41 [some (.ref 64), some (.int (nI j)), some (.int n), some (.int (8 * nI j + 0)), some (.int (I 65 (8 * j + 0))), some (.int (nI (brM val i).1)), some (.int (brM val i).2), some (.int (nI i)), x9] [] (st9 I' J b) := by
    intro j val N m
    induction m with
    | zero =>
      intro i I' x9 hj hkj hin hval hNN hm hF hk
      have ini : (nI i).toInt = (i : Int) := nIint (by omega)
      have hjx : ix (nI j) = j := nIix (by omega)
      obtain ⟨hpx, hpv⟩ := mpl j 0 (by omega) (by decide)
      have hpx : ix (8 * nI j + 0) = (8 * j + 0) := hpx
      have hpv : vp_in (8 * nI j + 0) 28 := hpv
      have hiN : i = N := by omega
      obtain ⟨hN1, hN2, hN3⟩ := hNN
      have hkx : ix k = j := by rw [hkj]; exact hjx
      have hin0 : (inM I k ∧ inR n 60) := by rw [hkj]; exact hin
      have hz0 : (fun x => gsF 0 (gaM I (8 * ix k + 0) (nI x) (ix n)) (ix k)) = val := by rw [hkx, hval]
      have hN1 : N = ix (I 65 (8 * ix k + 0)) + 1 := by rw [hkx]; exact hN1
      refine r_iload C dX10_slow_41 rfl ?_
      refine r_iload C dX10_slow_43 rfl ?_
      refine b_icgt C (tgt := 102) rfl rfl dX10_slow_45 rfl (fun h45_1 => ?_) (fun h45_1 => ?_)
      · refine r_aload_n C dX10_slow_102 rfl ?_
        refine r_getR C flX10_9 dX10_slow_103 rfl rfl rfl ?_
        refine r_iload_n C dX10_slow_106 rfl ?_
        refine r_iload C dX10_slow_107 rfl ?_
        refine r_iast C rfl dX10_slow_109 hpv ?_
        rw [hpx]
        refine r_iload C dX10_slow_110 rfl ?_
        exact ri C Z dX10_slow_112 (show (_ ∨ _) from Or.inr ⟨hin0, by rw [hz0, hiN, hN1], fr_65c hF hk⟩)
      · exfalso; omega
    | succ m ih =>
      intro i I' x9 hj hkj hin hval hNN hm hF hk
      have ini : (nI i).toInt = (i : Int) := nIint (by omega)
      have hjx : ix (nI j) = j := nIix (by omega)
      obtain ⟨hpx, hpv⟩ := mpl j 0 (by omega) (by decide)
      have hpx : ix (8 * nI j + 0) = (8 * j + 0) := hpx
      have hpv : vp_in (8 * nI j + 0) 28 := hpv
      have hNv : NM (u2 I 65 (8 * j + 0) (nI i)) := NM_65 hN hj (Or.inl ⟨rfl, by omega, by omega⟩)
      have hFv := fr_65 (nI i) hF hk
      have hvl : val i = gsF 0 (gaM I (8 * j + 0) (nI i) (ix n)) j := by rw [hval]
      have hbr : brM val (i + 1) = if (brM val i).2.toInt < (val i).toInt then (i, val i) else brM val i := rfl
      refine r_iload C dX10_slow_41 rfl ?_
      refine r_iload C dX10_slow_43 rfl ?_
      refine b_icgt C (tgt := 102) rfl rfl dX10_slow_45 rfl (fun h45_1 => ?_) (fun h45_1 => ?_)
      · exfalso; omega
      · refine r_aload_n C dX10_slow_48 rfl ?_
        refine r_getR C flX10_9 dX10_slow_49 rfl rfl rfl ?_
        refine r_iload_n C dX10_slow_52 rfl ?_
        refine r_iload C dX10_slow_53 rfl ?_
        refine r_iast C rfl dX10_slow_55 hpv ?_
        rw [hpx]
        refine r_aload_n C dX10_slow_56 rfl ?_
        refine r_iload_n C dX10_slow_57 rfl ?_
        refine r_iload_n C dX10_slow_58 rfl ?_
        refine cV (ci := 10) C hx (sX10_gets (d := d - 1) (by omega) j (by omega) n hin.2.1 (u2 I 65 (8 * j + 0) (nI i)) (u2 I' 65 (8 * j + 0) (nI i)) J b hNv hv hFv) moX10_gets mlX10_281 miX10_gets msX10_gets dX10_slow_59 rfl rfl rfl rfl rfl (by omega) rfl rfl (ki (fun v_59_2 I_59_2 q_59_2 => ?_))
        obtain ⟨hg1, hg2, hFg⟩ := q_59_2
        obtain ⟨I2, hI2⟩ : ∃ z, z = I_59_2 := ⟨_, rfl⟩
        rw [← hI2] at hFg ⊢
        obtain ⟨hF2, hk2⟩ := fr_65b hFg
        have r65 : I2 65 = (u2 I 65 (8 * j + 0) (nI i)) 65 := hFg.1 65 (by decide) (by decide)
        have hg3 : v_59_2 = (gaM I (8 * j + 0) (nI i) (ix n)).2.2.2.2.1 j := hg1
        have hg4 : v_59_2 * swF ((u2 I 65 (8 * j + 0) (nI i)) 65) j = (gaM I (8 * j + 0) (nI i) (ix n)).2.2.2.2.2.1 j := hg2
        rw [show v_59_2 = val i from by rw [hvl]; unfold gsF; rw [if_pos rfl]; exact hg3]
        refine r_istore C dX10_slow_62 rfl rfl ?_
        refine r_iload C dX10_slow_64 rfl ?_
        refine r_iload C dX10_slow_66 rfl ?_
        refine b_icle C (tgt := 76) rfl rfl dX10_slow_68 rfl (fun h68_3 => ?_) (fun h68_3 => ?_)
        · refine r_iload C dX10_slow_76 rfl ?_
          refine r_istore C dX10_slow_78 rfl rfl ?_
          refine r_iload C dX10_slow_80 rfl ?_
          refine r_iload C dX10_slow_82 rfl ?_
          refine b_icle C (tgt := 92) rfl rfl dX10_slow_84 rfl (fun h84_4 => ?_) (fun h84_4 => ?_)
          · refine r_iload C dX10_slow_92 rfl ?_
            refine r_istore C dX10_slow_94 rfl rfl ?_
            refine r_iinc C (v := 1) dX10_slow_96 rfl (by decide) rfl ?_
            refine r_goto C (tgt := 41) dX10_slow_99 rfl ?_
            rw [nI_s]
            have h2 := ih (i + 1) I2 (some (.int (val i))) hj hkj hin hval hNN (by omega) hF2 hk2
            rw [hbr, if_neg (by omega)] at h2
            exact h2
          · refine r_iload C dX10_slow_87 rfl ?_
            refine r_goto C (tgt := 94) dX10_slow_89 rfl ?_
            refine r_istore C dX10_slow_94 rfl rfl ?_
            refine r_iinc C (v := 1) dX10_slow_96 rfl (by decide) rfl ?_
            refine r_goto C (tgt := 41) dX10_slow_99 rfl ?_
            exfalso; omega
        · refine r_iload C dX10_slow_71 rfl ?_
          refine r_goto C (tgt := 78) dX10_slow_73 rfl ?_
          refine r_istore C dX10_slow_78 rfl rfl ?_
          refine r_iload C dX10_slow_80 rfl ?_
          refine r_iload C dX10_slow_82 rfl ?_
          refine b_icle C (tgt := 92) rfl rfl dX10_slow_84 rfl (fun h84_5 => ?_) (fun h84_5 => ?_)
          · refine r_iload C dX10_slow_92 rfl ?_
            refine r_istore C dX10_slow_94 rfl rfl ?_
            refine r_iinc C (v := 1) dX10_slow_96 rfl (by decide) rfl ?_
            refine r_goto C (tgt := 41) dX10_slow_99 rfl ?_
            exfalso; omega
          · refine r_iload C dX10_slow_87 rfl ?_
            refine r_goto C (tgt := 94) dX10_slow_89 rfl ?_
            refine r_istore C dX10_slow_94 rfl rfl ?_
            refine r_iinc C (v := 1) dX10_slow_96 rfl (by decide) rfl ?_
            refine r_goto C (tgt := 41) dX10_slow_99 rfl ?_
            rw [nI_s]
            have h2 := ih (i + 1) I2 (some (.int (val i))) hj hkj hin hval hNN (by omega) hF2 hk2
            rw [hbr, if_pos (by assumption)] at h2
            exact h2
  refine r_aload_n C dX10_slow_0 rfl ?_
  refine r_iload_n C dX10_slow_1 rfl ?_
  refine cV (ci := 10) C hx (sX10_isStraw (d := d - 1) (by omega) _ I J b hs0 hs3) moX10_isStraw mlX10_130 miX10_isStraw msX10_isStraw dX10_slow_2 rfl rfl rfl rfl rfl (by omega) rfl rfl (kp ?_)
  refine z_ifeq C (tgt := 15) dX10_slow_5 rfl (fun h5_2 => ?_) (fun h5_2 => ?_)
  · refine r_iconst C (v := -1) dX10_slow_15 (by decide) ?_
    exact ri C Z dX10_slow_16 (show (_ ∨ _) from Or.inl ⟨fun z => absurd z.1 (by assumption), rfl, rfl⟩)
  · refine r_iload_n C dX10_slow_8 rfl ?_
    refine cS C hx (sX10_isSoon (d := d - 1) (by omega) _ I J b) moX10_isSoon mlX10_278 mtX10_isSoon dX10_slow_9 rfl rfl (by omega) rfl rfl (kp ?_)
    refine z_ifne C (tgt := 17) dX10_slow_12 rfl (fun h12_4 => ?_) (fun h12_4 => ?_)
    · have hin : (inM I k ∧ inR n 60) := ⟨by assumption, by assumption⟩
      obtain ⟨j, hj, hkj⟩ := nI_get hin.1.1 hin.1.2 (by omega)
      rw [hkj]
      rw [hkj] at hin
      obtain ⟨hpx, hpv⟩ := mpl j 0 (by omega) (by decide)
      have hpx : ix (8 * nI j + 0) = 8 * j + 0 := hpx
      have hpv : vp_in (8 * nI j + 0) 28 := hpv
      refine r_bipush C (v := 8) dX10_slow_17 (by decide) ?_
      refine r_iload_n C dX10_slow_19 rfl ?_
      refine r_imul C dX10_slow_20 ?_
      refine r_iconst C (v := 0) dX10_slow_21 (by decide) ?_
      refine r_iadd C dX10_slow_22 ?_
      refine r_istore_n C dX10_slow_23 rfl rfl ?_
      refine r_aload_n C dX10_slow_24 rfl ?_
      refine r_getR C flX10_9 dX10_slow_25 rfl rfl rfl ?_
      refine r_iload_n C dX10_slow_28 rfl ?_
      refine r_iald C rfl dX10_slow_29 hpv ?_
      rw [hpx]
      refine r_istore C dX10_slow_30 rfl rfl ?_
      refine r_iconst C (v := 0) dX10_slow_32 (by decide) ?_
      refine r_istore C dX10_slow_33 rfl rfl ?_
      refine r_iconst C (v := -1) dX10_slow_35 (by decide) ?_
      refine r_istore C dX10_slow_36 rfl rfl ?_
      refine r_iconst C (v := 0) dX10_slow_38 (by decide) ?_
      refine r_istore C dX10_slow_39 rfl rfl ?_
      have hr0 := (hN.1.2.2.1 j hj).1
      exact loop j _ (ix (I 65 (8 * j + 0)) + 1) (ix (I 65 (8 * j + 0)) + 1) 0 I _ hj hkj hin rfl ⟨rfl, ix_of0 hr0.1, hr0.2⟩ rfl FrM.rf (fun _ _ => rfl)
    · refine r_iconst C (v := -1) dX10_slow_15 (by decide) ?_
      exact ri C Z dX10_slow_16 (show (_ ∨ _) from Or.inl ⟨fun z => absurd z.2 (by assumption), rfl, rfl⟩)
