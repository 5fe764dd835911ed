theorem secF_e {e1 e2 : EV} {pt fr fr' hc : Nat → Bool} {v : GV} (h1 : e1.1 = e2.1) (h2 : e1.2.2 = e2.2.2) (hr : ∀ q, (∀ k, q ≠ 8 * k + 7) → e1.2.1 q = e2.2.1 q) (hs : ∀ k, (fr k = true ∨ v.2.2.1.toInt < (e1.2.1 (8 * k + 7)).toInt) ↔ (fr' k = true ∨ v.2.2.1.toInt < (e2.2.1 (8 * k + 7)).toInt)) : secF e1 pt fr hc v = secF e2 pt fr' hc v := by
  have r2 : ∀ k, e1.2.1 (8 * k + 2) = e2.2.1 (8 * k + 2) := fun k => hr _ (fun i => by omega)
  have r4 : ∀ k, e1.2.1 (8 * k + 4) = e2.2.1 (8 * k + 4) := fun k => hr _ (fun i => by omega)
  have r5 : ∀ k, e1.2.1 (8 * k + 5) = e2.2.1 (8 * k + 5) := fun k => hr _ (fun i => by omega)
  have r6 : ∀ k, e1.2.1 (8 * k + 6) = e2.2.1 (8 * k + 6) := fun k => hr _ (fun i => by omega)
  have r24 : e1.2.1 24 = e2.2.1 24 := hr _ (fun i => by omega)
  have r25 : e1.2.1 25 = e2.2.1 25 := hr _ (fun i => by omega)
  have r26 : e1.2.1 26 = e2.2.1 26 := hr _ (fun i => by omega)
  have hp : ∀ k, pdF e1 pt fr v k = pdF e2 pt fr' v k := fun k => by
    unfold pdF
    rw [r4, r5]
    exact congrArg (pt k && ·) (decide_eq_decide.mpr (and_congr (hs k) Iff.rfl))
  have hw : wVF e1 pt fr hc v = wVF e2 pt fr' hc v := funext fun k => by
    unfold wVF trF
    rw [hp k, r2, r6, h2]
  have hsw : ∀ k, swF e1.2.1 k = swF e2.2.1 k := fun k => by
    unfold swF
    rw [r2, r25, r26]
  have hm : mlF e1 = mlF e2 := by
    funext a c
    unfold mlF
    rw [r24]
  unfold secF
  simp only [hw, h1, hsw, hm, hp, r2]
theorem goM_s {e : EV} {pt fr hc : Nat → Bool} {v : GV} (h0 : 0 ≤ v.2.2.1.toInt ∧ v.2.2.1.toInt ≤ 999) : ∀ n, n ≤ 1000 → (goF e pt fr hc n v).2.2.1.toInt = v.2.2.1.toInt + n := by
  intro n
  induction n with
  | zero => intro _; show v.2.2.1.toInt = _; omega
  | succ n ih =>
    intro hn
    have h := ih (by omega)
    show ((goF e pt fr hc n v).2.2.1 + 1).toInt = _
    rw [tI_add (by rw [one_int]; omega) (by rw [one_int]; omega), one_int, h]
    omega
theorem wtM_7 (I : Is) (j : Nat) (x : Int32) : wtM (u2 I 65 (8 * j + 7) x) = wtM I := by
  have r : ∀ i w, w < 7 → (u2 I 65 (8 * j + 7) x) 65 (8 * i + w) = I 65 (8 * i + w) := fun i w hw => u2_ne _ _ _ _ (Or.inr (by omega))
  funext i l t
  unfold wtM nmF plainF
  rw [r i 0 (by omega), r i 1 (by omega), r i 2 (by omega), r i 3 (by omega)]
  rfl
theorem stop_all {I : Is} {j : Nat} {x y : Int32} (hps : 0 ≤ (I 64 9).toInt ∧ (I 64 9).toInt ≤ 999) (hx : (I 64 9).toInt + 99 ≤ x.toInt) (hy : (I 64 9).toInt + 99 ≤ y.toInt) : ∀ n, n ≤ 99 → gaM I (8 * j + 7) x n = gaM I (8 * j + 7) y n := by
  intro n
  induction n with
  | zero => intro _; rfl
  | succ n ih =>
    intro hn
    have h := ih (by omega)
    unfold gaM at h ⊢
    show secF _ _ _ _ (goF _ _ _ _ n _) = secF _ _ _ _ (goF _ _ _ _ n _)
    rw [h]
    have hs := goM_s (e := enM (u2 I 65 (8 * j + 7) y)) (pt := bit 7) (fr := bit 0) (hc := bit 0) (v := bgF (gvT I)) hps n (by omega)
    refine secF_e rfl ((wtM_7 I j x).trans (wtM_7 I j y).symm) (fun q hq => ?_) (fun k => ?_)
    · show (u2 I 65 (8 * j + 7) x) 65 q = (u2 I 65 (8 * j + 7) y) 65 q
      rw [u2_65, u2_65]
      show (if q = 8 * j + 7 then x else I 65 q) = if q = 8 * j + 7 then y else I 65 q
      rw [if_neg (hq j), if_neg (hq j)]
    · show (_ ∨ _ < ((u2 I 65 (8 * j + 7) x) 65 (8 * k + 7)).toInt) ↔ (_ ∨ _ < ((u2 I 65 (8 * j + 7) y) 65 (8 * k + 7)).toInt)
      rw [u2_65, u2_65]
      show (_ ∨ _ < (if 8 * k + 7 = 8 * j + 7 then x else I 65 (8 * k + 7)).toInt) ↔ (_ ∨ _ < (if 8 * k + 7 = 8 * j + 7 then y else I 65 (8 * k + 7)).toInt)
      by_cases e : 8 * k + 7 = 8 * j + 7
      · rw [if_pos e, if_pos e]
        have e3 : (bgF (gvT I)).2.2.1 = I 64 9 := rfl
        rw [e3] at hs
        constructor <;> intro _ <;> exact Or.inr (by omega)
      · rw [if_neg e, if_neg e]
/-- the least second at which stopping costs nothing, sought from s on -/
def stM' (gS : Int32 → Int32) (al ps : Int32) : Nat → Int32 → Int32
  | 0, s => s
  | n + 1, s => if (gS s).toInt < al.toInt then stM' gS al ps n (if s.toInt < ps.toInt then ps else s + 1) else s
abbrev gtM (I : Is) (j : Nat) (x : Int32) : Int32 := (gaM I (8 * j + 7) x 99).2.2.2.2.1 j
set_option maxRecDepth 100000 in
set_option maxHeartbeats 400000 in
theorem sX10_getsStopping {g : Gb} {d : Nat} (hd : 85 ≤ d) (j : Nat) (st : Int32) (I I1 : Is) (J : Js) (b : Bool) (hN : NM I) (hv : VOk (gvT I)) (hj : (j : Int) < (I 64 6).toInt) (hst : 0 ≤ st.toInt ∧ st.toInt ≤ 5000) (hF : FrM RTM FTM I I1) : MC9 g d mX10_getsStopping [.ref 64, .int (nI j), .int st] I1 J b (Qi J b (fun v I' => v = gtM I j st ∧ FrM RTM FTM I I')) := by
  have hs3 := hN.1.2.1
  obtain ⟨hpx, hpv⟩ := mpl j 7 (by omega) (by decide)
  have hpx : ix (8 * nI j + 7) = 8 * j + 7 := hpx
  have hpv : vp_in (8 * nI j + 7) 28 := hpv
  have hNv : NM (u2 I 65 (8 * j + 7) st) := NM_65 hN hj (Or.inr (Or.inr (Or.inr ⟨rfl, hst⟩)))
  have h65 : I1 65 = I 65 := hF.1 65 (by decide) (by decide)
  have hF0 : FrM RTM FTM (u2 I 65 (8 * j + 7) st) (u2 I1 65 (8 * j + 7) st) := fr_65 st (hF.mo (by decide) (by decide)) (fun k _ => congrFun h65 k)
  refine ent9 (own := RX10) rfl rfl rfl (fun X hg hx C Z => ?_)
  subst hg
  refine r_bipush C (v := 8) dX10_getsStopping_0 (by decide) ?_
  refine r_iload_n C dX10_getsStopping_2 rfl ?_
  refine r_imul C dX10_getsStopping_3 ?_
  refine r_bipush C (v := 7) dX10_getsStopping_4 (by decide) ?_
  refine r_iadd C dX10_getsStopping_6 ?_
  refine r_istore_n C dX10_getsStopping_7 rfl rfl ?_
  refine r_aload_n C dX10_getsStopping_8 rfl ?_
  refine r_getR C flX10_9 dX10_getsStopping_9 rfl rfl rfl ?_
  refine r_iload_n C dX10_getsStopping_12 rfl ?_
  refine r_iald C rfl dX10_getsStopping_13 hpv ?_
  rw [hpx, h65]
  refine r_istore C dX10_getsStopping_14 rfl rfl ?_
  refine r_aload_n C dX10_getsStopping_16 rfl ?_
  refine r_getR C flX10_9 dX10_getsStopping_17 rfl rfl rfl ?_
  refine r_iload_n C dX10_getsStopping_20 rfl ?_
  refine r_iload_n C dX10_getsStopping_21 rfl ?_
  refine r_iast C rfl dX10_getsStopping_22 hpv ?_
  rw [hpx]
  refine r_aload_n C dX10_getsStopping_23 rfl ?_
  refine r_iload_n C dX10_getsStopping_24 rfl ?_
  refine r_bipush C (v := 99) dX10_getsStopping_25 (by decide) ?_
  refine cV (ci := 10) C hx (sX10_gets (d := d - 1) (by omega) j (by omega) 99 (by decide) (u2 I 65 (8 * j + 7) st) (u2 I1 65 (8 * j + 7) st) J b hNv hv hF0) moX10_gets mlX10_281 miX10_gets msX10_gets dX10_getsStopping_27 rfl rfl rfl rfl rfl (by omega) rfl rfl (ki (fun v_27_1 I_27_1 q_27_1 => ?_))
  obtain ⟨hg1, hg2, hFg⟩ := q_27_1
  obtain ⟨hFc, hkc⟩ := fr_65b hFg
  refine r_istore C dX10_getsStopping_30 rfl rfl ?_
  refine r_aload_n C dX10_getsStopping_32 rfl ?_
  refine r_getR C flX10_9 dX10_getsStopping_33 rfl rfl rfl ?_
  refine r_iload_n C dX10_getsStopping_36 rfl ?_
  refine r_iload C dX10_getsStopping_37 rfl ?_
  refine r_iast C rfl dX10_getsStopping_39 hpv ?_
  rw [hpx]
  refine r_iload C dX10_getsStopping_40 rfl ?_
  exact ri C Z dX10_getsStopping_42 ⟨hg1, fr_65c hFc hkc⟩
theorem stM_stop {gS : Int32 → Int32} {al ps s : Int32} (h : ¬ (gS s).toInt < al.toInt) : ∀ n, stM' gS al ps n s = s := by
  intro n
  cases n with
  | zero => rfl
  | succ n => exact if_neg h
theorem stM_more' {gS : Int32 → Int32} {al ps : Int32} (hp0 : ps.toInt = 0) (hl : ∀ s : Int32, s.toInt = 99 → ¬ (gS s).toInt < al.toInt) : ∀ (q : Nat) (s : Int32), (q : Int) + s.toInt = 99 → 0 ≤ s.toInt → stM' gS al ps (q + 1) s = stM' gS al ps (q + 2) s := by
  intro q
  induction q with
  | zero =>
    intro s hs h0
    have h := hl s (by omega)
    rw [stM_stop h, stM_stop h]
  | succ q ih =>
    intro s hs h0
    by_cases c : (gS s).toInt < al.toInt
    · show (if _ then stM' gS al ps (q + 1) _ else _) = if _ then stM' gS al ps (q + 2) _ else _
      rw [if_pos c, if_pos c, if_neg (by omega)]
      have es : (s + 1).toInt = s.toInt + 1 := by rw [tI_add (by rw [one_int]; omega) (by rw [one_int]; omega), one_int]
      exact ih (s + 1) (by omega) (by omega)
    · rw [stM_stop c, stM_stop c]
theorem stM_more {I : Is} {j : Nat} (hps : 0 ≤ (I 64 9).toInt ∧ (I 64 9).toInt ≤ 999) (e : (I 64 9).toInt = 0) : stM' (gtM I j) (gtM I j 5000) (I 64 9) 100 0 = stM' (gtM I j) (gtM I j 5000) (I 64 9) 101 0 := by
  have z5 : (5000 : Int32).toInt = 5000 := rfl
  refine stM_more' e (fun s hs => ?_) 99 0 rfl (by decide)
  rw [show gtM I j s = gtM I j 5000 from congrArg (fun v : GV => v.2.2.2.2.1 j) (stop_all hps (by omega) (by omega) 99 (Nat.le_refl _))]
  exact Int.lt_irrefl _
set_option maxRecDepth 100000 in
set_option maxHeartbeats 400000 in
theorem sX10_stopFor {g : Gb} {d : Nat} (hd : 86 ≤ d) (k : Int32) (I : Is) (J : Js) (b : Bool) (hN : NM I) (hv : VOk (gvT I)) (hps : 0 ≤ (I 64 9).toInt ∧ (I 64 9).toInt ≤ 999) : MC9 g d mX10_stopFor [.ref 64, .int k] I J b (Qi J b (fun v I' => (¬ inM I k ∧ v = -1 ∧ I' = I) ∨ (inM I k ∧ v = stM' (gtM I (ix k)) (gtM I (ix k) 5000) (I 64 9) 101 0 ∧ FrM RTM FTM I I'))) := by
  have hs0 := hN.1.1
  have hs3 := hN.1.2.1
  refine ent9 (own := RX10) rfl rfl rfl (fun X hg hx C Z => ?_)
  subst hg
  have loop : ∀ (j : Nat), (j : Int) < (I 64 6).toInt → k = nI j → ∀ (q : Nat) (s : Int32) (I' : Is), (((I 64 9).toInt ≤ s.toInt ∧ (q : Int) + s.toInt = (I 64 9).toInt + 99) ∨ (s.toInt = 0 ∧ q = 100 ∧ 0 < (I 64 9).toInt)) → FrM RTM FTM I I' → stM' (gtM I j) (gtM I j 5000) (I 64 9) (q + 1) s = stM' (gtM I j) (gtM I j 5000) (I 64 9) (if (I 64 9).toInt = 0 then 100 else 101) 0 → Aw X 21 [some (.ref 64), some (.int (nI j)), some (.int (gtM I j 5000)), some (.int s)] [] (st9 I' J b) := by
    intro j hj hkj q
    have hkx : ix k = j := by rw [hkj]; exact nIix (by omega)
    have z5 : (5000 : Int32).toInt = 5000 := rfl
    have hkin : inM I k := by rw [hkj]; exact ⟨by rw [nIint (by omega)]; omega, by rw [nIint (by omega)]; omega⟩
    have h101 : stM' (gtM I j) (gtM I j 5000) (I 64 9) (if (I 64 9).toInt = 0 then 100 else 101) 0 = stM' (gtM I j) (gtM I j 5000) (I 64 9) 101 0 := by
      by_cases e : (I 64 9).toInt = 0
      · rw [if_pos e]
        exact stM_more hps e
      · rw [if_neg e]
    have hlast : ∀ s : Int32, s.toInt = (I 64 9).toInt + 99 → ¬ (gtM I j s).toInt < (gtM I j 5000).toInt := fun s hs => by
      rw [show gtM I j s = gtM I j 5000 from congrArg (fun v : GV => v.2.2.2.2.1 j) (stop_all hps (by omega) (by omega) 99 (Nat.le_refl _))]
      exact Int.lt_irrefl _
    induction q with
    | zero =>
      intro s I' hq hF hst
      refine r_aload_n C dX10_stopFor_21 rfl ?_
      refine r_iload_n C dX10_stopFor_22 rfl ?_
      refine r_iload_n C dX10_stopFor_23 rfl ?_
      refine cV (ci := 10) C hx (sX10_getsStopping (d := d - 1) (by omega) j s I I' J b hN hv hj (by omega) hF) moX10_getsStopping mlX10_291 miX10_getsStopping msX10_getsStopping dX10_stopFor_24 rfl rfl rfl rfl rfl (by omega) rfl rfl (ki (fun v_24_1 I_24_1 q_24_1 => ?_))
      obtain ⟨rfl, hF2⟩ := q_24_1
      refine r_iload_n C dX10_stopFor_27 rfl ?_
      refine b_icge C (tgt := 53) rfl rfl dX10_stopFor_28 rfl (fun h28_2 => ?_) (fun h28_2 => ?_)
      · refine r_iload_n C dX10_stopFor_53 rfl ?_
        exact ri C Z dX10_stopFor_54 (show (_ ∨ _) from Or.inr ⟨hkin, by rw [hkx, ← h101, ← hst]; exact (if_neg (by omega)).symm, hF2⟩)
      · exact absurd (show (gtM I j s).toInt < (gtM I j 5000).toInt by assumption) (hlast s (by omega))
    | succ q ih =>
      intro s I' hq hF hst
      have hst2 : stM' (gtM I j) (gtM I j 5000) (I 64 9) (q + 1 + 1) s = if (gtM I j s).toInt < (gtM I j 5000).toInt then stM' (gtM I j) (gtM I j 5000) (I 64 9) (q + 1) (if s.toInt < (I 64 9).toInt then I 64 9 else s + 1) else s := rfl
      refine r_aload_n C dX10_stopFor_21 rfl ?_
      refine r_iload_n C dX10_stopFor_22 rfl ?_
      refine r_iload_n C dX10_stopFor_23 rfl ?_
      refine cV (ci := 10) C hx (sX10_getsStopping (d := d - 1) (by omega) j s I I' J b hN hv hj (by omega) hF) moX10_getsStopping mlX10_291 miX10_getsStopping msX10_getsStopping dX10_stopFor_24 rfl rfl rfl rfl rfl (by omega) rfl rfl (ki (fun v_24_1 I_24_1 q_24_1 => ?_))
      obtain ⟨rfl, hF2⟩ := q_24_1
      have e9 : I_24_1 64 9 = I 64 9 := hF2.2 9 (by decide)
      refine r_iload_n C dX10_stopFor_27 rfl ?_
      refine b_icge C (tgt := 53) rfl rfl dX10_stopFor_28 rfl (fun h28_2 => ?_) (fun h28_2 => ?_)
      · refine r_iload_n C dX10_stopFor_53 rfl ?_
        exact ri C Z dX10_stopFor_54 (show (_ ∨ _) from Or.inr ⟨hkin, by rw [hkx, ← h101, ← hst]; exact (if_neg (by omega)).symm, hF2⟩)
      · refine r_iload_n C dX10_stopFor_31 rfl ?_
        refine r_aload_n C dX10_stopFor_32 rfl ?_
        refine r_getI C flX10_160 dX10_stopFor_33 rfl rfl ?_
        rw [e9]
        refine b_icge C (tgt := 46) rfl rfl dX10_stopFor_36 rfl (fun h36_3 => ?_) (fun h36_3 => ?_)
        · refine r_iload_n C dX10_stopFor_46 rfl ?_
          refine r_iconst C (v := 1) dX10_stopFor_47 (by decide) ?_
          refine r_iadd C dX10_stopFor_48 ?_
          refine r_istore_n C dX10_stopFor_49 rfl rfl ?_
          refine r_goto C (tgt := 21) dX10_stopFor_50 rfl ?_
          have es : (s + 1).toInt = s.toInt + 1 := by rw [tI_add (by rw [one_int]; omega) (by rw [one_int]; omega), one_int]
          exact ih (s + 1) _ (Or.inl ⟨by omega, by omega⟩) hF2 (by rw [hst2, if_pos (by assumption), if_neg (by omega)] at hst; exact hst)
        · refine r_aload_n C dX10_stopFor_39 rfl ?_
          refine r_getI C flX10_160 dX10_stopFor_40 rfl rfl ?_
          refine r_goto C (tgt := 49) dX10_stopFor_43 rfl ?_
          refine r_istore_n C dX10_stopFor_49 rfl rfl ?_
          refine r_goto C (tgt := 21) dX10_stopFor_50 rfl ?_
          rw [e9]
          exact ih (I 64 9) _ (Or.inl ⟨Int.le_refl _, by omega⟩) hF2 (by rw [hst2, if_pos (by assumption), if_pos (by omega)] at hst; exact hst)
  refine r_aload_n C dX10_stopFor_0 rfl ?_
  refine r_iload_n C dX10_stopFor_1 rfl ?_
  refine cV (ci := 10) C hx (sX10_isStraw (d := d - 1) (by omega) _ I J b hs0 hs3) moX10_isStraw mlX10_130 miX10_isStraw msX10_isStraw dX10_stopFor_2 rfl rfl rfl rfl rfl (by omega) rfl rfl (kp ?_)
  refine z_ifne C (tgt := 10) dX10_stopFor_5 rfl (fun h5_2 => ?_) (fun h5_2 => ?_)
  · have hin : inM I k := by assumption
    obtain ⟨j, hj, hkj⟩ := nI_get hin.1 hin.2 (by omega)
    rw [hkj]
    refine r_aload_n C dX10_stopFor_10 rfl ?_
    refine r_iload_n C dX10_stopFor_11 rfl ?_
    refine r_sipush C (v := 5000) dX10_stopFor_12 (by decide) ?_
    refine cV (ci := 10) C hx (sX10_getsStopping (d := d - 1) (by omega) j 5000 I I J b hN hv hj (by decide) FrM.rf) moX10_getsStopping mlX10_291 miX10_getsStopping msX10_getsStopping dX10_stopFor_15 rfl rfl rfl rfl rfl (by omega) rfl rfl (ki (fun v_15_3 I_15_3 q_15_3 => ?_))
    obtain ⟨rfl, hF2⟩ := q_15_3
    refine r_istore_n C dX10_stopFor_18 rfl rfl ?_
    refine r_iconst C (v := 0) dX10_stopFor_19 (by decide) ?_
    refine r_istore_n C dX10_stopFor_20 rfl rfl ?_
    by_cases e : (I 64 9).toInt = 0
    · exact loop j hj hkj 99 0 _ (Or.inl ⟨by rw [e]; decide, by rw [show (0 : Int32).toInt = 0 from rfl]; omega⟩) hF2 (by rw [if_pos e])
    · exact loop j hj hkj 100 0 _ (Or.inr ⟨rfl, rfl, by omega⟩) hF2 (by rw [if_neg e])
  · refine r_iconst C (v := -1) dX10_stopFor_8 (by decide) ?_
    exact ri C Z dX10_stopFor_9 (show (_ ∨ _) from Or.inl ⟨by assumption, rfl, rfl⟩)
