/-- the lines of a text, from part k on -/
def prF (nm code ends asks : Nat → Int32) : Nat → Nat → Nat → Bool → Int32
  | 0, _, _, _ => 0
  | n + 1, k, p, c => if ¬ asks k = 0 then prF nm code ends asks n (k + 1) (ix (ends k)) (decide (¬ wkF nm code p (ix (ends k)) = 0))
    else if c then imax 0 (imin 99 (wkF nm code p (ix (ends k)))) else prF nm code ends asks n (k + 1) (ix (ends k)) true
/-- where the law's text lies -/
def tbL (b : Bool) : Nat := if b then 5 else 10
/-- how much straw j wants at level l, having drawn t seconds -/
def wantF (I : Is) (b : Bool) (j : Nat) (l t : Int32) : Int32 :=
  if I (tbL b) 4 = 0 then imax 0 (imin 99 (plainF (I 2) j t)) else prF (nmF (I 2) j l t) (I (tbL b + 1)) (I (tbL b + 2)) (I (tbL b + 3)) (ix (I (tbL b) 4)) 0 0 true
/-- a text's parts lie within its rows -/
def TW (I : Is) (b : Bool) : Prop := (0 ≤ (I (tbL b) 4).toInt ∧ (I (tbL b) 4).toInt ≤ 120) ∧ ∀ k : Nat, (k : Int) < (I (tbL b) 4).toInt → 0 ≤ (I (tbL b + 2) k).toInt ∧ (I (tbL b + 2) k).toInt ≤ 120
theorem wantF_congr {I I' : Is} {b : Bool} (h : Fr [14, 15] I I') (j : Nat) (l t : Int32) : wantF I' b j l t = wantF I b j l t := by
  unfold wantF
  cases b <;> (show (if I' _ 4 = 0 then _ else _) = _) <;> rw [h 2 (by decide)]
  · show (if I' 10 4 = 0 then _ else prF _ (I' 11) (I' 12) (I' 13) (ix (I' 10 4)) 0 0 true) = _
    rw [h 10 (by decide), h 11 (by decide), h 12 (by decide), h 13 (by decide)]
    rfl
  · show (if I' 5 4 = 0 then _ else prF _ (I' 6) (I' 7) (I' 8) (ix (I' 5 4)) 0 0 true) = _
    rw [h 5 (by decide), h 6 (by decide), h 7 (by decide), h 8 (by decide)]
    rfl
theorem nil_ne {x : Int32} (h : ¬ x = 0) (h0 : 0 ≤ x.toInt) : 1 ≤ x.toInt := by
  have := ne_int h
  have e : (0 : Int32).toInt = 0 := rfl
  omega
set_option maxRecDepth 100000 in
set_option maxHeartbeats 400000 in
theorem sX2_want_false {g : Gb} {d : Nat} (hd : 3 ≤ d) (j : Nat) (hj : j < 3) (l t : Int32) (I : Is) (J : Js) (hti : 1 ≤ (I 2 (8 * j + 3)).toInt) (hTW : TW I false) : MC9 g d mX2_want [.ref 9, .int (nI j), .int l, .int t] I J false (Qi J false (fun v I' => v = wantF I false j l t ∧ Fr [14, 15] I I')) := by
  refine ent9 (own := RX2) rfl rfl rfl (fun X hg hx C Z => ?_)
  subst hg
  obtain ⟨⟨hp0, hp1⟩, hen⟩ := hTW
  have hp0 : 0 ≤ (I 10 4).toInt := hp0
  have hp1 : (I 10 4).toInt ≤ 120 := hp1
  have hen : ∀ k : Nat, (k : Int) < (I 10 4).toInt → 0 ≤ (I 12 k).toInt ∧ (I 12 k).toInt ≤ 120 := hen
  generalize hnmd : nmF (I 2) j l t = nm
  have loop : ∀ (m k p' : Nat) (cz fr pa : Int32) (c : Bool) (I' : Is) (x7 : Option Value), (m : Int) = (I 10 4).toInt - k → pa.toInt = (k : Int) → fr.toInt = (p' : Int) → p' ≤ 120 → (cz = 0 ↔ c = false) → (∀ k, k < 6 → I' 14 k = nm k) → Fr [14, 15] I I' → wantF I false j l t = prF nm (I 11) (I 12) (I 13) m k p' c →
      Aw X 36 [some (.ref 9), some (.int (nI j)), some (.int l), some (.int t), some (.int cz), some (.int fr), some (.int pa), x7] [] (st9 I' J false) := by
    intro m
    induction m with
    | zero =>
      intro k p' cz fr pa c I' x7 hm hpa hfr hp9 hcz hnm' hFr hv
      have r0 : I' 10 = I 10 := hFr 10 (by decide)
      refine r_iload C dX2_want_36 rfl ?_
      refine r_aload_n C dX2_want_38 rfl ?_
      refine r_getR C flX2_12 dX2_want_39 rfl rfl rfl ?_
      refine r_getI C flX2_31 dX2_want_42 rfl rfl ?_
      refine b_icge C (tgt := 124) rfl rfl dX2_want_45 rfl (fun h45_1 => ?_) (fun h45_1 => ?_)
      · refine r_iconst C (v := 0) dX2_want_124 (by decide) ?_
        exact ri C Z dX2_want_125 ⟨by rw [hv]; rfl, hFr⟩
      · exfalso; rw [r0] at *; omega
    | succ m ih =>
      intro k p' cz fr pa c I' x7 hm hpa hfr hp9 hcz hnm' hFr hv
      have r0 : I' 10 = I 10 := hFr 10 (by decide)
      have r1 : I' 11 = I 11 := hFr 11 (by decide)
      have r2 : I' 12 = I 12 := hFr 12 (by decide)
      have r3 : I' 13 = I 13 := hFr 13 (by decide)
      obtain ⟨q0, q1⟩ := hen k (by omega)
      have hix : ix pa = k := ix_of hpa
      have hto : (I' 12 k).toInt = ((ix (I' 12 k) : Nat) : Int) := by rw [r2]; exact (ix_nn q0).symm
      have hto9 : ix (I' 12 k) ≤ 120 := by have := ix_nn q0; rw [r2]; omega
      have hpr : prF nm (I 11) (I 12) (I 13) (m + 1) k p' c = (if ¬ I 13 k = 0 then prF nm (I 11) (I 12) (I 13) m (k + 1) (ix (I 12 k)) (decide (¬ wkF nm (I 11) p' (ix (I 12 k)) = 0)) else if c then imax 0 (imin 99 (wkF nm (I 11) p' (ix (I 12 k)))) else prF nm (I 11) (I 12) (I 13) m (k + 1) (ix (I 12 k)) true) := rfl
      rw [hpr] at hv
      clear hpr
      have oi := one_int
      have hpa2 : (pa + 1).toInt = ((k + 1 : Nat) : Int) := by rw [tI_add (by omega) (by omega)]; omega
      have hp' := hfr
      refine r_iload C dX2_want_36 rfl ?_
      refine r_aload_n C dX2_want_38 rfl ?_
      refine r_getR C flX2_12 dX2_want_39 rfl rfl rfl ?_
      refine r_getI C flX2_31 dX2_want_42 rfl rfl ?_
      refine b_icge C (tgt := 124) rfl rfl dX2_want_45 rfl (fun h45_1 => ?_) (fun h45_1 => ?_)
      · exfalso; rw [r0] at *; omega
      · refine r_aload_n C dX2_want_48 rfl ?_
        refine r_getR C flX2_12 dX2_want_49 rfl rfl rfl ?_
        refine r_getR C flX2_47 dX2_want_52 rfl rfl rfl ?_
        refine r_iload C dX2_want_55 rfl ?_
        refine r_iald C rfl dX2_want_57 (vin (by omega) (show pa.toInt < 120 by omega)) ?_
        rw [hix]
        refine r_istore C dX2_want_58 rfl rfl ?_
        refine r_aload_n C dX2_want_60 rfl ?_
        refine r_getR C flX2_12 dX2_want_61 rfl rfl rfl ?_
        refine r_getR C flX2_50 dX2_want_64 rfl rfl rfl ?_
        refine r_iload C dX2_want_67 rfl ?_
        refine r_zald C rfl dX2_want_69 (vin (by omega) (show pa.toInt < 120 by omega)) ?_
        rw [hix]
        refine r_ifeq C (tgt := 94) dX2_want_70 rfl (fun h70_2 => ?_) (fun h70_2 => ?_)
        · refine r_iload C dX2_want_94 rfl ?_
          refine r_ifeq C (tgt := 111) dX2_want_96 rfl (fun h96_3 => ?_) (fun h96_3 => ?_)
          · refine r_iconst C (v := 1) dX2_want_111 (by decide) ?_
            refine r_istore C dX2_want_112 rfl rfl ?_
            refine r_iload C dX2_want_114 rfl ?_
            refine r_istore C dX2_want_116 rfl rfl ?_
            refine r_iinc C (v := 1) dX2_want_118 rfl (by decide) rfl ?_
            refine r_goto C (tgt := 36) dX2_want_121 rfl ?_
            have hk := ‹I' 13 k = 0›
            rw [r3] at hk
            have hcf : c = false := hcz.mp (by assumption)
            rw [if_neg (fun z => z hk), hcf, if_neg (by decide)] at hv
            exact ih (k + 1) (ix (I 12 k)) _ _ _ true _ _ (by omega) hpa2 (by rw [← r2]; exact hto) (by rw [← r2]; exact hto9) ⟨fun e => absurd e (by decide), fun e => absurd e (by decide)⟩ hnm' hFr hv
          · refine r_aload_n C dX2_want_99 rfl ?_
            refine r_iload C dX2_want_100 rfl ?_
            refine r_iload C dX2_want_102 rfl ?_
            refine cV (ci := 2) C hx (sX2_workedOut_false (d := d - 1) (by omega) nm p' (ix (I' 12 k)) _ _ hp' hto hp9 hto9 I' J hnm') moX2_workedOut mlX2_54 miX2_workedOut msX2_workedOut dX2_want_104 rfl rfl rfl rfl rfl (by omega) rfl rfl (ki (fun v_104_4 I_104_4 q_104_4 => ?_))
            refine cS C hx (sX2_held (d := d - 1) (by omega) _ _ J false) moX2_held mlX2_39 mtX2_held dX2_want_107 rfl rfl (by omega) rfl rfl (kp ?_)
            exact ri C Z dX2_want_110 ⟨by
        have hk := ‹I' 13 k = 0›
        rw [r3] at hk
        have hct : c = true := by cases c with | true => rfl | false => exact absurd (hcz.mpr rfl) (by assumption)
        obtain ⟨qv, qF⟩ := q_104_4
        rw [r1, r2] at qv
        rw [if_neg (fun z => z hk), hct, if_pos rfl] at hv
        rw [hv, qv], hFr.tr q_104_4.2 (by decide) (by decide)⟩
        · refine r_aload_n C dX2_want_73 rfl ?_
          refine r_iload C dX2_want_74 rfl ?_
          refine r_iload C dX2_want_76 rfl ?_
          refine cV (ci := 2) C hx (sX2_workedOut_false (d := d - 1) (by omega) nm p' (ix (I' 12 k)) _ _ hp' hto hp9 hto9 I' J hnm') moX2_workedOut mlX2_54 miX2_workedOut msX2_workedOut dX2_want_78 rfl rfl rfl rfl rfl (by omega) rfl rfl (ki (fun v_78_6 I_78_6 q_78_6 => ?_))
          refine r_ifeq C (tgt := 88) dX2_want_81 rfl (fun h81_7 => ?_) (fun h81_7 => ?_)
          · refine r_iconst C (v := 0) dX2_want_88 (by decide) ?_
            refine r_istore C dX2_want_89 rfl rfl ?_
            refine r_goto C (tgt := 114) dX2_want_91 rfl ?_
            refine r_iload C dX2_want_114 rfl ?_
            refine r_istore C dX2_want_116 rfl rfl ?_
            refine r_iinc C (v := 1) dX2_want_118 rfl (by decide) rfl ?_
            refine r_goto C (tgt := 36) dX2_want_121 rfl ?_
            have hk := ‹¬ I' 13 k = 0›
            rw [r3] at hk
            rw [if_pos hk] at hv
            obtain ⟨qv, qF⟩ := q_78_6
            rw [r1, r2] at qv
            rw [qv] at h81_7
            refine ih (k + 1) (ix (I 12 k)) _ _ _ (decide (¬ wkF nm (I 11) p' (ix (I 12 k)) = 0)) _ _ (by omega) hpa2 (by rw [← r2]; exact hto) (by rw [← r2]; exact hto9) ?_ (fun a ha => by rw [qF 14 (by decide)]; exact hnm' a ha) (hFr.tr qF (by decide) (by decide)) hv
            rw [h81_7]; decide
          · refine r_iconst C (v := 1) dX2_want_84 (by decide) ?_
            refine r_goto C (tgt := 89) dX2_want_85 rfl ?_
            refine r_istore C dX2_want_89 rfl rfl ?_
            refine r_goto C (tgt := 114) dX2_want_91 rfl ?_
            refine r_iload C dX2_want_114 rfl ?_
            refine r_istore C dX2_want_116 rfl rfl ?_
            refine r_iinc C (v := 1) dX2_want_118 rfl (by decide) rfl ?_
            refine r_goto C (tgt := 36) dX2_want_121 rfl ?_
            have hk := ‹¬ I' 13 k = 0›
            rw [r3] at hk
            rw [if_pos hk] at hv
            obtain ⟨qv, qF⟩ := q_78_6
            rw [r1, r2] at qv
            rw [qv] at h81_7
            refine ih (k + 1) (ix (I 12 k)) _ _ _ (decide (¬ wkF nm (I 11) p' (ix (I 12 k)) = 0)) _ _ (by omega) hpa2 (by rw [← r2]; exact hto) (by rw [← r2]; exact hto9) ?_ (fun a ha => by rw [qF 14 (by decide)]; exact hnm' a ha) (hFr.tr qF (by decide) (by decide)) hv
            exact ⟨fun e => absurd e (by decide), fun e => absurd h81_7 (by simpa using e)⟩
  refine r_aload_n C dX2_want_0 rfl ?_
  refine r_getR C flX2_12 dX2_want_1 rfl rfl rfl ?_
  refine r_getI C flX2_31 dX2_want_4 rfl rfl ?_
  refine r_ifne C (tgt := 20) dX2_want_7 rfl (fun h7_1 => ?_) (fun h7_1 => ?_)
  · refine r_aload_n C dX2_want_20 rfl ?_
    refine r_iload_n C dX2_want_21 rfl ?_
    refine r_iload_n C dX2_want_22 rfl ?_
    refine r_iload_n C dX2_want_23 rfl ?_
    refine cV (ci := 2) C hx (sX2_setNames (d := d - 1) (by omega) j hj _ _ I J false) moX2_setNames mlX2_43 miX2_setNames msX2_setNames dX2_want_24 rfl rfl rfl rfl rfl (by omega) rfl rfl (kv (fun I_24_2 q_24_2 => ?_))
    refine r_iconst C (v := 1) dX2_want_27 (by decide) ?_
    refine r_istore C dX2_want_28 rfl rfl ?_
    refine r_iconst C (v := 0) dX2_want_30 (by decide) ?_
    refine r_istore C dX2_want_31 rfl rfl ?_
    refine r_iconst C (v := 0) dX2_want_33 (by decide) ?_
    refine r_istore C dX2_want_34 rfl rfl ?_
    obtain ⟨sn, sF⟩ := q_24_2
    exact loop (ix (I 10 4)) 0 0 1 0 0 true I_24_2 none (by rw [ix_nn hp0]; simp) rfl rfl (by omega) ⟨fun e => absurd e (by decide), fun e => absurd e (by decide)⟩ (fun a ha => by rw [← hnmd]; exact sn a ha) (sF.mo (by decide)) (by
      unfold wantF
      rw [hnmd]
      exact if_neg (by assumption))
  · refine r_aload_n C dX2_want_10 rfl ?_
    refine r_iload_n C dX2_want_11 rfl ?_
    refine r_iload_n C dX2_want_12 rfl ?_
    refine cV (ci := 2) C hx (sX2_plain (d := d - 1) (by omega) j hj _ I J false hti) moX2_plain mlX2_35 miX2_plain msX2_plain dX2_want_13 rfl rfl rfl rfl rfl (by omega) rfl rfl (kp ?_)
    refine cS C hx (sX2_held (d := d - 1) (by omega) _ _ J false) moX2_held mlX2_39 mtX2_held dX2_want_16 rfl rfl (by omega) rfl rfl (kp ?_)
    exact ri C Z dX2_want_19 ⟨by unfold wantF; exact (if_pos (by assumption)).symm, Fr.rf⟩
set_option maxRecDepth 100000 in
set_option maxHeartbeats 400000 in
theorem sX2_want_true {g : Gb} {d : Nat} (hd : 3 ≤ d) (j : Nat) (hj : j < 3) (l t : Int32) (I : Is) (J : Js) (hti : 1 ≤ (I 2 (8 * j + 3)).toInt) (hTW : TW I true) : MC9 g d mX2_want [.ref 9, .int (nI j), .int l, .int t] I J true (Qi J true (fun v I' => v = wantF I true j l t ∧ Fr [14, 15] I I')) := by
  refine ent9 (own := RX2) rfl rfl rfl (fun X hg hx C Z => ?_)
  subst hg
  obtain ⟨⟨hp0, hp1⟩, hen⟩ := hTW
  have hp0 : 0 ≤ (I 5 4).toInt := hp0
  have hp1 : (I 5 4).toInt ≤ 120 := hp1
  have hen : ∀ k : Nat, (k : Int) < (I 5 4).toInt → 0 ≤ (I 7 k).toInt ∧ (I 7 k).toInt ≤ 120 := hen
  generalize hnmd : nmF (I 2) j l t = nm
  have loop : ∀ (m k p' : Nat) (cz fr pa : Int32) (c : Bool) (I' : Is) (x7 : Option Value), (m : Int) = (I 5 4).toInt - k → pa.toInt = (k : Int) → fr.toInt = (p' : Int) → p' ≤ 120 → (cz = 0 ↔ c = false) → (∀ k, k < 6 → I' 14 k = nm k) → Fr [14, 15] I I' → wantF I true j l t = prF nm (I 6) (I 7) (I 8) m k p' c →
      Aw X 36 [some (.ref 9), some (.int (nI j)), some (.int l), some (.int t), some (.int cz), some (.int fr), some (.int pa), x7] [] (st9 I' J true) := by
    intro m
    induction m with
    | zero =>
      intro k p' cz fr pa c I' x7 hm hpa hfr hp9 hcz hnm' hFr hv
      have r0 : I' 5 = I 5 := hFr 5 (by decide)
      refine r_iload C dX2_want_36 rfl ?_
      refine r_aload_n C dX2_want_38 rfl ?_
      refine r_getR C flX2_12 dX2_want_39 rfl rfl rfl ?_
      refine r_getI C flX2_31 dX2_want_42 rfl rfl ?_
      refine b_icge C (tgt := 124) rfl rfl dX2_want_45 rfl (fun h45_1 => ?_) (fun h45_1 => ?_)
      · refine r_iconst C (v := 0) dX2_want_124 (by decide) ?_
        exact ri C Z dX2_want_125 ⟨by rw [hv]; rfl, hFr⟩
      · exfalso; rw [r0] at *; omega
    | succ m ih =>
      intro k p' cz fr pa c I' x7 hm hpa hfr hp9 hcz hnm' hFr hv
      have r0 : I' 5 = I 5 := hFr 5 (by decide)
      have r1 : I' 6 = I 6 := hFr 6 (by decide)
      have r2 : I' 7 = I 7 := hFr 7 (by decide)
      have r3 : I' 8 = I 8 := hFr 8 (by decide)
      obtain ⟨q0, q1⟩ := hen k (by omega)
      have hix : ix pa = k := ix_of hpa
      have hto : (I' 7 k).toInt = ((ix (I' 7 k) : Nat) : Int) := by rw [r2]; exact (ix_nn q0).symm
      have hto9 : ix (I' 7 k) ≤ 120 := by have := ix_nn q0; rw [r2]; omega
      have hpr : prF nm (I 6) (I 7) (I 8) (m + 1) k p' c = (if ¬ I 8 k = 0 then prF nm (I 6) (I 7) (I 8) m (k + 1) (ix (I 7 k)) (decide (¬ wkF nm (I 6) p' (ix (I 7 k)) = 0)) else if c then imax 0 (imin 99 (wkF nm (I 6) p' (ix (I 7 k)))) else prF nm (I 6) (I 7) (I 8) m (k + 1) (ix (I 7 k)) true) := rfl
      rw [hpr] at hv
      clear hpr
      have oi := one_int
      have hpa2 : (pa + 1).toInt = ((k + 1 : Nat) : Int) := by rw [tI_add (by omega) (by omega)]; omega
      have hp' := hfr
      refine r_iload C dX2_want_36 rfl ?_
      refine r_aload_n C dX2_want_38 rfl ?_
      refine r_getR C flX2_12 dX2_want_39 rfl rfl rfl ?_
      refine r_getI C flX2_31 dX2_want_42 rfl rfl ?_
      refine b_icge C (tgt := 124) rfl rfl dX2_want_45 rfl (fun h45_1 => ?_) (fun h45_1 => ?_)
      · exfalso; rw [r0] at *; omega
      · refine r_aload_n C dX2_want_48 rfl ?_
        refine r_getR C flX2_12 dX2_want_49 rfl rfl rfl ?_
        refine r_getR C flX2_47 dX2_want_52 rfl rfl rfl ?_
        refine r_iload C dX2_want_55 rfl ?_
        refine r_iald C rfl dX2_want_57 (vin (by omega) (show pa.toInt < 120 by omega)) ?_
        rw [hix]
        refine r_istore C dX2_want_58 rfl rfl ?_
        refine r_aload_n C dX2_want_60 rfl ?_
        refine r_getR C flX2_12 dX2_want_61 rfl rfl rfl ?_
        refine r_getR C flX2_50 dX2_want_64 rfl rfl rfl ?_
        refine r_iload C dX2_want_67 rfl ?_
        refine r_zald C rfl dX2_want_69 (vin (by omega) (show pa.toInt < 120 by omega)) ?_
        rw [hix]
        refine r_ifeq C (tgt := 94) dX2_want_70 rfl (fun h70_2 => ?_) (fun h70_2 => ?_)
        · refine r_iload C dX2_want_94 rfl ?_
          refine r_ifeq C (tgt := 111) dX2_want_96 rfl (fun h96_3 => ?_) (fun h96_3 => ?_)
          · refine r_iconst C (v := 1) dX2_want_111 (by decide) ?_
            refine r_istore C dX2_want_112 rfl rfl ?_
            refine r_iload C dX2_want_114 rfl ?_
            refine r_istore C dX2_want_116 rfl rfl ?_
            refine r_iinc C (v := 1) dX2_want_118 rfl (by decide) rfl ?_
            refine r_goto C (tgt := 36) dX2_want_121 rfl ?_
            have hk := ‹I' 8 k = 0›
            rw [r3] at hk
            have hcf : c = false := hcz.mp (by assumption)
            rw [if_neg (fun z => z hk), hcf, if_neg (by decide)] at hv
            exact ih (k + 1) (ix (I 7 k)) _ _ _ true _ _ (by omega) hpa2 (by rw [← r2]; exact hto) (by rw [← r2]; exact hto9) ⟨fun e => absurd e (by decide), fun e => absurd e (by decide)⟩ hnm' hFr hv
          · refine r_aload_n C dX2_want_99 rfl ?_
            refine r_iload C dX2_want_100 rfl ?_
            refine r_iload C dX2_want_102 rfl ?_
            refine cV (ci := 2) C hx (sX2_workedOut_true (d := d - 1) (by omega) nm p' (ix (I' 7 k)) _ _ hp' hto hp9 hto9 I' J hnm') moX2_workedOut mlX2_54 miX2_workedOut msX2_workedOut dX2_want_104 rfl rfl rfl rfl rfl (by omega) rfl rfl (ki (fun v_104_4 I_104_4 q_104_4 => ?_))
            refine cS C hx (sX2_held (d := d - 1) (by omega) _ _ J true) moX2_held mlX2_39 mtX2_held dX2_want_107 rfl rfl (by omega) rfl rfl (kp ?_)
            exact ri C Z dX2_want_110 ⟨by
        have hk := ‹I' 8 k = 0›
        rw [r3] at hk
        have hct : c = true := by cases c with | true => rfl | false => exact absurd (hcz.mpr rfl) (by assumption)
        obtain ⟨qv, qF⟩ := q_104_4
        rw [r1, r2] at qv
        rw [if_neg (fun z => z hk), hct, if_pos rfl] at hv
        rw [hv, qv], hFr.tr q_104_4.2 (by decide) (by decide)⟩
        · refine r_aload_n C dX2_want_73 rfl ?_
          refine r_iload C dX2_want_74 rfl ?_
          refine r_iload C dX2_want_76 rfl ?_
          refine cV (ci := 2) C hx (sX2_workedOut_true (d := d - 1) (by omega) nm p' (ix (I' 7 k)) _ _ hp' hto hp9 hto9 I' J hnm') moX2_workedOut mlX2_54 miX2_workedOut msX2_workedOut dX2_want_78 rfl rfl rfl rfl rfl (by omega) rfl rfl (ki (fun v_78_6 I_78_6 q_78_6 => ?_))
          refine r_ifeq C (tgt := 88) dX2_want_81 rfl (fun h81_7 => ?_) (fun h81_7 => ?_)
          · refine r_iconst C (v := 0) dX2_want_88 (by decide) ?_
            refine r_istore C dX2_want_89 rfl rfl ?_
            refine r_goto C (tgt := 114) dX2_want_91 rfl ?_
            refine r_iload C dX2_want_114 rfl ?_
            refine r_istore C dX2_want_116 rfl rfl ?_
            refine r_iinc C (v := 1) dX2_want_118 rfl (by decide) rfl ?_
            refine r_goto C (tgt := 36) dX2_want_121 rfl ?_
            have hk := ‹¬ I' 8 k = 0›
            rw [r3] at hk
            rw [if_pos hk] at hv
            obtain ⟨qv, qF⟩ := q_78_6
            rw [r1, r2] at qv
            rw [qv] at h81_7
            refine ih (k + 1) (ix (I 7 k)) _ _ _ (decide (¬ wkF nm (I 6) p' (ix (I 7 k)) = 0)) _ _ (by omega) hpa2 (by rw [← r2]; exact hto) (by rw [← r2]; exact hto9) ?_ (fun a ha => by rw [qF 14 (by decide)]; exact hnm' a ha) (hFr.tr qF (by decide) (by decide)) hv
            rw [h81_7]; decide
          · refine r_iconst C (v := 1) dX2_want_84 (by decide) ?_
            refine r_goto C (tgt := 89) dX2_want_85 rfl ?_
            refine r_istore C dX2_want_89 rfl rfl ?_
            refine r_goto C (tgt := 114) dX2_want_91 rfl ?_
            refine r_iload C dX2_want_114 rfl ?_
            refine r_istore C dX2_want_116 rfl rfl ?_
            refine r_iinc C (v := 1) dX2_want_118 rfl (by decide) rfl ?_
            refine r_goto C (tgt := 36) dX2_want_121 rfl ?_
            have hk := ‹¬ I' 8 k = 0›
            rw [r3] at hk
            rw [if_pos hk] at hv
            obtain ⟨qv, qF⟩ := q_78_6
            rw [r1, r2] at qv
            rw [qv] at h81_7
            refine ih (k + 1) (ix (I 7 k)) _ _ _ (decide (¬ wkF nm (I 6) p' (ix (I 7 k)) = 0)) _ _ (by omega) hpa2 (by rw [← r2]; exact hto) (by rw [← r2]; exact hto9) ?_ (fun a ha => by rw [qF 14 (by decide)]; exact hnm' a ha) (hFr.tr qF (by decide) (by decide)) hv
            exact ⟨fun e => absurd e (by decide), fun e => absurd h81_7 (by simpa using e)⟩
  refine r_aload_n C dX2_want_0 rfl ?_
  refine r_getR C flX2_12 dX2_want_1 rfl rfl rfl ?_
  refine r_getI C flX2_31 dX2_want_4 rfl rfl ?_
  refine r_ifne C (tgt := 20) dX2_want_7 rfl (fun h7_1 => ?_) (fun h7_1 => ?_)
  · refine r_aload_n C dX2_want_20 rfl ?_
    refine r_iload_n C dX2_want_21 rfl ?_
    refine r_iload_n C dX2_want_22 rfl ?_
    refine r_iload_n C dX2_want_23 rfl ?_
    refine cV (ci := 2) C hx (sX2_setNames (d := d - 1) (by omega) j hj _ _ I J true) moX2_setNames mlX2_43 miX2_setNames msX2_setNames dX2_want_24 rfl rfl rfl rfl rfl (by omega) rfl rfl (kv (fun I_24_2 q_24_2 => ?_))
    refine r_iconst C (v := 1) dX2_want_27 (by decide) ?_
    refine r_istore C dX2_want_28 rfl rfl ?_
    refine r_iconst C (v := 0) dX2_want_30 (by decide) ?_
    refine r_istore C dX2_want_31 rfl rfl ?_
    refine r_iconst C (v := 0) dX2_want_33 (by decide) ?_
    refine r_istore C dX2_want_34 rfl rfl ?_
    obtain ⟨sn, sF⟩ := q_24_2
    exact loop (ix (I 5 4)) 0 0 1 0 0 true I_24_2 none (by rw [ix_nn hp0]; simp) rfl rfl (by omega) ⟨fun e => absurd e (by decide), fun e => absurd e (by decide)⟩ (fun a ha => by rw [← hnmd]; exact sn a ha) (sF.mo (by decide)) (by
      unfold wantF
      rw [hnmd]
      exact if_neg (by assumption))
  · refine r_aload_n C dX2_want_10 rfl ?_
    refine r_iload_n C dX2_want_11 rfl ?_
    refine r_iload_n C dX2_want_12 rfl ?_
    refine cV (ci := 2) C hx (sX2_plain (d := d - 1) (by omega) j hj _ I J true hti) moX2_plain mlX2_35 miX2_plain msX2_plain dX2_want_13 rfl rfl rfl rfl rfl (by omega) rfl rfl (kp ?_)
    refine cS C hx (sX2_held (d := d - 1) (by omega) _ _ J true) moX2_held mlX2_39 mtX2_held dX2_want_16 rfl rfl (by omega) rfl rfl (kp ?_)
    exact ri C Z dX2_want_19 ⟨by unfold wantF; exact (if_pos (by assumption)).symm, Fr.rf⟩
theorem sX2_want {g : Gb} {d : Nat} (hd : 3 ≤ d) (j : Nat) (hj : j < 3) (l t : Int32) (I : Is) (J : Js) (b : Bool) (hti : 1 ≤ (I 2 (8 * j + 3)).toInt) (hTW : TW I b) : MC9 g d mX2_want [.ref 9, .int (nI j), .int l, .int t] I J b (Qi J b (fun v I' => v = wantF I b j l t ∧ Fr [14, 15] I I')) := by
  cases b
  · exact sX2_want_false hd j hj l t I J hti hTW
  · exact sX2_want_true hd j hj l t I J hti hTW
