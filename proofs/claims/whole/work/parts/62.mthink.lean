/-- the reference's glass in thought, what it goes by, its glass on the table -/
def gvM (I : Is) : GV := (I 64 21, I 64 22, I 64 23, I 73, I 74, (fun k => I 74 k * swF (I 65) k), I 75)
def enM (I : Is) : EV := (ix (I 64 6), I 65, wtM I)
def gvT (I : Is) : GV := (I 64 7, I 64 8, I 64 9, I 69, I 81, I 82, I 83)
def ptM (I : Is) : Nat → Bool := bitM (I 64 28)
def hcM (I : Is) : Nat → Bool := bitM (I 64 30)
def frM (I : Is) : Nat → Bool := fun _ => decide (¬ I 64 29 = 0)
/-- the reference's numbers lie within their ranges -/
def NM (I : Is) : Prop := NW (I 64 6) (I 65) ∧ (I 64 14).toInt ≤ 120
theorem enM_ok {I : Is} (h : NM I) : EvOk (enM I) := by
  obtain ⟨⟨h0, h3, hs, hm, -, hg, -⟩, -⟩ := h
  have e : ((ix (I 64 6) : Nat) : Int) = (I 64 6).toInt := ix_nn h0
  refine ⟨by show ix (I 64 6) ≤ 3; omega, fun k hk => ?_, hm, hg, fun j l t => ?_⟩
  · have hk : k < ix (I 64 6) := hk
    have := hs k (by omega)
    exact ⟨this.2.2.1, this.2.2.2.2.1, this.2.2.2.2.2.1⟩
  · show 0 ≤ (wtM I j l t).toInt ∧ (wtM I j l t).toInt ≤ 99
    unfold wtM
    by_cases c : 0 ≤ (I 64 14).toInt
    · rw [if_pos c]; exact held_rng _
    · rw [if_neg c]; exact held_rng _
theorem enM_fr {I I' : Is} {l f : List Nat} (h : FrM l f I I') (h1 : 65 ∉ l) (h2 : 71 ∉ l) (h3 : 6 ∉ f) (h4 : 14 ∉ f) : enM I' = enM I := by
  have e65 : I' 65 = I 65 := h.1 65 (by decide) h1
  unfold enM
  rw [wtM_congr e65 (h.1 71 (by decide) h2) (h.2 14 h4), e65, h.2 6 h3]
theorem NM_fr {I I' : Is} {l f : List Nat} (h : FrM l f I I') (h1 : 65 ∉ l) (h3 : 6 ∉ f) (h4 : 14 ∉ f) (hN : NM I) : NM I' := by
  unfold NM
  rw [h.1 65 (by decide) h1, h.2 6 h3, h.2 14 h4]
  exact hN
set_option maxRecDepth 100000 in
set_option maxHeartbeats 400000 in
theorem sX10_draws {g : Gb} {d : Nat} (hd : 1 ≤ d) (j : Nat) (hj : j < 3) (I : Is) (J : Js) (b : Bool) (he : 1 ≤ (I 65 (8 * j + 4)).toInt ∧ (I 65 (8 * j + 4)).toInt ≤ 60) (hr : 0 ≤ (I 65 (8 * j + 5)).toInt ∧ (I 65 (8 * j + 5)).toInt ≤ 60) : MC9 g d mX10_draws [.ref 64, .int (nI j)] I J b (Qp (bI (pdF (enM I) (ptM I) (frM I) (gvM I) j = true)) I J b) := by
  refine ent9 (own := RX10) rfl rfl rfl (fun X hg hx C Z => ?_)
  subst hg
  refine r_aload_n C dX10_draws_0 rfl ?_
  refine r_getI C flX10_237 dX10_draws_1 rfl rfl ?_
  refine r_ifne C (tgt := 25) dX10_draws_4 rfl (fun h4_1 => ?_) (fun h4_1 => ?_)
  · refine r_iconst C (v := 0) dX10_draws_25 (by decide) ?_
    refine r_istore_n C dX10_draws_26 rfl rfl ?_
    refine r_aload_n C dX10_draws_27 rfl ?_
    refine r_getI C flX10_234 dX10_draws_28 rfl rfl ?_
    refine r_iload_n C dX10_draws_31 rfl ?_
    refine cS C hx (sX10_isIn (d := d - 1) (by omega) (I 64 28) j I J b) moX10_isIn mlX10_244 mtX10_isIn dX10_draws_32 rfl rfl (by omega) rfl rfl (kp ?_)
    refine z_ifeq C (tgt := 73) dX10_draws_35 rfl (fun h35_3 => ?_) (fun h35_3 => ?_)
    · refine r_iconst C (v := 0) dX10_draws_73 (by decide) ?_
      exact rpz C Z dX10_draws_74 rfl (bI_f (p := pdF (enM I) (ptM I) (frM I) (gvM I) j = true) (fun z => by unfold pdF at z; rw [Bool.and_eq_true] at z; exact absurd z.1 (by assumption))).symm
    · refine r_iload_n C dX10_draws_38 rfl ?_
      refine r_ifne C (tgt := 73) dX10_draws_39 rfl (fun h39_4 => ?_) (fun h39_4 => ?_)
      · exact absurd rfl (show ¬ (0 : Int32) = 0 by assumption)
      · refine r_aload_n C dX10_draws_42 rfl ?_
        refine r_getI C flX10_231 dX10_draws_43 rfl rfl ?_
        refine r_aload_n C dX10_draws_46 rfl ?_
        refine r_iload_n C dX10_draws_47 rfl ?_
        refine r_iconst C (v := 4) dX10_draws_48 (by decide) ?_
        refine cV (ci := 10) C hx (sX10_ofStraw (d := d - 1) j 4 hj (by decide) I J b) moX10_ofStraw mlX10_218 miX10_ofStraw msX10_ofStraw dX10_draws_49 rfl rfl rfl rfl rfl (by omega) rfl rfl (kp ?_)
        refine r_aload_n C dX10_draws_52 rfl ?_
        refine r_iload_n C dX10_draws_53 rfl ?_
        refine r_iconst C (v := 5) dX10_draws_54 (by decide) ?_
        refine cV (ci := 10) C hx (sX10_ofStraw (d := d - 1) j 5 hj (by decide) I J b) moX10_ofStraw mlX10_218 miX10_ofStraw msX10_ofStraw dX10_draws_55 rfl rfl rfl rfl rfl (by omega) rfl rfl (kp ?_)
        refine r_iadd C dX10_draws_58 ?_
        refine r_irem C dX10_draws_59 (fun z => by have z1 := congrArg Int32.toInt z; rw [tI_add (by omega) (by omega), show (0 : Int32).toInt = 0 from rfl] at z1; omega) ?_
        refine r_aload_n C dX10_draws_60 rfl ?_
        refine r_iload_n C dX10_draws_61 rfl ?_
        refine r_iconst C (v := 4) dX10_draws_62 (by decide) ?_
        refine cV (ci := 10) C hx (sX10_ofStraw (d := d - 1) j 4 hj (by decide) I J b) moX10_ofStraw mlX10_218 miX10_ofStraw msX10_ofStraw dX10_draws_63 rfl rfl rfl rfl rfl (by omega) rfl rfl (kp ?_)
        refine b_icge C (tgt := 73) rfl rfl dX10_draws_66 rfl (fun h66_8 => ?_) (fun h66_8 => ?_)
        · refine r_iconst C (v := 0) dX10_draws_73 (by decide) ?_
          exact rpz C Z dX10_draws_74 rfl (bI_f (p := pdF (enM I) (ptM I) (frM I) (gvM I) j = true) (fun z => by unfold pdF at z; rw [Bool.and_eq_true] at z; have z2 : (irm (I 64 23) (I 65 (8 * j + 4) + I 65 (8 * j + 5))).toInt < (I 65 (8 * j + 4)).toInt := (of_decide_eq_true z.2).2; unfold irm at z2; omega)).symm
        · refine r_iconst C (v := 1) dX10_draws_69 (by decide) ?_
          refine r_goto C (tgt := 74) dX10_draws_70 rfl ?_
          exact rpz C Z dX10_draws_74 rfl (bI_t (p := pdF (enM I) (ptM I) (frM I) (gvM I) j = true) (by unfold pdF; rw [Bool.and_eq_true]; exact ⟨by assumption, decide_eq_true ⟨Or.inl (decide_eq_true (by assumption)), by assumption⟩⟩)).symm
  · refine r_aload_n C dX10_draws_7 rfl ?_
    refine r_getI C flX10_231 dX10_draws_8 rfl rfl ?_
    refine r_aload_n C dX10_draws_11 rfl ?_
    refine r_iload_n C dX10_draws_12 rfl ?_
    refine r_bipush C (v := 7) dX10_draws_13 (by decide) ?_
    refine cV (ci := 10) C hx (sX10_ofStraw (d := d - 1) j 7 hj (by decide) I J b) moX10_ofStraw mlX10_218 miX10_ofStraw msX10_ofStraw dX10_draws_15 rfl rfl rfl rfl rfl (by omega) rfl rfl (kp ?_)
    refine b_iclt C (tgt := 25) rfl rfl dX10_draws_18 rfl (fun h18_10 => ?_) (fun h18_10 => ?_)
    · refine r_iconst C (v := 0) dX10_draws_25 (by decide) ?_
      refine r_istore_n C dX10_draws_26 rfl rfl ?_
      refine r_aload_n C dX10_draws_27 rfl ?_
      refine r_getI C flX10_234 dX10_draws_28 rfl rfl ?_
      refine r_iload_n C dX10_draws_31 rfl ?_
      refine cS C hx (sX10_isIn (d := d - 1) (by omega) (I 64 28) j I J b) moX10_isIn mlX10_244 mtX10_isIn dX10_draws_32 rfl rfl (by omega) rfl rfl (kp ?_)
      refine z_ifeq C (tgt := 73) dX10_draws_35 rfl (fun h35_12 => ?_) (fun h35_12 => ?_)
      · refine r_iconst C (v := 0) dX10_draws_73 (by decide) ?_
        exact rpz C Z dX10_draws_74 rfl (bI_f (p := pdF (enM I) (ptM I) (frM I) (gvM I) j = true) (fun z => by unfold pdF at z; rw [Bool.and_eq_true] at z; exact absurd z.1 (by assumption))).symm
      · refine r_iload_n C dX10_draws_38 rfl ?_
        refine r_ifne C (tgt := 73) dX10_draws_39 rfl (fun h39_13 => ?_) (fun h39_13 => ?_)
        · exact absurd rfl (show ¬ (0 : Int32) = 0 by assumption)
        · refine r_aload_n C dX10_draws_42 rfl ?_
          refine r_getI C flX10_231 dX10_draws_43 rfl rfl ?_
          refine r_aload_n C dX10_draws_46 rfl ?_
          refine r_iload_n C dX10_draws_47 rfl ?_
          refine r_iconst C (v := 4) dX10_draws_48 (by decide) ?_
          refine cV (ci := 10) C hx (sX10_ofStraw (d := d - 1) j 4 hj (by decide) I J b) moX10_ofStraw mlX10_218 miX10_ofStraw msX10_ofStraw dX10_draws_49 rfl rfl rfl rfl rfl (by omega) rfl rfl (kp ?_)
          refine r_aload_n C dX10_draws_52 rfl ?_
          refine r_iload_n C dX10_draws_53 rfl ?_
          refine r_iconst C (v := 5) dX10_draws_54 (by decide) ?_
          refine cV (ci := 10) C hx (sX10_ofStraw (d := d - 1) j 5 hj (by decide) I J b) moX10_ofStraw mlX10_218 miX10_ofStraw msX10_ofStraw dX10_draws_55 rfl rfl rfl rfl rfl (by omega) rfl rfl (kp ?_)
          refine r_iadd C dX10_draws_58 ?_
          refine r_irem C dX10_draws_59 (fun z => by have z1 := congrArg Int32.toInt z; rw [tI_add (by omega) (by omega), show (0 : Int32).toInt = 0 from rfl] at z1; omega) ?_
          refine r_aload_n C dX10_draws_60 rfl ?_
          refine r_iload_n C dX10_draws_61 rfl ?_
          refine r_iconst C (v := 4) dX10_draws_62 (by decide) ?_
          refine cV (ci := 10) C hx (sX10_ofStraw (d := d - 1) j 4 hj (by decide) I J b) moX10_ofStraw mlX10_218 miX10_ofStraw msX10_ofStraw dX10_draws_63 rfl rfl rfl rfl rfl (by omega) rfl rfl (kp ?_)
          refine b_icge C (tgt := 73) rfl rfl dX10_draws_66 rfl (fun h66_17 => ?_) (fun h66_17 => ?_)
          · refine r_iconst C (v := 0) dX10_draws_73 (by decide) ?_
            exact rpz C Z dX10_draws_74 rfl (bI_f (p := pdF (enM I) (ptM I) (frM I) (gvM I) j = true) (fun z => by unfold pdF at z; rw [Bool.and_eq_true] at z; have z2 : (irm (I 64 23) (I 65 (8 * j + 4) + I 65 (8 * j + 5))).toInt < (I 65 (8 * j + 4)).toInt := (of_decide_eq_true z.2).2; unfold irm at z2; omega)).symm
          · refine r_iconst C (v := 1) dX10_draws_69 (by decide) ?_
            refine r_goto C (tgt := 74) dX10_draws_70 rfl ?_
            exact rpz C Z dX10_draws_74 rfl (bI_t (p := pdF (enM I) (ptM I) (frM I) (gvM I) j = true) (by unfold pdF; rw [Bool.and_eq_true]; exact ⟨by assumption, decide_eq_true ⟨Or.inr (show (I 64 23).toInt < (I 65 (8 * j + 7)).toInt by assumption), by assumption⟩⟩)).symm
    · refine r_iconst C (v := 1) dX10_draws_21 (by decide) ?_
      refine r_goto C (tgt := 26) dX10_draws_22 rfl ?_
      refine r_istore_n C dX10_draws_26 rfl rfl ?_
      refine r_aload_n C dX10_draws_27 rfl ?_
      refine r_getI C flX10_234 dX10_draws_28 rfl rfl ?_
      refine r_iload_n C dX10_draws_31 rfl ?_
      refine cS C hx (sX10_isIn (d := d - 1) (by omega) (I 64 28) j I J b) moX10_isIn mlX10_244 mtX10_isIn dX10_draws_32 rfl rfl (by omega) rfl rfl (kp ?_)
      refine z_ifeq C (tgt := 73) dX10_draws_35 rfl (fun h35_19 => ?_) (fun h35_19 => ?_)
      · refine r_iconst C (v := 0) dX10_draws_73 (by decide) ?_
        exact rpz C Z dX10_draws_74 rfl (bI_f (p := pdF (enM I) (ptM I) (frM I) (gvM I) j = true) (fun z => by unfold pdF at z; rw [Bool.and_eq_true] at z; exact absurd z.1 (by assumption))).symm
      · refine r_iload_n C dX10_draws_38 rfl ?_
        refine r_ifne C (tgt := 73) dX10_draws_39 rfl (fun h39_20 => ?_) (fun h39_20 => ?_)
        · refine r_iconst C (v := 0) dX10_draws_73 (by decide) ?_
          exact rpz C Z dX10_draws_74 rfl (bI_f (p := pdF (enM I) (ptM I) (frM I) (gvM I) j = true) (fun z => by unfold pdF at z; rw [Bool.and_eq_true] at z; exact (of_decide_eq_true z.2).1.elim (fun z3 => absurd (show I 64 29 = 0 by assumption) (of_decide_eq_true z3)) (fun z3 => by have z4 : (I 64 23).toInt < (I 65 (8 * j + 7)).toInt := z3; omega))).symm
        · exact absurd (show (1 : Int32) = 0 by assumption) (by decide)
set_option maxRecDepth 100000 in
theorem sX10_sweetOf {g : Gb} {d : Nat} (hd : 1 ≤ d) (j : Nat) (hj : j < 3) (v : Int32) (I : Is) (J : Js) (b : Bool) : MC9 g d mX10_sweetOf [.ref 64, .int (nI j), .int v] I J b (Qp (v * swF (I 65) j) I J b) := by
  refine ent9 (own := RX10) rfl rfl rfl (fun X hg hx C Z => ?_)
  subst hg
  refine r_iload_n C dX10_sweetOf_0 rfl ?_
  refine r_iconst C (v := 1) dX10_sweetOf_1 (by decide) ?_
  refine r_aload_n C dX10_sweetOf_2 rfl ?_
  refine r_iload_n C dX10_sweetOf_3 rfl ?_
  refine r_iconst C (v := 2) dX10_sweetOf_4 (by decide) ?_
  refine cV (ci := 10) C hx (sX10_ofStraw (d := d - 1) j 2 hj (by decide) I J b) moX10_ofStraw mlX10_218 miX10_ofStraw msX10_ofStraw dX10_sweetOf_5 rfl rfl rfl rfl rfl (by omega) rfl rfl (kp ?_)
  refine r_aload_n C dX10_sweetOf_8 rfl ?_
  refine r_getR C flX10_9 dX10_sweetOf_9 rfl rfl rfl ?_
  refine r_bipush C (v := 25) dX10_sweetOf_12 (by decide) ?_
  refine r_iald C rfl dX10_sweetOf_14 (vin (by decide) (by decide)) ?_
  refine b_icge C (tgt := 28) rfl rfl dX10_sweetOf_15 rfl (fun h15_2 => ?_) (fun h15_2 => ?_)
  · refine r_iconst C (v := 0) dX10_sweetOf_28 (by decide) ?_
    refine r_iadd C dX10_sweetOf_29 ?_
    refine r_imul C dX10_sweetOf_30 ?_
    exact rp C Z dX10_sweetOf_31 (congrArg (v * ·) (show _ = swF (I 65) j from by unfold swF; rw [if_neg (by exact Int.not_lt.mpr (by assumption))]; rfl))
  · refine r_aload_n C dX10_sweetOf_18 rfl ?_
    refine r_getR C flX10_9 dX10_sweetOf_19 rfl rfl rfl ?_
    refine r_bipush C (v := 26) dX10_sweetOf_22 (by decide) ?_
    refine r_iald C rfl dX10_sweetOf_24 (vin (by decide) (by decide)) ?_
    refine r_goto C (tgt := 29) dX10_sweetOf_25 rfl ?_
    refine r_iadd C dX10_sweetOf_29 ?_
    refine r_imul C dX10_sweetOf_30 ?_
    exact rp C Z dX10_sweetOf_31 (congrArg (v * ·) (show _ = swF (I 65) j from by unfold swF; rw [if_pos (by assumption)]; rfl))
set_option maxRecDepth 100000 in
set_option maxHeartbeats 400000 in
theorem sX10_begins1 {g : Gb} {d : Nat} (hd : 0 ≤ d) (I : Is) (J : Js) (b : Bool) : MC9 g d mX10_begins1 [.ref 64] I J b (Qv J b (fun I' => (EqV (gvM I') (bgF (gvT I)) ∧ I' 64 28 = 1 <<< (I 64 6 &&& 31) - 1 ∧ I' 64 29 = 0 ∧ I' 64 30 = 0 ∧ FrM [73, 74, 75] [21, 22, 23, 28, 29, 30] I I'))) := by
  refine ent9 (own := RX10) rfl rfl rfl (fun X hg hx C Z => ?_)
  subst hg
  obtain ⟨IB, hIB⟩ : ∃ IB : Is, IB = (u2 (u2 (u2 (u2 (u2 (u2 I 64 21 (I 64 7)) 64 22 (I 64 8)) 64 23 (I 64 9)) 64 28 (1 <<< (I 64 6 &&& 31) - 1)) 64 29 0) 64 30 0) := ⟨_, rfl⟩
  have hFB : FrM [] [21, 22, 23, 28, 29, 30] I IB := by rw [hIB]; exact (((((FrM.rf.sf (by decide)).sf (by decide)).sf (by decide)).sf (by decide)).sf (by decide)).sf (by decide)
  have b21 : IB 64 21 = I 64 7 := by rw [hIB]; rfl
  have b22 : IB 64 22 = I 64 8 := by rw [hIB]; rfl
  have b23 : IB 64 23 = I 64 9 := by rw [hIB]; rfl
  have b28 : IB 64 28 = 1 <<< (I 64 6 &&& 31) - 1 := by rw [hIB]; rfl
  have b29 : IB 64 29 = 0 := by rw [hIB]; rfl
  have b30 : IB 64 30 = 0 := by rw [hIB]; rfl
  have loop : ∀ (m k : Nat) (I' : Is), m + k = 3 → FrM [73, 74, 75] [] IB I' → (∀ j, j < k → I' 73 j = I 69 j ∧ I' 74 j = 0 ∧ I' 75 j = 0) → Aw X 48 [some (.ref 64), some (.int (nI k))] [] (st9 I' J b) := by
    intro m
    induction m with
    | zero =>
      intro k I' hm hF hr
      have ink : (nI k).toInt = (k : Int) := nIint (by omega)
      refine r_iload_n C dX10_begins1_48 rfl ?_
      refine r_iconst C (v := 3) dX10_begins1_49 (by decide) ?_
      refine b_icge C (tgt := 85) (my := 3) rfl rfl dX10_begins1_50 rfl (fun h50_1 => ?_) (fun h50_1 => ?_)
      · have e21 := (hF.2 21 (by decide)).trans b21
        have e22 := (hF.2 22 (by decide)).trans b22
        have e23 := (hF.2 23 (by decide)).trans b23
        have e28 := (hF.2 28 (by decide)).trans b28
        have e29 := (hF.2 29 (by decide)).trans b29
        have e30 := (hF.2 30 (by decide)).trans b30
        have hr3 : ∀ j, j < 3 → I' 73 j = I 69 j ∧ I' 74 j = 0 ∧ I' 75 j = 0 := fun j hj => hr j (by omega)
        exact rv C Z dX10_begins1_85 (show _ ∧ _ from ⟨⟨e21, e22, e23, fun k hk => (hr3 k hk).1, fun k hk => (hr3 k hk).2.1, fun k hk => by show I' 74 k * _ = 0; rw [(hr3 k hk).2.1, Int32.zero_mul], fun k hk => (hr3 k hk).2.2⟩, e28, e29, e30, hFB.tr hF (by decide) (by decide) (by decide) (by decide)⟩)
      · exfalso; omega
    | succ m ih =>
      intro k I' hm hF hr
      have ink : (nI k).toInt = (k : Int) := nIint (by omega)
      have kx : ix (nI k) = k := nIix (by omega)
      have r69 : I' 69 = I 69 := (hF.1 69 (by decide) (by decide)).trans (hFB.1 69 (by decide) (by decide))
      refine r_iload_n C dX10_begins1_48 rfl ?_
      refine r_iconst C (v := 3) dX10_begins1_49 (by decide) ?_
      refine b_icge C (tgt := 85) (my := 3) rfl rfl dX10_begins1_50 rfl (fun h50_1 => ?_) (fun h50_1 => ?_)
      · exfalso; omega
      · refine r_aload_n C dX10_begins1_53 rfl ?_
        refine r_getR C flX10_34 dX10_begins1_54 rfl rfl rfl ?_
        refine r_iload_n C dX10_begins1_57 rfl ?_
        refine r_aload_n C dX10_begins1_58 rfl ?_
        refine r_getR C flX10_22 dX10_begins1_59 rfl rfl rfl ?_
        refine r_iload_n C dX10_begins1_62 rfl ?_
        refine r_iald C rfl dX10_begins1_63 (vin (by omega) (show (nI k).toInt < 3 by omega)) ?_
        refine r_iast C rfl dX10_begins1_64 (vin (by omega) (show (nI k).toInt < 3 by omega)) ?_
        refine r_aload_n C dX10_begins1_65 rfl ?_
        refine r_getR C flX10_37 dX10_begins1_66 rfl rfl rfl ?_
        refine r_iload_n C dX10_begins1_69 rfl ?_
        refine r_iconst C (v := 0) dX10_begins1_70 (by decide) ?_
        refine r_iast C rfl dX10_begins1_71 (vin (by omega) (show (nI k).toInt < 3 by omega)) ?_
        refine r_aload_n C dX10_begins1_72 rfl ?_
        refine r_getR C flX10_40 dX10_begins1_73 rfl rfl rfl ?_
        refine r_iload_n C dX10_begins1_76 rfl ?_
        refine r_iconst C (v := 0) dX10_begins1_77 (by decide) ?_
        refine r_iast C rfl dX10_begins1_78 (vin (by omega) (show (nI k).toInt < 3 by omega)) ?_
        refine r_iinc C (v := 1) dX10_begins1_79 rfl (by decide) rfl ?_
        refine r_goto C (tgt := 48) dX10_begins1_82 rfl ?_
        rw [nI_s, kx]
        exact ih (k + 1) _ (by omega) (((hF.st (by decide) (by decide)).st (by decide) (by decide)).st (by decide) (by decide)) (fun j hj => by
          refine ⟨?_, ?_, ?_⟩
          · rw [u2_row (t := 75) (t' := 73) (by decide), u2_row (t := 74) (t' := 73) (by decide)]
            by_cases e : j = k
            · subst e; rw [u2_same, r69]
            · rw [u2_ne _ _ _ _ (Or.inr e)]; exact (hr j (by omega)).1
          · rw [u2_row (t := 75) (t' := 74) (by decide)]
            by_cases e : j = k
            · subst e; rw [u2_same]
            · rw [u2_ne _ _ _ _ (Or.inr e), u2_row (t := 73) (t' := 74) (by decide)]; exact (hr j (by omega)).2.1
          · by_cases e : j = k
            · subst e; rw [u2_same]
            · rw [u2_ne _ _ _ _ (Or.inr e), u2_row (t := 74) (t' := 75) (by decide), u2_row (t := 73) (t' := 75) (by decide)]; exact (hr j (by omega)).2.2)
  refine r_aload_n C dX10_begins1_0 rfl ?_
  refine r_aload_n C dX10_begins1_1 rfl ?_
  refine r_getI C flX10_93 dX10_begins1_2 rfl rfl ?_
  refine r_putI C flX10_225 dX10_begins1_5 rfl rfl rfl rfl rfl ?_
  refine r_aload_n C dX10_begins1_8 rfl ?_
  refine r_aload_n C dX10_begins1_9 rfl ?_
  refine r_getI C flX10_157 dX10_begins1_10 rfl rfl ?_
  refine r_putI C flX10_228 dX10_begins1_13 rfl rfl rfl rfl rfl ?_
  refine r_aload_n C dX10_begins1_16 rfl ?_
  refine r_aload_n C dX10_begins1_17 rfl ?_
  refine r_getI C flX10_160 dX10_begins1_18 rfl rfl ?_
  refine r_putI C flX10_231 dX10_begins1_21 rfl rfl rfl rfl rfl ?_
  refine r_aload_n C dX10_begins1_24 rfl ?_
  refine r_iconst C (v := 1) dX10_begins1_25 (by decide) ?_
  refine r_aload_n C dX10_begins1_26 rfl ?_
  refine r_getI C flX10_102 dX10_begins1_27 rfl rfl ?_
  refine r_ishl C dX10_begins1_30 ?_
  refine r_iconst C (v := 1) dX10_begins1_31 (by decide) ?_
  refine r_isub C dX10_begins1_32 ?_
  refine r_putI C flX10_234 dX10_begins1_33 rfl rfl rfl rfl rfl ?_
  refine r_aload_n C dX10_begins1_36 rfl ?_
  refine r_iconst C (v := 0) dX10_begins1_37 (by decide) ?_
  refine r_putI C flX10_237 dX10_begins1_38 rfl rfl rfl rfl rfl ?_
  refine r_aload_n C dX10_begins1_41 rfl ?_
  refine r_iconst C (v := 0) dX10_begins1_42 (by decide) ?_
  refine r_putI C flX10_241 dX10_begins1_43 rfl rfl rfl rfl rfl ?_
  refine r_iconst C (v := 0) dX10_begins1_46 (by decide) ?_
  refine r_istore_n C dX10_begins1_47 rfl rfl ?_
  refine (show Aw X 48 _ _ (st9 (u2 (u2 (u2 (u2 (u2 (u2 I 64 21 (I 64 7)) 64 22 (I 64 8)) 64 23 (I 64 9)) 64 28 (1 <<< (I 64 6 &&& 31) - 1)) 64 29 0) 64 30 0) J b) from ?_)
  rw [← hIB]
  exact loop 3 0 IB rfl FrM.rf (fun j hj => absurd hj (Nat.not_lt_zero j))
set_option maxRecDepth 100000 in
set_option maxHeartbeats 400000 in
theorem sX10_wantsNow {g : Gb} {d : Nat} (hd : 81 ≤ d) (j : Nat) (hj : j < 3) (I : Is) (J : Js) (b : Bool) (hN : NM I) (hv : VOk (gvM I)) (hjs : j < ix (I 64 6)) : MC9 g d mX10_wantsNow [.ref 64, .int (nI j)] I J b (Qi J b (fun v I' => v = wVF (enM I) (ptM I) (frM I) (hcM I) (gvM I) j ∧ FrM [72] [15, 16, 17, 18, 19] I I')) := by
  have hrj := hN.1.2.2.1 j (by have := ix_nn hN.1.1; omega)
  have hv1 : 0 ≤ (I 64 21).toInt ∧ (I 64 21).toInt ≤ 999 := hv.1
  have hsub : (I 64 21 - I 65 (8 * j + 2)).toInt = (I 64 21).toInt - (I 65 (8 * j + 2)).toInt := tI_sub (by omega) (by omega)
  refine ent9 (own := RX10) rfl rfl rfl (fun X hg hx C Z => ?_)
  subst hg
  refine r_aload_n C dX10_wantsNow_0 rfl ?_
  refine r_iload_n C dX10_wantsNow_1 rfl ?_
  refine r_iconst C (v := 2) dX10_wantsNow_2 (by decide) ?_
  refine cV (ci := 10) C hx (sX10_ofStraw (d := d - 1) j 2 hj (by decide) I J b) moX10_ofStraw mlX10_218 miX10_ofStraw msX10_ofStraw dX10_wantsNow_3 rfl rfl rfl rfl rfl (by omega) rfl rfl (kp ?_)
  refine r_istore_n C dX10_wantsNow_6 rfl rfl ?_
  refine r_aload_n C dX10_wantsNow_7 rfl ?_
  refine r_iload_n C dX10_wantsNow_8 rfl ?_
  refine cV (ci := 10) C hx (sX10_draws (d := d - 1) (by omega) j hj I J b hrj.2.2.2.2.1 hrj.2.2.2.2.2.1) moX10_draws mlX10_247 miX10_draws msX10_draws dX10_wantsNow_9 rfl rfl rfl rfl rfl (by omega) rfl rfl (kp ?_)
  refine z_ifeq C (tgt := 34) dX10_wantsNow_12 rfl (fun h12_3 => ?_) (fun h12_3 => ?_)
  · refine r_iconst C (v := 0) dX10_wantsNow_34 (by decide) ?_
    exact ri C Z dX10_wantsNow_35 ⟨by unfold wVF; rw [if_neg (by assumption)], FrM.rf⟩
  · refine r_aload_n C dX10_wantsNow_15 rfl ?_
    refine r_getI C flX10_241 dX10_wantsNow_16 rfl rfl ?_
    refine r_iload_n C dX10_wantsNow_19 rfl ?_
    refine cS C hx (sX10_isIn (d := d - 1) (by omega) (I 64 30) j I J b) moX10_isIn mlX10_244 mtX10_isIn dX10_wantsNow_20 rfl rfl (by omega) rfl rfl (kp ?_)
    refine z_ifne C (tgt := 34) dX10_wantsNow_23 rfl (fun h23_5 => ?_) (fun h23_5 => ?_)
    · refine r_iconst C (v := 0) dX10_wantsNow_34 (by decide) ?_
      exact ri C Z dX10_wantsNow_35 ⟨by unfold wVF trF; rw [if_pos (by assumption), if_pos (show hcM I j = true by assumption)], FrM.rf⟩
    · refine r_aload_n C dX10_wantsNow_26 rfl ?_
      refine r_getI C flX10_225 dX10_wantsNow_27 rfl rfl ?_
      refine r_iload_n C dX10_wantsNow_30 rfl ?_
      refine b_icgt C (tgt := 36) rfl rfl dX10_wantsNow_31 rfl (fun h31_6 => ?_) (fun h31_6 => ?_)
      · refine r_aload_n C dX10_wantsNow_36 rfl ?_
        refine r_iload_n C dX10_wantsNow_37 rfl ?_
        refine r_aload_n C dX10_wantsNow_38 rfl ?_
        refine r_getI C flX10_225 dX10_wantsNow_39 rfl rfl ?_
        refine r_aload_n C dX10_wantsNow_42 rfl ?_
        refine r_getR C flX10_34 dX10_wantsNow_43 rfl rfl rfl ?_
        refine r_iload_n C dX10_wantsNow_46 rfl ?_
        refine r_iald C rfl dX10_wantsNow_47 (vin (by rw [nIint (by omega)]; omega) (show (nI j).toInt < 3 by rw [nIint (by omega)]; omega)) ?_
        rw [nIix (show j < 1000000 by omega)]
        refine cV (ci := 10) C hx (sX10_wantsAt (d := d - 1) (by omega) j hj (I 64 21) (I 73 j) I J b hrj.2.2.2.1.1 hN.2) moX10_wantsAt mlX10_221 miX10_wantsAt msX10_wantsAt dX10_wantsNow_48 rfl rfl rfl rfl rfl (by omega) rfl rfl (ki (fun v_48_7 I_48_7 q_48_7 => ?_))
        obtain ⟨hw, hF⟩ := q_48_7
        obtain ⟨I1, hI1⟩ : ∃ z, z = I_48_7 := ⟨_, rfl⟩
        rw [← hI1] at hF ⊢
        obtain ⟨w, hwe⟩ : ∃ w, w = v_48_7 := ⟨_, rfl⟩
        rw [← hwe] at hw ⊢
        have e21 : I1 64 21 = I 64 21 := hF.2 21 (by decide)
        have e65 : I1 65 = I 65 := hF.1 65 (by decide) (by decide)
        refine r_istore_n C dX10_wantsNow_51 rfl rfl ?_
        refine r_aload_n C dX10_wantsNow_52 rfl ?_
        refine r_getI C flX10_225 dX10_wantsNow_53 rfl rfl ?_
        refine r_aload_n C dX10_wantsNow_56 rfl ?_
        rw [e21]
        refine r_iload_n C dX10_wantsNow_57 rfl ?_
        refine r_bipush C (v := 6) dX10_wantsNow_58 (by decide) ?_
        refine cV (ci := 10) C hx (sX10_ofStraw (d := d - 1) j 6 hj (by decide) I1 J b) moX10_ofStraw mlX10_218 miX10_ofStraw msX10_ofStraw dX10_wantsNow_60 rfl rfl rfl rfl rfl (by omega) rfl rfl (kp ?_)
        rw [e65]
        refine b_icge C (tgt := 72) rfl rfl dX10_wantsNow_63 rfl (fun h63_9 => ?_) (fun h63_9 => ?_)
        · refine r_iload_n C dX10_wantsNow_72 rfl ?_
          refine r_istore_n C dX10_wantsNow_73 rfl rfl ?_
          refine r_iload_n C dX10_wantsNow_74 rfl ?_
          refine r_aload_n C dX10_wantsNow_75 rfl ?_
          refine r_getI C flX10_225 dX10_wantsNow_76 rfl rfl ?_
          rw [e21]
          refine r_iload_n C dX10_wantsNow_79 rfl ?_
          refine r_isub C dX10_wantsNow_80 ?_
          skip
          refine b_icle C (tgt := 93) rfl rfl dX10_wantsNow_81 rfl (fun h81_10 => ?_) (fun h81_10 => ?_)
          · refine r_iload_n C dX10_wantsNow_93 rfl ?_
            exact ri C Z dX10_wantsNow_94 ⟨by
      unfold wVF trF
      rw [if_pos (by assumption), if_neg (show ¬ hcM I j = true by assumption)]
      show _ = if (I 64 21 - I 65 (8 * j + 2)).toInt ≤ 0 then 0 else imin (hvF (I 64 21) (I 65 (8 * j + 6)) (wtM I j (I 64 21) (I 73 j))) (I 64 21 - I 65 (8 * j + 2))
      rw [if_neg (by rw [hsub]; omega), ← hw]
      unfold hvF
      rw [if_neg (show ¬ (I 64 21).toInt < (I 65 (8 * j + 6)).toInt by omega)]
      unfold imin
      exact (if_neg (fun z => by have := Int32.lt_iff_toInt_lt.mp z; omega)).symm, hF.mo (by decide) (by decide)⟩
          · refine r_aload_n C dX10_wantsNow_84 rfl ?_
            refine r_getI C flX10_225 dX10_wantsNow_85 rfl rfl ?_
            rw [e21]
            refine r_iload_n C dX10_wantsNow_88 rfl ?_
            refine r_isub C dX10_wantsNow_89 ?_
            refine r_goto C (tgt := 94) dX10_wantsNow_90 rfl ?_
            exact ri C Z dX10_wantsNow_94 ⟨by
      unfold wVF trF
      rw [if_pos (by assumption), if_neg (show ¬ hcM I j = true by assumption)]
      show _ = if (I 64 21 - I 65 (8 * j + 2)).toInt ≤ 0 then 0 else imin (hvF (I 64 21) (I 65 (8 * j + 6)) (wtM I j (I 64 21) (I 73 j))) (I 64 21 - I 65 (8 * j + 2))
      rw [if_neg (by rw [hsub]; omega), ← hw]
      unfold hvF
      rw [if_neg (show ¬ (I 64 21).toInt < (I 65 (8 * j + 6)).toInt by omega)]
      unfold imin
      exact (if_pos (Int32.lt_iff_toInt_lt.mpr (by assumption))).symm, hF.mo (by decide) (by decide)⟩
        · refine r_iload_n C dX10_wantsNow_66 rfl ?_
          refine r_iconst C (v := 2) dX10_wantsNow_67 (by decide) ?_
          refine r_idiv C dX10_wantsNow_68 (by decide) ?_
          refine r_goto C (tgt := 73) dX10_wantsNow_69 rfl ?_
          refine r_istore_n C dX10_wantsNow_73 rfl rfl ?_
          refine r_iload_n C dX10_wantsNow_74 rfl ?_
          refine r_aload_n C dX10_wantsNow_75 rfl ?_
          refine r_getI C flX10_225 dX10_wantsNow_76 rfl rfl ?_
          rw [e21]
          refine r_iload_n C dX10_wantsNow_79 rfl ?_
          refine r_isub C dX10_wantsNow_80 ?_
          skip
          refine b_icle C (tgt := 93) rfl rfl dX10_wantsNow_81 rfl (fun h81_11 => ?_) (fun h81_11 => ?_)
          · refine r_iload_n C dX10_wantsNow_93 rfl ?_
            exact ri C Z dX10_wantsNow_94 ⟨by
      unfold wVF trF
      rw [if_pos (by assumption), if_neg (show ¬ hcM I j = true by assumption)]
      show _ = if (I 64 21 - I 65 (8 * j + 2)).toInt ≤ 0 then 0 else imin (hvF (I 64 21) (I 65 (8 * j + 6)) (wtM I j (I 64 21) (I 73 j))) (I 64 21 - I 65 (8 * j + 2))
      rw [if_neg (by rw [hsub]; omega), ← hw]
      unfold hvF
      rw [if_pos (show (I 64 21).toInt < (I 65 (8 * j + 6)).toInt by assumption)]
      unfold imin
      exact (if_neg (fun z => by have := Int32.lt_iff_toInt_lt.mp z; omega)).symm, hF.mo (by decide) (by decide)⟩
          · refine r_aload_n C dX10_wantsNow_84 rfl ?_
            refine r_getI C flX10_225 dX10_wantsNow_85 rfl rfl ?_
            rw [e21]
            refine r_iload_n C dX10_wantsNow_88 rfl ?_
            refine r_isub C dX10_wantsNow_89 ?_
            refine r_goto C (tgt := 94) dX10_wantsNow_90 rfl ?_
            exact ri C Z dX10_wantsNow_94 ⟨by
      unfold wVF trF
      rw [if_pos (by assumption), if_neg (show ¬ hcM I j = true by assumption)]
      show _ = if (I 64 21 - I 65 (8 * j + 2)).toInt ≤ 0 then 0 else imin (hvF (I 64 21) (I 65 (8 * j + 6)) (wtM I j (I 64 21) (I 73 j))) (I 64 21 - I 65 (8 * j + 2))
      rw [if_neg (by rw [hsub]; omega), ← hw]
      unfold hvF
      rw [if_pos (show (I 64 21).toInt < (I 65 (8 * j + 6)).toInt by assumption)]
      unfold imin
      exact (if_pos (Int32.lt_iff_toInt_lt.mpr (by assumption))).symm, hF.mo (by decide) (by decide)⟩
      · refine r_iconst C (v := 0) dX10_wantsNow_34 (by decide) ?_
        exact ri C Z dX10_wantsNow_35 ⟨by
      have hle : (I 64 21 - I 65 (8 * j + 2)).toInt ≤ 0 := by rw [hsub]; omega
      unfold wVF trF; rw [if_pos (by assumption), if_neg (show ¬ hcM I j = true by assumption)]; exact (if_pos hle).symm, FrM.rf⟩
