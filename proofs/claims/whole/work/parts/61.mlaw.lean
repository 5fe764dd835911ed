/-- the reference's frame: rows l and fields f may change -/
def FrM (l f : List Nat) (I I' : Is) : Prop := (∀ c, c ≠ 64 → c ∉ l → I' c = I c) ∧ ∀ k, k ∉ f → I' 64 k = I 64 k
theorem FrM.rf {l f : List Nat} {I : Is} : FrM l f I I := ⟨fun _ _ _ => rfl, fun _ _ => rfl⟩
theorem FrM.tr {l f l1 f1 l2 f2 : List Nat} {I I1 I2 : Is} (h : FrM l1 f1 I I1) (g : FrM l2 f2 I1 I2) (a1 : ∀ c ∈ l1, c ∈ l) (a2 : ∀ c ∈ l2, c ∈ l) (b1 : ∀ c ∈ f1, c ∈ f) (b2 : ∀ c ∈ f2, c ∈ f) : FrM l f I I2 :=
  ⟨fun c hc hl => (g.1 c hc (fun z => hl (a2 c z))).trans (h.1 c hc (fun z => hl (a1 c z))), fun k hk => (g.2 k (fun z => hk (b2 k z))).trans (h.2 k (fun z => hk (b1 k z)))⟩
theorem FrM.mo {l f l1 f1 : List Nat} {I I1 : Is} (h : FrM l1 f1 I I1) (a1 : ∀ c ∈ l1, c ∈ l) (b1 : ∀ c ∈ f1, c ∈ f) : FrM l f I I1 := ⟨fun c hc hl => h.1 c hc (fun z => hl (a1 c z)), fun k hk => h.2 k (fun z => hk (b1 k z))⟩
theorem FrM.st {l f : List Nat} {I I1 : Is} {t k : Nat} {v : Int32} (h : FrM l f I I1) (ht : t ∈ l) (h64 : t ≠ 64) : FrM l f I (u2 I1 t k v) := ⟨fun c hc hl => (u2_row (fun e => hl (by rw [e]; exact ht))).trans (h.1 c hc hl), fun j hj => (congrFun (u2_row (fun e => h64 e.symm)) j).trans (h.2 j hj)⟩
theorem FrM.sf {l f : List Nat} {I I1 : Is} {k : Nat} {v : Int32} (h : FrM l f I I1) (hk : k ∈ f) : FrM l f I (u2 I1 64 k v) := ⟨fun c hc hl => (u2_row hc).trans (h.1 c hc hl), fun j hj => (u2_ne I1 64 k v (Or.inr (fun e => hj (by rw [e]; exact hk)))).trans (h.2 j hj)⟩
theorem frSP (I : Is) (fr n : Int32) (p : PS) : FrM [] [15, 16, 17, 18, 19] I (setP (setB I fr n) p) := by
  unfold setP setB
  exact ((((FrM.rf.sf (by decide)).sf (by decide)).sf (by decide)).sf (by decide)).sf (by decide)
/-- a text by its bytes -/
def txR (r : Nat → Int32) (n : Int32) (a : Int32) : Int32 := if a.toInt < n.toInt then r (ix a) else 0
theorem txM_71 (I : Is) (n : Int32) : txM (setB I 0 n) = txR (I 71) n := by
  funext a
  unfold txR txM
  show (if a.toInt < n.toInt then (if (0 : Int32).toInt < 0 then _ else I 71 (ix (0 + a))) else 0) = _
  rw [if_neg (by decide : ¬ (0 : Int32).toInt < 0), Int32.zero_add]
theorem txM_70 (I : Is) (n : Int32) : txM (setB I (-1) n) = txR (I 70) n := by
  funext a
  unfold txR txM
  show (if a.toInt < n.toInt then (if (-1 : Int32).toInt < 0 then I 70 (ix a) else _) else 0) = _
  rw [if_pos (by decide : (-1 : Int32).toInt < 0)]
theorem nmM_nm {T : Int32 → Int32} {nm nm' : Nat → Int32} (h : ∀ k, k < 6 → nm k = nm' k) : nmM T nm = nmM T nm' := by
  funext p
  unfold nmM
  by_cases c : 0 ≤ (nmgF (T p.1)).toInt
  · have h5 := nmg_rng (T p.1)
    have e := ix_nn c
    rw [if_pos c, if_pos c, h _ (by omega)]
  · rw [if_neg c, if_neg c]
theorem oneM_nm {T : Int32 → Int32} {nm nm' : Nat → Int32} (h : ∀ k, k < 6 → nm k = nm' k) : ∀ m, oneM T nm m = oneM T nm' m := by
  intro m
  induction m with
  | zero =>
    show opM T nm = opM T nm'
    funext p
    unfold opM
    rw [nmM_nm h]
  | succ m ih =>
    show stM T nm (jnM T (oneM T nm m) 5) (oneM T nm m) = stM T nm' (jnM T (oneM T nm' m) 5) (oneM T nm' m)
    rw [ih]
    generalize jnM T (oneM T nm' m) 5 = f5
    generalize oneM T nm' m = f1
    funext p
    unfold stM
    rw [nmM_nm h]
theorem woM_nm {T : Int32 → Int32} {nm nm' : Nat → Int32} (h : ∀ k, k < 6 → nm k = nm' k) (e : Int32) : woM T nm e = woM T nm' e := by
  unfold woM
  rw [oneM_nm h]
theorem cl_lo {v : Int32} (h : v.toInt < 0) : 0 = imax 0 (imin 99 v) := Int32.toInt_inj.mp (by
  rw [imax_int, imin_int, show (0 : Int32).toInt = 0 from rfl, show (99 : Int32).toInt = 99 from rfl]; omega)
theorem cl_hi {v : Int32} (h : 99 < v.toInt) : 99 = imax 0 (imin 99 v) := Int32.toInt_inj.mp (by
  rw [imax_int, imin_int, show (0 : Int32).toInt = 0 from rfl, show (99 : Int32).toInt = 99 from rfl]; omega)
theorem cl_in {v : Int32} (h : 0 ≤ v.toInt) (h1 : v.toInt ≤ 99) : v = imax 0 (imin 99 v) := Int32.toInt_inj.mp (by
  rw [imax_int, imin_int, show (0 : Int32).toInt = 0 from rfl, show (99 : Int32).toInt = 99 from rfl]; omega)
/-- what a straw wants, by the reference -/
def wtM (I : Is) (j : Nat) (l t : Int32) : Int32 := if 0 ≤ (I 64 14).toInt then imax 0 (imin 99 (woM (txR (I 71) (I 64 14)) (nmF (I 65) j l t) (I 64 14)).1) else imax 0 (imin 99 (plainF (I 65) j t))
theorem wtM_congr {I I' : Is} (h65 : I' 65 = I 65) (h71 : I' 71 = I 71) (h14 : I' 64 14 = I 64 14) : wtM I' = wtM I := by
  funext j l t
  unfold wtM
  rw [h65, h71, h14]
set_option maxRecDepth 100000 in
set_option maxHeartbeats 400000 in
theorem sX10_law {g : Gb} {d : Nat} (hd : 80 ≤ d) (I : Is) (J : Js) (b : Bool) (h0 : 0 ≤ (I 64 12).toInt) (h1 : (I 64 12).toInt ≤ 120) : MC9 g d mX10_law [.ref 64] I J b (Qi J b (fun v I' => I' 64 12 = 0 ∧ ((0 ≤ (woM (txR (I 70) (I 64 12)) (I 72) (I 64 12)).2.2.1.toInt ∧ v = -100 - (woM (txR (I 70) (I 64 12)) (I 72) (I 64 12)).2.2.1 ∧ FrM [] [12, 15, 16, 17, 18, 19] I I') ∨ ((woM (txR (I 70) (I 64 12)) (I 72) (I 64 12)).2.2.1.toInt < 0 ∧ v = 1 ∧ I' 64 14 = I 64 12 ∧ (∀ k : Nat, I' 71 k = if (k : Int) < (I 64 12).toInt then I 70 k else I 71 k) ∧ FrM [71] [12, 14, 15, 16, 17, 18, 19] I I')))) := by
  obtain ⟨w, hw⟩ : ∃ w, (woM (txR (I 70) (I 64 12)) (I 72) (I 64 12)) = w := ⟨_, rfl⟩
  rw [hw]
  obtain ⟨n, hn⟩ : ∃ n : Nat, (I 64 12).toInt = (n : Int) := ⟨(I 64 12).toInt.toNat, by omega⟩
  have hn9 : n ≤ 120 := by omega
  refine ent9 (own := RX10) rfl rfl rfl (fun X hg hx C Z => ?_)
  subst hg
  have loop : ∀ (m k : Nat) (I' : Is) (x1 : Option Value), m + k = n → w.2.2.1.toInt < 0 → FrM [71] [12, 15, 16, 17, 18, 19] I I' → I' 64 12 = 0 → (∀ j : Nat, I' 71 j = if j < k then I 70 j else I 71 j) → Aw X 37 [some (.ref 64), x1, some (.int (I 64 12)), some (.int (nI k))] [] (st9 I' J b) := by
    intro m
    induction m with
    | zero =>
      intro k I' x1 hm hf hF h12 hr
      have ink : (nI k).toInt = (k : Int) := nIint (by omega)
      refine r_iload_n C dX10_law_37 rfl ?_
      refine r_iload_n C dX10_law_38 rfl ?_
      refine b_icge C (tgt := 60) rfl rfl dX10_law_39 rfl (fun h39_1 => ?_) (fun h39_1 => ?_)
      · have hrow : ∀ j : Nat, I' 71 j = if (j : Int) < (I 64 12).toInt then I 70 j else I 71 j := fun j => by
          rw [hr j, hn]
          have e : k = n := by omega
          rw [e]
          by_cases c : j < n
          · rw [if_pos c, if_pos (by omega)]
          · rw [if_neg c, if_neg (by omega)]
        refine r_aload_n C dX10_law_60 rfl ?_
        refine r_iload_n C dX10_law_61 rfl ?_
        refine r_putI C flX10_89 dX10_law_62 rfl rfl rfl rfl rfl ?_
        refine r_iconst C (v := 1) dX10_law_65 (by decide) ?_
        exact ri C Z dX10_law_66 (show _ ∧ (_ ∨ _) from ⟨(u2_ne _ _ _ _ (Or.inr (by decide))).trans h12, Or.inr ⟨hf, rfl, u2_same .., fun j => (congrFun (u2_row (by decide)) j).trans (hrow j), (hF.mo (by decide) (by decide)).sf (by decide)⟩⟩)
      · exfalso; omega
    | succ m ih =>
      intro k I' x1 hm hf hF h12 hr
      have ink : (nI k).toInt = (k : Int) := nIint (by omega)
      have kx : ix (nI k) = k := nIix (by omega)
      have r70 : I' 70 = I 70 := hF.1 70 (by decide) (by decide)
      refine r_iload_n C dX10_law_37 rfl ?_
      refine r_iload_n C dX10_law_38 rfl ?_
      refine b_icge C (tgt := 60) rfl rfl dX10_law_39 rfl (fun h39_1 => ?_) (fun h39_1 => ?_)
      · exfalso; omega
      · refine r_aload_n C dX10_law_42 rfl ?_
        refine r_getR C flX10_28 dX10_law_43 rfl rfl rfl ?_
        refine r_iload_n C dX10_law_46 rfl ?_
        refine r_aload_n C dX10_law_47 rfl ?_
        refine r_getR C flX10_25 dX10_law_48 rfl rfl rfl ?_
        refine r_iload_n C dX10_law_51 rfl ?_
        refine r_iald C rfl dX10_law_52 (vin (by omega) (show (nI k).toInt < 120 by omega)) ?_
        refine r_iast C rfl dX10_law_53 (vin (by omega) (show (nI k).toInt < 120 by omega)) ?_
        refine r_iinc C (v := 1) dX10_law_54 rfl (by decide) rfl ?_
        refine r_goto C (tgt := 37) dX10_law_57 rfl ?_
        rw [nI_s, kx]
        exact ih (k + 1) _ _ (by omega) hf (hF.st (by decide) (by decide)) h12 (fun j => by
          by_cases e : j = k
          · subst e
            rw [u2_same, r70, if_pos (by omega)]
          · rw [u2_ne I' 71 k _ (Or.inr e), hr j]
            by_cases c : j < k
            · rw [if_pos c, if_pos (by omega)]
            · rw [if_neg c, if_neg (by omega)])
  refine r_aload_n C dX10_law_0 rfl ?_
  refine r_iconst C (v := -1) dX10_law_1 (by decide) ?_
  refine r_aload_n C dX10_law_2 rfl ?_
  refine r_getI C flX10_165 dX10_law_3 rfl rfl ?_
  refine cV (ci := 10) C hx (sX10_workOut (d := d - 1) (by omega) (-1) (I 64 12) I J b (Or.inl rfl) h0 h1) moX10_workOut mlX10_215 miX10_workOut msX10_workOut dX10_law_6 rfl rfl rfl rfl rfl (by omega) rfl rfl (ki (fun v_6_1 I_6_1 q_6_1 => ?_))
  rw [txM_70, hw] at q_6_1
  obtain ⟨rfl, rfl⟩ := q_6_1
  refine r_istore_n C dX10_law_9 rfl rfl ?_
  refine r_aload_n C dX10_law_10 rfl ?_
  refine r_getI C flX10_165 dX10_law_11 rfl rfl ?_
  refine r_istore_n C dX10_law_14 rfl rfl ?_
  refine r_aload_n C dX10_law_15 rfl ?_
  refine r_iconst C (v := 0) dX10_law_16 (by decide) ?_
  refine r_putI C flX10_165 dX10_law_17 rfl rfl rfl rfl rfl ?_
  refine r_aload_n C dX10_law_20 rfl ?_
  refine r_getI C flX10_177 dX10_law_21 rfl rfl ?_
  refine b_iflt C (tgt := 35) dX10_law_24 rfl (fun h24_2 => ?_) (fun h24_2 => ?_)
  · refine r_iconst C (v := 0) dX10_law_35 (by decide) ?_
    refine r_istore_n C dX10_law_36 rfl rfl ?_
    exact loop n 0 _ _ rfl (by assumption) (((frSP I (-1) (I 64 12) w.2).mo (by decide) (by decide)).sf (by decide)) (u2_same ..) (fun j => by rw [if_neg (by omega), u2_row (by decide)]; rfl)
  · refine r_bipush C (v := -100) dX10_law_27 (by decide) ?_
    refine r_aload_n C dX10_law_29 rfl ?_
    refine r_getI C flX10_177 dX10_law_30 rfl rfl ?_
    refine r_isub C dX10_law_33 ?_
    exact ri C Z dX10_law_34 (show _ ∧ (_ ∨ _) from ⟨u2_same .., Or.inl ⟨by assumption, rfl, ((frSP I (-1) (I 64 12) w.2).mo (by decide) (by decide)).sf (by decide)⟩⟩)
set_option maxRecDepth 100000 in
set_option maxHeartbeats 400000 in
theorem sX10_wantsAt {g : Gb} {d : Nat} (hd : 80 ≤ d) (j : Nat) (hj : j < 3) (l t : Int32) (I : Is) (J : Js) (b : Bool) (hti : 1 ≤ (I 65 (8 * j + 3)).toInt) (h14 : (I 64 14).toInt ≤ 120) : MC9 g d mX10_wantsAt [.ref 64, .int (nI j), .int l, .int t] I J b (Qi J b (fun v I' => v = wtM I j l t ∧ FrM [72] [15, 16, 17, 18, 19] I I')) := by
  obtain ⟨w, hw⟩ : ∃ w, woM (txR (I 71) (I 64 14)) (nmF (I 65) j l t) (I 64 14) = w := ⟨_, rfl⟩
  refine ent9 (own := RX10) rfl rfl rfl (fun X hg hx C Z => ?_)
  subst hg
  refine r_aload_n C dX10_wantsAt_0 rfl ?_
  refine r_iload_n C dX10_wantsAt_1 rfl ?_
  refine r_iconst C (v := 0) dX10_wantsAt_2 (by decide) ?_
  refine cV (ci := 10) C hx (sX10_ofStraw (d := d - 1) j 0 hj (by decide) _ J b) moX10_ofStraw mlX10_218 miX10_ofStraw msX10_ofStraw dX10_wantsAt_3 rfl rfl rfl rfl rfl (by omega) rfl rfl (kp ?_)
  refine r_aload_n C dX10_wantsAt_6 rfl ?_
  refine r_iload_n C dX10_wantsAt_7 rfl ?_
  refine r_iconst C (v := 1) dX10_wantsAt_8 (by decide) ?_
  refine cV (ci := 10) C hx (sX10_ofStraw (d := d - 1) j 1 hj (by decide) _ J b) moX10_ofStraw mlX10_218 miX10_ofStraw msX10_ofStraw dX10_wantsAt_9 rfl rfl rfl rfl rfl (by omega) rfl rfl (kp ?_)
  refine r_imul C dX10_wantsAt_12 ?_
  refine r_iconst C (v := 3) dX10_wantsAt_13 (by decide) ?_
  refine r_idiv C dX10_wantsAt_14 (by decide) ?_
  refine r_iload_n C dX10_wantsAt_15 rfl ?_
  refine r_aload_n C dX10_wantsAt_16 rfl ?_
  refine r_iload_n C dX10_wantsAt_17 rfl ?_
  refine r_iconst C (v := 3) dX10_wantsAt_18 (by decide) ?_
  refine cV (ci := 10) C hx (sX10_ofStraw (d := d - 1) j 3 hj (by decide) _ J b) moX10_ofStraw mlX10_218 miX10_ofStraw msX10_ofStraw dX10_wantsAt_19 rfl rfl rfl rfl rfl (by omega) rfl rfl (kp ?_)
  refine r_idiv C dX10_wantsAt_22 (fun z => by rw [z] at hti; exact absurd hti (by decide)) ?_
  refine r_isub C dX10_wantsAt_23 ?_
  refine r_istore C dX10_wantsAt_24 rfl rfl ?_
  refine r_aload_n C dX10_wantsAt_26 rfl ?_
  refine r_getI C flX10_89 dX10_wantsAt_27 rfl rfl ?_
  refine b_iflt C (tgt := 103) dX10_wantsAt_30 rfl (fun h30_4 => ?_) (fun h30_4 => ?_)
  · refine r_iload C dX10_wantsAt_103 rfl ?_
    refine b_ifge C (tgt := 112) dX10_wantsAt_105 rfl (fun h105_5 => ?_) (fun h105_5 => ?_)
    · refine r_iload C dX10_wantsAt_112 rfl ?_
      refine r_bipush C (v := 99) dX10_wantsAt_114 (by decide) ?_
      refine b_icle C (tgt := 124) (my := 99) rfl rfl dX10_wantsAt_116 rfl (fun h116_6 => ?_) (fun h116_6 => ?_)
      · refine r_iload C dX10_wantsAt_124 rfl ?_
        exact ri C Z dX10_wantsAt_126 ⟨by unfold wtM; rw [if_neg (by omega)]; exact cl_in (by assumption) (by assumption), FrM.rf⟩
      · refine r_bipush C (v := 99) dX10_wantsAt_119 (by decide) ?_
        refine r_goto C (tgt := 126) dX10_wantsAt_121 rfl ?_
        exact ri C Z dX10_wantsAt_126 ⟨by unfold wtM; rw [if_neg (by omega)]; exact cl_hi (by assumption), FrM.rf⟩
    · refine r_iconst C (v := 0) dX10_wantsAt_108 (by decide) ?_
      refine r_goto C (tgt := 126) dX10_wantsAt_109 rfl ?_
      exact ri C Z dX10_wantsAt_126 ⟨by unfold wtM; rw [if_neg (by omega)]; exact cl_lo (by assumption), FrM.rf⟩
  · refine r_aload_n C dX10_wantsAt_33 rfl ?_
    refine r_getR C flX10_31 dX10_wantsAt_34 rfl rfl rfl ?_
    refine r_iconst C (v := 0) dX10_wantsAt_37 (by decide) ?_
    refine r_aload_n C dX10_wantsAt_38 rfl ?_
    refine r_iload_n C dX10_wantsAt_39 rfl ?_
    refine r_iconst C (v := 0) dX10_wantsAt_40 (by decide) ?_
    refine cV (ci := 10) C hx (sX10_ofStraw (d := d - 1) j 0 hj (by decide) _ J b) moX10_ofStraw mlX10_218 miX10_ofStraw msX10_ofStraw dX10_wantsAt_41 rfl rfl rfl rfl rfl (by omega) rfl rfl (kp ?_)
    refine r_iast C rfl dX10_wantsAt_44 (vin (by decide) (by decide)) ?_
    refine r_aload_n C dX10_wantsAt_45 rfl ?_
    refine r_getR C flX10_31 dX10_wantsAt_46 rfl rfl rfl ?_
    refine r_iconst C (v := 1) dX10_wantsAt_49 (by decide) ?_
    refine r_aload_n C dX10_wantsAt_50 rfl ?_
    refine r_iload_n C dX10_wantsAt_51 rfl ?_
    refine r_iconst C (v := 1) dX10_wantsAt_52 (by decide) ?_
    refine cV (ci := 10) C hx (sX10_ofStraw (d := d - 1) j 1 hj (by decide) _ J b) moX10_ofStraw mlX10_218 miX10_ofStraw msX10_ofStraw dX10_wantsAt_53 rfl rfl rfl rfl rfl (by omega) rfl rfl (kp ?_)
    refine r_iast C rfl dX10_wantsAt_56 (vin (by decide) (by decide)) ?_
    refine r_aload_n C dX10_wantsAt_57 rfl ?_
    refine r_getR C flX10_31 dX10_wantsAt_58 rfl rfl rfl ?_
    refine r_iconst C (v := 2) dX10_wantsAt_61 (by decide) ?_
    refine r_iload_n C dX10_wantsAt_62 rfl ?_
    refine r_iast C rfl dX10_wantsAt_63 (vin (by decide) (by decide)) ?_
    refine r_aload_n C dX10_wantsAt_64 rfl ?_
    refine r_getR C flX10_31 dX10_wantsAt_65 rfl rfl rfl ?_
    refine r_iconst C (v := 3) dX10_wantsAt_68 (by decide) ?_
    refine r_iload_n C dX10_wantsAt_69 rfl ?_
    refine r_iast C rfl dX10_wantsAt_70 (vin (by decide) (by decide)) ?_
    refine r_aload_n C dX10_wantsAt_71 rfl ?_
    refine r_getR C flX10_31 dX10_wantsAt_72 rfl rfl rfl ?_
    refine r_iconst C (v := 4) dX10_wantsAt_75 (by decide) ?_
    refine r_iload_n C dX10_wantsAt_76 rfl ?_
    refine r_aload_n C dX10_wantsAt_77 rfl ?_
    refine r_iload_n C dX10_wantsAt_78 rfl ?_
    refine r_iconst C (v := 2) dX10_wantsAt_79 (by decide) ?_
    refine cV (ci := 10) C hx (sX10_ofStraw (d := d - 1) j 2 hj (by decide) _ J b) moX10_ofStraw mlX10_218 miX10_ofStraw msX10_ofStraw dX10_wantsAt_80 rfl rfl rfl rfl rfl (by omega) rfl rfl (kp ?_)
    refine r_isub C dX10_wantsAt_83 ?_
    refine r_iast C rfl dX10_wantsAt_84 (vin (by decide) (by decide)) ?_
    refine r_aload_n C dX10_wantsAt_85 rfl ?_
    refine r_getR C flX10_31 dX10_wantsAt_86 rfl rfl rfl ?_
    refine r_iconst C (v := 5) dX10_wantsAt_89 (by decide) ?_
    refine r_iload_n C dX10_wantsAt_90 rfl ?_
    refine r_iast C rfl dX10_wantsAt_91 (vin (by decide) (by decide)) ?_
    obtain ⟨IN, hIN⟩ : ∃ IN : Is, IN = (u2 (u2 (u2 (u2 (u2 (u2 I 72 0 (I 65 (8 * j + 0))) 72 1 (I 65 (8 * j + 1))) 72 2 t) 72 3 l) 72 4 (l - I 65 (8 * j + 2))) 72 5 (nI j)) := ⟨_, rfl⟩
    have hF72 : FrM [72] [] I IN := by rw [hIN]; exact (((((FrM.rf.st (by decide) (by decide)).st (by decide) (by decide)).st (by decide) (by decide)).st (by decide) (by decide)).st (by decide) (by decide)).st (by decide) (by decide)
    have hnm : ∀ k, k < 6 → IN 72 k = nmF (I 65) j l t k := by
      intro k hk
      rw [hIN]
      rcases (show k = 0 ∨ k = 1 ∨ k = 2 ∨ k = 3 ∨ k = 4 ∨ k = 5 by omega) with rfl | rfl | rfl | rfl | rfl | rfl <;> rfl
    have e14 : IN 64 14 = I 64 14 := hF72.2 14 (by decide)
    refine (show Aw X 92 _ _ (st9 (u2 (u2 (u2 (u2 (u2 (u2 I 72 0 (I 65 (8 * j + 0))) 72 1 (I 65 (8 * j + 1))) 72 2 t) 72 3 l) 72 4 (l - I 65 (8 * j + 2))) 72 5 (nI j)) J b) from ?_)
    rw [← hIN]
    refine r_aload_n C dX10_wantsAt_92 rfl ?_
    refine r_iconst C (v := 0) dX10_wantsAt_93 (by decide) ?_
    refine r_aload_n C dX10_wantsAt_94 rfl ?_
    refine r_getI C flX10_89 dX10_wantsAt_95 rfl rfl ?_
    rw [e14]
    refine cV (ci := 10) C hx (sX10_workOut (d := d - 1) (by omega) 0 (I 64 14) IN J b (Or.inr rfl) (by assumption) h14) moX10_workOut mlX10_215 miX10_workOut msX10_workOut dX10_wantsAt_98 rfl rfl rfl rfl rfl (by omega) rfl rfl (ki (fun v_98_10 I_98_10 q_98_10 => ?_))
    rw [txM_71] at q_98_10
    obtain ⟨hv, hI⟩ := q_98_10
    rw [woM_nm hnm, show IN 71 = I 71 from hF72.1 71 (by decide) (by decide), hw] at hv
    have hFr : FrM [72] [15, 16, 17, 18, 19] I I_98_10 := by rw [hI]; exact hF72.tr (frSP IN _ _ _) (by decide) (by decide) (by decide) (by decide)
    refine r_istore C dX10_wantsAt_101 rfl rfl ?_
    refine r_iload C dX10_wantsAt_103 rfl ?_
    refine b_ifge C (tgt := 112) dX10_wantsAt_105 rfl (fun h105_11 => ?_) (fun h105_11 => ?_)
    · refine r_iload C dX10_wantsAt_112 rfl ?_
      refine r_bipush C (v := 99) dX10_wantsAt_114 (by decide) ?_
      refine b_icle C (tgt := 124) (my := 99) rfl rfl dX10_wantsAt_116 rfl (fun h116_12 => ?_) (fun h116_12 => ?_)
      · refine r_iload C dX10_wantsAt_124 rfl ?_
        exact ri C Z dX10_wantsAt_126 ⟨by unfold wtM; rw [if_pos (by assumption), hw, ← hv]; exact cl_in (by assumption) (by assumption), hFr⟩
      · refine r_bipush C (v := 99) dX10_wantsAt_119 (by decide) ?_
        refine r_goto C (tgt := 126) dX10_wantsAt_121 rfl ?_
        exact ri C Z dX10_wantsAt_126 ⟨by unfold wtM; rw [if_pos (by assumption), hw, ← hv]; exact cl_hi (by assumption), hFr⟩
    · refine r_iconst C (v := 0) dX10_wantsAt_108 (by decide) ?_
      refine r_goto C (tgt := 126) dX10_wantsAt_109 rfl ?_
      exact ri C Z dX10_wantsAt_126 ⟨by unfold wtM; rw [if_pos (by assumption), hw, ← hv]; exact cl_lo (by assumption), hFr⟩
def wsM (I : Is) (k l t : Int32) : Prop := (0 ≤ k.toInt ∧ k.toInt < (I 64 6).toInt) ∧ (0 ≤ l.toInt ∧ l.toInt ≤ 999) ∧ (0 ≤ t.toInt ∧ t.toInt ≤ 999)
set_option maxRecDepth 100000 in
theorem sX10_wants {g : Gb} {d : Nat} (hd : 81 ≤ d) (k l t : Int32) (I : Is) (J : Js) (b : Bool) (hs0 : 0 ≤ (I 64 6).toInt) (hs3 : (I 64 6).toInt ≤ 3) (hti : ∀ j : Nat, (j : Int) < (I 64 6).toInt → 1 ≤ (I 65 (8 * j + 3)).toInt) (h14 : (I 64 14).toInt ≤ 120) : MC9 g d mX10_wants [.ref 64, .int k, .int l, .int t] I J b (Qi J b (fun v I' => (¬ wsM I k l t ∧ v = -1 ∧ I' = I) ∨ (wsM I k l t ∧ v = wtM I (ix k) l t ∧ FrM [72] [15, 16, 17, 18, 19] I I'))) := by
  refine ent9 (own := RX10) rfl rfl rfl (fun X hg hx C Z => ?_)
  subst hg
  refine r_aload_n C dX10_wants_0 rfl ?_
  refine r_iload_n C dX10_wants_1 rfl ?_
  refine cV (ci := 10) C hx (sX10_isStraw (d := d - 1) (by omega) _ I J b hs0 hs3) moX10_isStraw mlX10_130 miX10_isStraw msX10_isStraw dX10_wants_2 rfl rfl rfl rfl rfl (by omega) rfl rfl (kp ?_)
  refine z_ifeq C (tgt := 42) dX10_wants_5 rfl (fun h5_2 => ?_) (fun h5_2 => ?_)
  · refine r_iconst C (v := -1) dX10_wants_42 (by decide) ?_
    exact ri C Z dX10_wants_43 (Or.inl ⟨fun z => absurd z.1 (by assumption), rfl, rfl⟩)
  · refine r_iload_n C dX10_wants_8 rfl ?_
    refine r_i2l C dX10_wants_9 ?_
    refine r_lconst C (v := 0) dX10_wants_10 (by decide) ?_
    refine r_ldc2 C kkX10_113 dX10_wants_11 ?_
    refine cS C hx (sWi (d := d - 1) _ (lo := 0) (hi := 999) rfl rfl I J b) moX10_within mlX10_105 mtX10_within dX10_wants_14 rfl rfl (by omega) rfl rfl (kp ?_)
    refine z_ifeq C (tgt := 42) dX10_wants_17 rfl (fun h17_4 => ?_) (fun h17_4 => ?_)
    · refine r_iconst C (v := -1) dX10_wants_42 (by decide) ?_
      exact ri C Z dX10_wants_43 (Or.inl ⟨fun z => absurd z.2.1 (by assumption), rfl, rfl⟩)
    · refine r_iload_n C dX10_wants_20 rfl ?_
      refine r_i2l C dX10_wants_21 ?_
      refine r_lconst C (v := 0) dX10_wants_22 (by decide) ?_
      refine r_ldc2 C kkX10_113 dX10_wants_23 ?_
      refine cS C hx (sWi (d := d - 1) _ (lo := 0) (hi := 999) rfl rfl I J b) moX10_within mlX10_105 mtX10_within dX10_wants_26 rfl rfl (by omega) rfl rfl (kp ?_)
      refine z_ifeq C (tgt := 42) dX10_wants_29 rfl (fun h29_6 => ?_) (fun h29_6 => ?_)
      · refine r_iconst C (v := -1) dX10_wants_42 (by decide) ?_
        exact ri C Z dX10_wants_43 (Or.inl ⟨fun z => absurd z.2.2 (by assumption), rfl, rfl⟩)
      · have hin : wsM I k l t := ⟨by assumption, by assumption, by assumption⟩
        obtain ⟨j, hj, rfl⟩ := nI_get hin.1.1 hin.1.2 (by omega)
        have hjx : ix (nI j) = j := nIix (by omega)
        refine r_aload_n C dX10_wants_32 rfl ?_
        refine r_iload_n C dX10_wants_33 rfl ?_
        refine r_iload_n C dX10_wants_34 rfl ?_
        refine r_iload_n C dX10_wants_35 rfl ?_
        refine cV (ci := 10) C hx (sX10_wantsAt (d := d - 1) (by omega) j (by omega) l t I J b (hti j hj) h14) moX10_wantsAt mlX10_221 miX10_wantsAt msX10_wantsAt dX10_wants_36 rfl rfl rfl rfl rfl (by omega) rfl rfl (ki (fun v_36_7 I_36_7 q_36_7 => ?_))
        have hq := q_36_7
        refine r_goto C (tgt := 43) dX10_wants_39 rfl ?_
        exact ri C Z dX10_wants_43 (Or.inr ⟨hin, by rw [hjx]; exact hq.1, hq.2⟩)
