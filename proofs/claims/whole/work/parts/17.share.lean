set_option maxRecDepth 100000 in
set_option maxHeartbeats 400000 in
theorem sX1_share_16 {g : Gb} {d : Nat} (hd : 3 ≤ d) (s : Nat) (all : Int32) (I : Is) (J : Js) (b : Bool) (hs : (I 1 1).toInt = (s : Int)) (hs3 : s ≤ 3) (hall : 0 < all.toInt) : MC9 g d mX1_share [.ref 16, .int all] I J b (Qv J b (fun I' =>
    (∀ k, I' 18 k = if k < s then I 18 k + shF (I 16 0) all (I 21 k) else I 18 k) ∧ (∀ k, I' 19 k = if k < s then I 19 k + shF (I 16 0) all (I 21 k) * swF (I 2) k else I 19 k) ∧
    I' 16 0 = sbF (I 16 0) (fun k => shF (I 16 0) all (I 21 k)) s ∧ (∀ k, 1 ≤ k → I' 16 k = I 16 k) ∧ Fr [16, 18, 19] I I')) := by
  refine ent9 (own := RX1) rfl rfl rfl (fun X hg hx C Z => ?_)
  subst hg
  have oi := one_int
  generalize hlv : I 16 0 = lv
  have loop : ∀ (m i : Nat) (x4 : Option Value) (I' : Is), m + i = s → (∀ k, I' 18 k = if k < i then I 18 k + shF lv all (I 21 k) else I 18 k) → (∀ k, I' 19 k = if k < i then I 19 k + shF lv all (I 21 k) * swF (I 2) k else I 19 k) →
      I' 16 0 = sbF lv (fun k => shF lv all (I 21 k)) i → (∀ k, 1 ≤ k → I' 16 k = I 16 k) → Fr [16, 18, 19] I I' →
      Aw X 7 [some (.ref 16), some (.int all), some (.int lv), some (.int (nI i)), x4] [] (st9 I' J b) := by
    intro m
    induction m with
    | zero =>
      intro i x4 I' hm g2 g3 g0 g1 hF
      have r1 : I' 1 = I 1 := hF 1 (by decide)
      have hi : i = s := by omega
      subst hi
      refine r_iload_n C dX1_share_7 rfl ?_
      refine r_aload_n C dX1_share_8 rfl ?_
      refine r_getR C flX1_31 dX1_share_9 rfl rfl rfl ?_
      refine r_getI C flX1_55 dX1_share_12 rfl rfl ?_
      refine b_icge C (tgt := 87) rfl rfl dX1_share_15 rfl (fun h15_1 => ?_) (fun h15_1 => ?_)
      · exact rv C Z dX1_share_87 ⟨by simpa only [hlv] using g2, by simpa only [hlv] using g3, by simpa only [hlv] using g0, g1, hF⟩
      · exfalso; rw [r1] at *; have := nIint (j := i) (by omega); omega
    | succ m ih =>
      intro i x4 I' hm g2 g3 g0 g1 hF
      have r1 : I' 1 = I 1 := hF 1 (by decide)
      have r2 : I' 2 = I 2 := hF 2 (by decide)
      have r5 : I' 21 = I 21 := hF 21 (by decide)
      have hi3 : i < 3 := by omega
      have ii : ix (nI i) = i := nIix (by omega)
      have ini : (nI i).toInt = (i : Int) := nIint (by omega)
      refine r_iload_n C dX1_share_7 rfl ?_
      refine r_aload_n C dX1_share_8 rfl ?_
      refine r_getR C flX1_31 dX1_share_9 rfl rfl rfl ?_
      refine r_getI C flX1_55 dX1_share_12 rfl rfl ?_
      refine b_icge C (tgt := 87) rfl rfl dX1_share_15 rfl (fun h15_1 => ?_) (fun h15_1 => ?_)
      · exfalso; rw [r1] at *; omega
      · refine r_aload_n C dX1_share_18 rfl ?_
        refine r_getR C flX1_28 dX1_share_19 rfl rfl rfl ?_
        refine r_iload_n C dX1_share_22 rfl ?_
        refine r_iald C rfl dX1_share_23 (nIin hi3 (by decide)) ?_
        rw [ii, r5]
        refine r_istore C dX1_share_24 rfl rfl ?_
        refine r_iload_n C dX1_share_26 rfl ?_
        refine r_iload_n C dX1_share_27 rfl ?_
        refine b_icle C (tgt := 39) rfl rfl dX1_share_28 rfl (fun h28_2 => ?_) (fun h28_2 => ?_)
        · refine r_aload_n C dX1_share_39 rfl ?_
          refine r_getR C flX1_19 dX1_share_40 rfl rfl rfl ?_
          refine r_iload_n C dX1_share_43 rfl ?_
          refine r_dup2 C dX1_share_44 rfl rfl ?_
          refine r_iald C rfl dX1_share_45 (nIin hi3 (by decide)) ?_
          rw [ii]
          refine r_iload C dX1_share_46 rfl ?_
          refine r_iadd C dX1_share_48 ?_
          refine r_iast C rfl dX1_share_49 (nIin hi3 (by decide)) ?_
          rw [ii]
          refine r_aload_n C dX1_share_50 rfl ?_
          refine r_getR C flX1_22 dX1_share_51 rfl rfl rfl ?_
          refine r_iload_n C dX1_share_54 rfl ?_
          refine r_dup2 C dX1_share_55 rfl rfl ?_
          refine r_iald C rfl dX1_share_56 (nIin hi3 (by decide)) ?_
          rw [ii]
          refine r_iload C dX1_share_57 rfl ?_
          refine r_aload_n C dX1_share_59 rfl ?_
          refine r_getR C flX1_31 dX1_share_60 rfl rfl rfl ?_
          refine r_iload_n C dX1_share_63 rfl ?_
          refine cV (ci := 3) C hx (sX3_sweetness (d := d - 1) (by omega) i hi3 _ J b) moX3_sweetness mlX1_90 miX3_sweetness msX3_sweetness dX1_share_64 rfl rfl rfl rfl rfl (by omega) rfl rfl (kp ?_)
          refine r_imul C dX1_share_67 ?_
          refine r_iadd C dX1_share_68 ?_
          refine r_iast C rfl dX1_share_69 (nIin hi3 (by decide)) ?_
          rw [ii]
          refine r_aload_n C dX1_share_70 rfl ?_
          refine r_dup C dX1_share_71 rfl ?_
          refine r_getI C flX1_9 dX1_share_72 rfl rfl ?_
          refine r_iload C dX1_share_75 rfl ?_
          refine r_isub C dX1_share_77 ?_
          refine r_putI C flX1_9 dX1_share_78 rfl rfl rfl rfl rfl ?_
          refine r_iinc C (v := 1) dX1_share_81 rfl (by decide) rfl ?_
          refine r_goto C (tgt := 7) dX1_share_84 rfl ?_
          have hsh : shF lv all (I 21 i) = I 21 i := if_neg (Int.not_lt.mpr (by assumption))
          have e2 : I' 18 i = I 18 i := by rw [g2, if_neg (Nat.lt_irrefl i)]
          have e3 : I' 19 i = I 19 i := by rw [g3, if_neg (Nat.lt_irrefl i)]
          rw [nI_s]
          refine ih (i + 1) _ _ (by omega) (fun k => ?_) (fun k => ?_) ?_ (fun k hk => ?_) ?_
          · rw [u2_ne _ _ _ _ (Or.inl (by decide)), u2_ne _ _ _ _ (Or.inl (by decide))]
            by_cases e : k = i
            · subst e; rw [u2_same, e2, if_pos (Nat.lt_succ_self k), hsh]
            · rw [u2_ne _ _ _ _ (Or.inr e), g2]
              by_cases h : k < i
              · rw [if_pos h, if_pos (by omega)]
              · rw [if_neg h, if_neg (by omega)]
          · rw [u2_ne _ _ _ _ (Or.inl (by decide))]
            by_cases e : k = i
            · subst e; rw [u2_same, u2_ne _ _ _ _ (Or.inl (by decide)), u2_row (t' := 2) (by decide), r2, e3, if_pos (Nat.lt_succ_self k), hsh]
            · rw [u2_ne _ _ _ _ (Or.inr e), u2_ne _ _ _ _ (Or.inl (by decide)), g3]
              by_cases h : k < i
              · rw [if_pos h, if_pos (by omega)]
              · rw [if_neg h, if_neg (by omega)]
          · rw [u2_same, u2_ne _ _ _ _ (Or.inl (by decide)), u2_ne _ _ _ _ (Or.inl (by decide)), g0]
            show _ = sbF lv _ i - shF lv all (I 21 i)
            rw [hsh]
          · rw [u2_ne _ _ _ _ (Or.inr (by omega)), u2_ne _ _ _ _ (Or.inl (by decide)), u2_ne _ _ _ _ (Or.inl (by decide))]
            exact g1 k hk
          · exact ((hF.st (by decide)).st (by decide)).st (by decide)
        · refine r_iload C dX1_share_31 rfl ?_
          refine r_iload_n C dX1_share_33 rfl ?_
          refine r_imul C dX1_share_34 ?_
          refine r_iload_n C dX1_share_35 rfl ?_
          refine r_idiv C dX1_share_36 (fun z => by rw [z] at hall; exact absurd hall (by decide)) ?_
          refine r_istore C dX1_share_37 rfl rfl ?_
          refine r_aload_n C dX1_share_39 rfl ?_
          refine r_getR C flX1_19 dX1_share_40 rfl rfl rfl ?_
          refine r_iload_n C dX1_share_43 rfl ?_
          refine r_dup2 C dX1_share_44 rfl rfl ?_
          refine r_iald C rfl dX1_share_45 (nIin hi3 (by decide)) ?_
          rw [ii]
          refine r_iload C dX1_share_46 rfl ?_
          refine r_iadd C dX1_share_48 ?_
          refine r_iast C rfl dX1_share_49 (nIin hi3 (by decide)) ?_
          rw [ii]
          refine r_aload_n C dX1_share_50 rfl ?_
          refine r_getR C flX1_22 dX1_share_51 rfl rfl rfl ?_
          refine r_iload_n C dX1_share_54 rfl ?_
          refine r_dup2 C dX1_share_55 rfl rfl ?_
          refine r_iald C rfl dX1_share_56 (nIin hi3 (by decide)) ?_
          rw [ii]
          refine r_iload C dX1_share_57 rfl ?_
          refine r_aload_n C dX1_share_59 rfl ?_
          refine r_getR C flX1_31 dX1_share_60 rfl rfl rfl ?_
          refine r_iload_n C dX1_share_63 rfl ?_
          refine cV (ci := 3) C hx (sX3_sweetness (d := d - 1) (by omega) i hi3 _ J b) moX3_sweetness mlX1_90 miX3_sweetness msX3_sweetness dX1_share_64 rfl rfl rfl rfl rfl (by omega) rfl rfl (kp ?_)
          refine r_imul C dX1_share_67 ?_
          refine r_iadd C dX1_share_68 ?_
          refine r_iast C rfl dX1_share_69 (nIin hi3 (by decide)) ?_
          rw [ii]
          refine r_aload_n C dX1_share_70 rfl ?_
          refine r_dup C dX1_share_71 rfl ?_
          refine r_getI C flX1_9 dX1_share_72 rfl rfl ?_
          refine r_iload C dX1_share_75 rfl ?_
          refine r_isub C dX1_share_77 ?_
          refine r_putI C flX1_9 dX1_share_78 rfl rfl rfl rfl rfl ?_
          refine r_iinc C (v := 1) dX1_share_81 rfl (by decide) rfl ?_
          refine r_goto C (tgt := 7) dX1_share_84 rfl ?_
          have hsh : shF lv all (I 21 i) = I 21 i * lv / all := if_pos (by assumption)
          have e2 : I' 18 i = I 18 i := by rw [g2, if_neg (Nat.lt_irrefl i)]
          have e3 : I' 19 i = I 19 i := by rw [g3, if_neg (Nat.lt_irrefl i)]
          rw [nI_s]
          refine ih (i + 1) _ _ (by omega) (fun k => ?_) (fun k => ?_) ?_ (fun k hk => ?_) ?_
          · rw [u2_ne _ _ _ _ (Or.inl (by decide)), u2_ne _ _ _ _ (Or.inl (by decide))]
            by_cases e : k = i
            · subst e; rw [u2_same, e2, if_pos (Nat.lt_succ_self k), hsh]
            · rw [u2_ne _ _ _ _ (Or.inr e), g2]
              by_cases h : k < i
              · rw [if_pos h, if_pos (by omega)]
              · rw [if_neg h, if_neg (by omega)]
          · rw [u2_ne _ _ _ _ (Or.inl (by decide))]
            by_cases e : k = i
            · subst e; rw [u2_same, u2_ne _ _ _ _ (Or.inl (by decide)), u2_row (t' := 2) (by decide), r2, e3, if_pos (Nat.lt_succ_self k), hsh]
            · rw [u2_ne _ _ _ _ (Or.inr e), u2_ne _ _ _ _ (Or.inl (by decide)), g3]
              by_cases h : k < i
              · rw [if_pos h, if_pos (by omega)]
              · rw [if_neg h, if_neg (by omega)]
          · rw [u2_same, u2_ne _ _ _ _ (Or.inl (by decide)), u2_ne _ _ _ _ (Or.inl (by decide)), g0]
            show _ = sbF lv _ i - shF lv all (I 21 i)
            rw [hsh]
          · rw [u2_ne _ _ _ _ (Or.inr (by omega)), u2_ne _ _ _ _ (Or.inl (by decide)), u2_ne _ _ _ _ (Or.inl (by decide))]
            exact g1 k hk
          · exact ((hF.st (by decide)).st (by decide)).st (by decide)
  refine r_aload_n C dX1_share_0 rfl ?_
  refine r_getI C flX1_9 dX1_share_1 rfl rfl ?_
  rw [hlv]
  refine r_istore_n C dX1_share_4 rfl rfl ?_
  refine r_iconst C (v := 0) dX1_share_5 (by decide) ?_
  refine r_istore_n C dX1_share_6 rfl rfl ?_
  exact loop s 0 none I (by omega) (fun k => by rw [if_neg (Nat.not_lt_zero k)]) (fun k => by rw [if_neg (Nat.not_lt_zero k)]) hlv (fun k _ => rfl) Fr.rf
set_option maxRecDepth 100000 in
set_option maxHeartbeats 400000 in
theorem sX1_share_32 {g : Gb} {d : Nat} (hd : 3 ≤ d) (s : Nat) (all : Int32) (I : Is) (J : Js) (b : Bool) (hs : (I 1 1).toInt = (s : Int)) (hs3 : s ≤ 3) (hall : 0 < all.toInt) : MC9 g d mX1_share [.ref 32, .int all] I J b (Qv J b (fun I' =>
    (∀ k, I' 34 k = if k < s then I 34 k + shF (I 32 0) all (I 37 k) else I 34 k) ∧ (∀ k, I' 35 k = if k < s then I 35 k + shF (I 32 0) all (I 37 k) * swF (I 2) k else I 35 k) ∧
    I' 32 0 = sbF (I 32 0) (fun k => shF (I 32 0) all (I 37 k)) s ∧ (∀ k, 1 ≤ k → I' 32 k = I 32 k) ∧ Fr [32, 34, 35] I I')) := by
  refine ent9 (own := RX1) rfl rfl rfl (fun X hg hx C Z => ?_)
  subst hg
  have oi := one_int
  generalize hlv : I 32 0 = lv
  have loop : ∀ (m i : Nat) (x4 : Option Value) (I' : Is), m + i = s → (∀ k, I' 34 k = if k < i then I 34 k + shF lv all (I 37 k) else I 34 k) → (∀ k, I' 35 k = if k < i then I 35 k + shF lv all (I 37 k) * swF (I 2) k else I 35 k) →
      I' 32 0 = sbF lv (fun k => shF lv all (I 37 k)) i → (∀ k, 1 ≤ k → I' 32 k = I 32 k) → Fr [32, 34, 35] I I' →
      Aw X 7 [some (.ref 32), some (.int all), some (.int lv), some (.int (nI i)), x4] [] (st9 I' J b) := by
    intro m
    induction m with
    | zero =>
      intro i x4 I' hm g2 g3 g0 g1 hF
      have r1 : I' 1 = I 1 := hF 1 (by decide)
      have hi : i = s := by omega
      subst hi
      refine r_iload_n C dX1_share_7 rfl ?_
      refine r_aload_n C dX1_share_8 rfl ?_
      refine r_getR C flX1_31 dX1_share_9 rfl rfl rfl ?_
      refine r_getI C flX1_55 dX1_share_12 rfl rfl ?_
      refine b_icge C (tgt := 87) rfl rfl dX1_share_15 rfl (fun h15_1 => ?_) (fun h15_1 => ?_)
      · exact rv C Z dX1_share_87 ⟨by simpa only [hlv] using g2, by simpa only [hlv] using g3, by simpa only [hlv] using g0, g1, hF⟩
      · exfalso; rw [r1] at *; have := nIint (j := i) (by omega); omega
    | succ m ih =>
      intro i x4 I' hm g2 g3 g0 g1 hF
      have r1 : I' 1 = I 1 := hF 1 (by decide)
      have r2 : I' 2 = I 2 := hF 2 (by decide)
      have r5 : I' 37 = I 37 := hF 37 (by decide)
      have hi3 : i < 3 := by omega
      have ii : ix (nI i) = i := nIix (by omega)
      have ini : (nI i).toInt = (i : Int) := nIint (by omega)
      refine r_iload_n C dX1_share_7 rfl ?_
      refine r_aload_n C dX1_share_8 rfl ?_
      refine r_getR C flX1_31 dX1_share_9 rfl rfl rfl ?_
      refine r_getI C flX1_55 dX1_share_12 rfl rfl ?_
      refine b_icge C (tgt := 87) rfl rfl dX1_share_15 rfl (fun h15_1 => ?_) (fun h15_1 => ?_)
      · exfalso; rw [r1] at *; omega
      · refine r_aload_n C dX1_share_18 rfl ?_
        refine r_getR C flX1_28 dX1_share_19 rfl rfl rfl ?_
        refine r_iload_n C dX1_share_22 rfl ?_
        refine r_iald C rfl dX1_share_23 (nIin hi3 (by decide)) ?_
        rw [ii, r5]
        refine r_istore C dX1_share_24 rfl rfl ?_
        refine r_iload_n C dX1_share_26 rfl ?_
        refine r_iload_n C dX1_share_27 rfl ?_
        refine b_icle C (tgt := 39) rfl rfl dX1_share_28 rfl (fun h28_2 => ?_) (fun h28_2 => ?_)
        · refine r_aload_n C dX1_share_39 rfl ?_
          refine r_getR C flX1_19 dX1_share_40 rfl rfl rfl ?_
          refine r_iload_n C dX1_share_43 rfl ?_
          refine r_dup2 C dX1_share_44 rfl rfl ?_
          refine r_iald C rfl dX1_share_45 (nIin hi3 (by decide)) ?_
          rw [ii]
          refine r_iload C dX1_share_46 rfl ?_
          refine r_iadd C dX1_share_48 ?_
          refine r_iast C rfl dX1_share_49 (nIin hi3 (by decide)) ?_
          rw [ii]
          refine r_aload_n C dX1_share_50 rfl ?_
          refine r_getR C flX1_22 dX1_share_51 rfl rfl rfl ?_
          refine r_iload_n C dX1_share_54 rfl ?_
          refine r_dup2 C dX1_share_55 rfl rfl ?_
          refine r_iald C rfl dX1_share_56 (nIin hi3 (by decide)) ?_
          rw [ii]
          refine r_iload C dX1_share_57 rfl ?_
          refine r_aload_n C dX1_share_59 rfl ?_
          refine r_getR C flX1_31 dX1_share_60 rfl rfl rfl ?_
          refine r_iload_n C dX1_share_63 rfl ?_
          refine cV (ci := 3) C hx (sX3_sweetness (d := d - 1) (by omega) i hi3 _ J b) moX3_sweetness mlX1_90 miX3_sweetness msX3_sweetness dX1_share_64 rfl rfl rfl rfl rfl (by omega) rfl rfl (kp ?_)
          refine r_imul C dX1_share_67 ?_
          refine r_iadd C dX1_share_68 ?_
          refine r_iast C rfl dX1_share_69 (nIin hi3 (by decide)) ?_
          rw [ii]
          refine r_aload_n C dX1_share_70 rfl ?_
          refine r_dup C dX1_share_71 rfl ?_
          refine r_getI C flX1_9 dX1_share_72 rfl rfl ?_
          refine r_iload C dX1_share_75 rfl ?_
          refine r_isub C dX1_share_77 ?_
          refine r_putI C flX1_9 dX1_share_78 rfl rfl rfl rfl rfl ?_
          refine r_iinc C (v := 1) dX1_share_81 rfl (by decide) rfl ?_
          refine r_goto C (tgt := 7) dX1_share_84 rfl ?_
          have hsh : shF lv all (I 37 i) = I 37 i := if_neg (Int.not_lt.mpr (by assumption))
          have e2 : I' 34 i = I 34 i := by rw [g2, if_neg (Nat.lt_irrefl i)]
          have e3 : I' 35 i = I 35 i := by rw [g3, if_neg (Nat.lt_irrefl i)]
          rw [nI_s]
          refine ih (i + 1) _ _ (by omega) (fun k => ?_) (fun k => ?_) ?_ (fun k hk => ?_) ?_
          · rw [u2_ne _ _ _ _ (Or.inl (by decide)), u2_ne _ _ _ _ (Or.inl (by decide))]
            by_cases e : k = i
            · subst e; rw [u2_same, e2, if_pos (Nat.lt_succ_self k), hsh]
            · rw [u2_ne _ _ _ _ (Or.inr e), g2]
              by_cases h : k < i
              · rw [if_pos h, if_pos (by omega)]
              · rw [if_neg h, if_neg (by omega)]
          · rw [u2_ne _ _ _ _ (Or.inl (by decide))]
            by_cases e : k = i
            · subst e; rw [u2_same, u2_ne _ _ _ _ (Or.inl (by decide)), u2_row (t' := 2) (by decide), r2, e3, if_pos (Nat.lt_succ_self k), hsh]
            · rw [u2_ne _ _ _ _ (Or.inr e), u2_ne _ _ _ _ (Or.inl (by decide)), g3]
              by_cases h : k < i
              · rw [if_pos h, if_pos (by omega)]
              · rw [if_neg h, if_neg (by omega)]
          · rw [u2_same, u2_ne _ _ _ _ (Or.inl (by decide)), u2_ne _ _ _ _ (Or.inl (by decide)), g0]
            show _ = sbF lv _ i - shF lv all (I 37 i)
            rw [hsh]
          · rw [u2_ne _ _ _ _ (Or.inr (by omega)), u2_ne _ _ _ _ (Or.inl (by decide)), u2_ne _ _ _ _ (Or.inl (by decide))]
            exact g1 k hk
          · exact ((hF.st (by decide)).st (by decide)).st (by decide)
        · refine r_iload C dX1_share_31 rfl ?_
          refine r_iload_n C dX1_share_33 rfl ?_
          refine r_imul C dX1_share_34 ?_
          refine r_iload_n C dX1_share_35 rfl ?_
          refine r_idiv C dX1_share_36 (fun z => by rw [z] at hall; exact absurd hall (by decide)) ?_
          refine r_istore C dX1_share_37 rfl rfl ?_
          refine r_aload_n C dX1_share_39 rfl ?_
          refine r_getR C flX1_19 dX1_share_40 rfl rfl rfl ?_
          refine r_iload_n C dX1_share_43 rfl ?_
          refine r_dup2 C dX1_share_44 rfl rfl ?_
          refine r_iald C rfl dX1_share_45 (nIin hi3 (by decide)) ?_
          rw [ii]
          refine r_iload C dX1_share_46 rfl ?_
          refine r_iadd C dX1_share_48 ?_
          refine r_iast C rfl dX1_share_49 (nIin hi3 (by decide)) ?_
          rw [ii]
          refine r_aload_n C dX1_share_50 rfl ?_
          refine r_getR C flX1_22 dX1_share_51 rfl rfl rfl ?_
          refine r_iload_n C dX1_share_54 rfl ?_
          refine r_dup2 C dX1_share_55 rfl rfl ?_
          refine r_iald C rfl dX1_share_56 (nIin hi3 (by decide)) ?_
          rw [ii]
          refine r_iload C dX1_share_57 rfl ?_
          refine r_aload_n C dX1_share_59 rfl ?_
          refine r_getR C flX1_31 dX1_share_60 rfl rfl rfl ?_
          refine r_iload_n C dX1_share_63 rfl ?_
          refine cV (ci := 3) C hx (sX3_sweetness (d := d - 1) (by omega) i hi3 _ J b) moX3_sweetness mlX1_90 miX3_sweetness msX3_sweetness dX1_share_64 rfl rfl rfl rfl rfl (by omega) rfl rfl (kp ?_)
          refine r_imul C dX1_share_67 ?_
          refine r_iadd C dX1_share_68 ?_
          refine r_iast C rfl dX1_share_69 (nIin hi3 (by decide)) ?_
          rw [ii]
          refine r_aload_n C dX1_share_70 rfl ?_
          refine r_dup C dX1_share_71 rfl ?_
          refine r_getI C flX1_9 dX1_share_72 rfl rfl ?_
          refine r_iload C dX1_share_75 rfl ?_
          refine r_isub C dX1_share_77 ?_
          refine r_putI C flX1_9 dX1_share_78 rfl rfl rfl rfl rfl ?_
          refine r_iinc C (v := 1) dX1_share_81 rfl (by decide) rfl ?_
          refine r_goto C (tgt := 7) dX1_share_84 rfl ?_
          have hsh : shF lv all (I 37 i) = I 37 i * lv / all := if_pos (by assumption)
          have e2 : I' 34 i = I 34 i := by rw [g2, if_neg (Nat.lt_irrefl i)]
          have e3 : I' 35 i = I 35 i := by rw [g3, if_neg (Nat.lt_irrefl i)]
          rw [nI_s]
          refine ih (i + 1) _ _ (by omega) (fun k => ?_) (fun k => ?_) ?_ (fun k hk => ?_) ?_
          · rw [u2_ne _ _ _ _ (Or.inl (by decide)), u2_ne _ _ _ _ (Or.inl (by decide))]
            by_cases e : k = i
            · subst e; rw [u2_same, e2, if_pos (Nat.lt_succ_self k), hsh]
            · rw [u2_ne _ _ _ _ (Or.inr e), g2]
              by_cases h : k < i
              · rw [if_pos h, if_pos (by omega)]
              · rw [if_neg h, if_neg (by omega)]
          · rw [u2_ne _ _ _ _ (Or.inl (by decide))]
            by_cases e : k = i
            · subst e; rw [u2_same, u2_ne _ _ _ _ (Or.inl (by decide)), u2_row (t' := 2) (by decide), r2, e3, if_pos (Nat.lt_succ_self k), hsh]
            · rw [u2_ne _ _ _ _ (Or.inr e), u2_ne _ _ _ _ (Or.inl (by decide)), g3]
              by_cases h : k < i
              · rw [if_pos h, if_pos (by omega)]
              · rw [if_neg h, if_neg (by omega)]
          · rw [u2_same, u2_ne _ _ _ _ (Or.inl (by decide)), u2_ne _ _ _ _ (Or.inl (by decide)), g0]
            show _ = sbF lv _ i - shF lv all (I 37 i)
            rw [hsh]
          · rw [u2_ne _ _ _ _ (Or.inr (by omega)), u2_ne _ _ _ _ (Or.inl (by decide)), u2_ne _ _ _ _ (Or.inl (by decide))]
            exact g1 k hk
          · exact ((hF.st (by decide)).st (by decide)).st (by decide)
  refine r_aload_n C dX1_share_0 rfl ?_
  refine r_getI C flX1_9 dX1_share_1 rfl rfl ?_
  rw [hlv]
  refine r_istore_n C dX1_share_4 rfl rfl ?_
  refine r_iconst C (v := 0) dX1_share_5 (by decide) ?_
  refine r_istore_n C dX1_share_6 rfl rfl ?_
  exact loop s 0 none I (by omega) (fun k => by rw [if_neg (Nat.not_lt_zero k)]) (fun k => by rw [if_neg (Nat.not_lt_zero k)]) hlv (fun k _ => rfl) Fr.rf
set_option maxRecDepth 100000 in
set_option maxHeartbeats 400000 in
theorem sX1_share_38 {g : Gb} {d : Nat} (hd : 3 ≤ d) (s : Nat) (all : Int32) (I : Is) (J : Js) (b : Bool) (hs : (I 1 1).toInt = (s : Int)) (hs3 : s ≤ 3) (hall : 0 < all.toInt) : MC9 g d mX1_share [.ref 38, .int all] I J b (Qv J b (fun I' =>
    (∀ k, I' 40 k = if k < s then I 40 k + shF (I 38 0) all (I 43 k) else I 40 k) ∧ (∀ k, I' 41 k = if k < s then I 41 k + shF (I 38 0) all (I 43 k) * swF (I 2) k else I 41 k) ∧
    I' 38 0 = sbF (I 38 0) (fun k => shF (I 38 0) all (I 43 k)) s ∧ (∀ k, 1 ≤ k → I' 38 k = I 38 k) ∧ Fr [38, 40, 41] I I')) := by
  refine ent9 (own := RX1) rfl rfl rfl (fun X hg hx C Z => ?_)
  subst hg
  have oi := one_int
  generalize hlv : I 38 0 = lv
  have loop : ∀ (m i : Nat) (x4 : Option Value) (I' : Is), m + i = s → (∀ k, I' 40 k = if k < i then I 40 k + shF lv all (I 43 k) else I 40 k) → (∀ k, I' 41 k = if k < i then I 41 k + shF lv all (I 43 k) * swF (I 2) k else I 41 k) →
      I' 38 0 = sbF lv (fun k => shF lv all (I 43 k)) i → (∀ k, 1 ≤ k → I' 38 k = I 38 k) → Fr [38, 40, 41] I I' →
      Aw X 7 [some (.ref 38), some (.int all), some (.int lv), some (.int (nI i)), x4] [] (st9 I' J b) := by
    intro m
    induction m with
    | zero =>
      intro i x4 I' hm g2 g3 g0 g1 hF
      have r1 : I' 1 = I 1 := hF 1 (by decide)
      have hi : i = s := by omega
      subst hi
      refine r_iload_n C dX1_share_7 rfl ?_
      refine r_aload_n C dX1_share_8 rfl ?_
      refine r_getR C flX1_31 dX1_share_9 rfl rfl rfl ?_
      refine r_getI C flX1_55 dX1_share_12 rfl rfl ?_
      refine b_icge C (tgt := 87) rfl rfl dX1_share_15 rfl (fun h15_1 => ?_) (fun h15_1 => ?_)
      · exact rv C Z dX1_share_87 ⟨by simpa only [hlv] using g2, by simpa only [hlv] using g3, by simpa only [hlv] using g0, g1, hF⟩
      · exfalso; rw [r1] at *; have := nIint (j := i) (by omega); omega
    | succ m ih =>
      intro i x4 I' hm g2 g3 g0 g1 hF
      have r1 : I' 1 = I 1 := hF 1 (by decide)
      have r2 : I' 2 = I 2 := hF 2 (by decide)
      have r5 : I' 43 = I 43 := hF 43 (by decide)
      have hi3 : i < 3 := by omega
      have ii : ix (nI i) = i := nIix (by omega)
      have ini : (nI i).toInt = (i : Int) := nIint (by omega)
      refine r_iload_n C dX1_share_7 rfl ?_
      refine r_aload_n C dX1_share_8 rfl ?_
      refine r_getR C flX1_31 dX1_share_9 rfl rfl rfl ?_
      refine r_getI C flX1_55 dX1_share_12 rfl rfl ?_
      refine b_icge C (tgt := 87) rfl rfl dX1_share_15 rfl (fun h15_1 => ?_) (fun h15_1 => ?_)
      · exfalso; rw [r1] at *; omega
      · refine r_aload_n C dX1_share_18 rfl ?_
        refine r_getR C flX1_28 dX1_share_19 rfl rfl rfl ?_
        refine r_iload_n C dX1_share_22 rfl ?_
        refine r_iald C rfl dX1_share_23 (nIin hi3 (by decide)) ?_
        rw [ii, r5]
        refine r_istore C dX1_share_24 rfl rfl ?_
        refine r_iload_n C dX1_share_26 rfl ?_
        refine r_iload_n C dX1_share_27 rfl ?_
        refine b_icle C (tgt := 39) rfl rfl dX1_share_28 rfl (fun h28_2 => ?_) (fun h28_2 => ?_)
        · refine r_aload_n C dX1_share_39 rfl ?_
          refine r_getR C flX1_19 dX1_share_40 rfl rfl rfl ?_
          refine r_iload_n C dX1_share_43 rfl ?_
          refine r_dup2 C dX1_share_44 rfl rfl ?_
          refine r_iald C rfl dX1_share_45 (nIin hi3 (by decide)) ?_
          rw [ii]
          refine r_iload C dX1_share_46 rfl ?_
          refine r_iadd C dX1_share_48 ?_
          refine r_iast C rfl dX1_share_49 (nIin hi3 (by decide)) ?_
          rw [ii]
          refine r_aload_n C dX1_share_50 rfl ?_
          refine r_getR C flX1_22 dX1_share_51 rfl rfl rfl ?_
          refine r_iload_n C dX1_share_54 rfl ?_
          refine r_dup2 C dX1_share_55 rfl rfl ?_
          refine r_iald C rfl dX1_share_56 (nIin hi3 (by decide)) ?_
          rw [ii]
          refine r_iload C dX1_share_57 rfl ?_
          refine r_aload_n C dX1_share_59 rfl ?_
          refine r_getR C flX1_31 dX1_share_60 rfl rfl rfl ?_
          refine r_iload_n C dX1_share_63 rfl ?_
          refine cV (ci := 3) C hx (sX3_sweetness (d := d - 1) (by omega) i hi3 _ J b) moX3_sweetness mlX1_90 miX3_sweetness msX3_sweetness dX1_share_64 rfl rfl rfl rfl rfl (by omega) rfl rfl (kp ?_)
          refine r_imul C dX1_share_67 ?_
          refine r_iadd C dX1_share_68 ?_
          refine r_iast C rfl dX1_share_69 (nIin hi3 (by decide)) ?_
          rw [ii]
          refine r_aload_n C dX1_share_70 rfl ?_
          refine r_dup C dX1_share_71 rfl ?_
          refine r_getI C flX1_9 dX1_share_72 rfl rfl ?_
          refine r_iload C dX1_share_75 rfl ?_
          refine r_isub C dX1_share_77 ?_
          refine r_putI C flX1_9 dX1_share_78 rfl rfl rfl rfl rfl ?_
          refine r_iinc C (v := 1) dX1_share_81 rfl (by decide) rfl ?_
          refine r_goto C (tgt := 7) dX1_share_84 rfl ?_
          have hsh : shF lv all (I 43 i) = I 43 i := if_neg (Int.not_lt.mpr (by assumption))
          have e2 : I' 40 i = I 40 i := by rw [g2, if_neg (Nat.lt_irrefl i)]
          have e3 : I' 41 i = I 41 i := by rw [g3, if_neg (Nat.lt_irrefl i)]
          rw [nI_s]
          refine ih (i + 1) _ _ (by omega) (fun k => ?_) (fun k => ?_) ?_ (fun k hk => ?_) ?_
          · rw [u2_ne _ _ _ _ (Or.inl (by decide)), u2_ne _ _ _ _ (Or.inl (by decide))]
            by_cases e : k = i
            · subst e; rw [u2_same, e2, if_pos (Nat.lt_succ_self k), hsh]
            · rw [u2_ne _ _ _ _ (Or.inr e), g2]
              by_cases h : k < i
              · rw [if_pos h, if_pos (by omega)]
              · rw [if_neg h, if_neg (by omega)]
          · rw [u2_ne _ _ _ _ (Or.inl (by decide))]
            by_cases e : k = i
            · subst e; rw [u2_same, u2_ne _ _ _ _ (Or.inl (by decide)), u2_row (t' := 2) (by decide), r2, e3, if_pos (Nat.lt_succ_self k), hsh]
            · rw [u2_ne _ _ _ _ (Or.inr e), u2_ne _ _ _ _ (Or.inl (by decide)), g3]
              by_cases h : k < i
              · rw [if_pos h, if_pos (by omega)]
              · rw [if_neg h, if_neg (by omega)]
          · rw [u2_same, u2_ne _ _ _ _ (Or.inl (by decide)), u2_ne _ _ _ _ (Or.inl (by decide)), g0]
            show _ = sbF lv _ i - shF lv all (I 43 i)
            rw [hsh]
          · rw [u2_ne _ _ _ _ (Or.inr (by omega)), u2_ne _ _ _ _ (Or.inl (by decide)), u2_ne _ _ _ _ (Or.inl (by decide))]
            exact g1 k hk
          · exact ((hF.st (by decide)).st (by decide)).st (by decide)
        · refine r_iload C dX1_share_31 rfl ?_
          refine r_iload_n C dX1_share_33 rfl ?_
          refine r_imul C dX1_share_34 ?_
          refine r_iload_n C dX1_share_35 rfl ?_
          refine r_idiv C dX1_share_36 (fun z => by rw [z] at hall; exact absurd hall (by decide)) ?_
          refine r_istore C dX1_share_37 rfl rfl ?_
          refine r_aload_n C dX1_share_39 rfl ?_
          refine r_getR C flX1_19 dX1_share_40 rfl rfl rfl ?_
          refine r_iload_n C dX1_share_43 rfl ?_
          refine r_dup2 C dX1_share_44 rfl rfl ?_
          refine r_iald C rfl dX1_share_45 (nIin hi3 (by decide)) ?_
          rw [ii]
          refine r_iload C dX1_share_46 rfl ?_
          refine r_iadd C dX1_share_48 ?_
          refine r_iast C rfl dX1_share_49 (nIin hi3 (by decide)) ?_
          rw [ii]
          refine r_aload_n C dX1_share_50 rfl ?_
          refine r_getR C flX1_22 dX1_share_51 rfl rfl rfl ?_
          refine r_iload_n C dX1_share_54 rfl ?_
          refine r_dup2 C dX1_share_55 rfl rfl ?_
          refine r_iald C rfl dX1_share_56 (nIin hi3 (by decide)) ?_
          rw [ii]
          refine r_iload C dX1_share_57 rfl ?_
          refine r_aload_n C dX1_share_59 rfl ?_
          refine r_getR C flX1_31 dX1_share_60 rfl rfl rfl ?_
          refine r_iload_n C dX1_share_63 rfl ?_
          refine cV (ci := 3) C hx (sX3_sweetness (d := d - 1) (by omega) i hi3 _ J b) moX3_sweetness mlX1_90 miX3_sweetness msX3_sweetness dX1_share_64 rfl rfl rfl rfl rfl (by omega) rfl rfl (kp ?_)
          refine r_imul C dX1_share_67 ?_
          refine r_iadd C dX1_share_68 ?_
          refine r_iast C rfl dX1_share_69 (nIin hi3 (by decide)) ?_
          rw [ii]
          refine r_aload_n C dX1_share_70 rfl ?_
          refine r_dup C dX1_share_71 rfl ?_
          refine r_getI C flX1_9 dX1_share_72 rfl rfl ?_
          refine r_iload C dX1_share_75 rfl ?_
          refine r_isub C dX1_share_77 ?_
          refine r_putI C flX1_9 dX1_share_78 rfl rfl rfl rfl rfl ?_
          refine r_iinc C (v := 1) dX1_share_81 rfl (by decide) rfl ?_
          refine r_goto C (tgt := 7) dX1_share_84 rfl ?_
          have hsh : shF lv all (I 43 i) = I 43 i * lv / all := if_pos (by assumption)
          have e2 : I' 40 i = I 40 i := by rw [g2, if_neg (Nat.lt_irrefl i)]
          have e3 : I' 41 i = I 41 i := by rw [g3, if_neg (Nat.lt_irrefl i)]
          rw [nI_s]
          refine ih (i + 1) _ _ (by omega) (fun k => ?_) (fun k => ?_) ?_ (fun k hk => ?_) ?_
          · rw [u2_ne _ _ _ _ (Or.inl (by decide)), u2_ne _ _ _ _ (Or.inl (by decide))]
            by_cases e : k = i
            · subst e; rw [u2_same, e2, if_pos (Nat.lt_succ_self k), hsh]
            · rw [u2_ne _ _ _ _ (Or.inr e), g2]
              by_cases h : k < i
              · rw [if_pos h, if_pos (by omega)]
              · rw [if_neg h, if_neg (by omega)]
          · rw [u2_ne _ _ _ _ (Or.inl (by decide))]
            by_cases e : k = i
            · subst e; rw [u2_same, u2_ne _ _ _ _ (Or.inl (by decide)), u2_row (t' := 2) (by decide), r2, e3, if_pos (Nat.lt_succ_self k), hsh]
            · rw [u2_ne _ _ _ _ (Or.inr e), u2_ne _ _ _ _ (Or.inl (by decide)), g3]
              by_cases h : k < i
              · rw [if_pos h, if_pos (by omega)]
              · rw [if_neg h, if_neg (by omega)]
          · rw [u2_same, u2_ne _ _ _ _ (Or.inl (by decide)), u2_ne _ _ _ _ (Or.inl (by decide)), g0]
            show _ = sbF lv _ i - shF lv all (I 43 i)
            rw [hsh]
          · rw [u2_ne _ _ _ _ (Or.inr (by omega)), u2_ne _ _ _ _ (Or.inl (by decide)), u2_ne _ _ _ _ (Or.inl (by decide))]
            exact g1 k hk
          · exact ((hF.st (by decide)).st (by decide)).st (by decide)
  refine r_aload_n C dX1_share_0 rfl ?_
  refine r_getI C flX1_9 dX1_share_1 rfl rfl ?_
  rw [hlv]
  refine r_istore_n C dX1_share_4 rfl rfl ?_
  refine r_iconst C (v := 0) dX1_share_5 (by decide) ?_
  refine r_istore_n C dX1_share_6 rfl rfl ?_
  exact loop s 0 none I (by omega) (fun k => by rw [if_neg (Nat.not_lt_zero k)]) (fun k => by rw [if_neg (Nat.not_lt_zero k)]) hlv (fun k _ => rfl) Fr.rf
set_option maxRecDepth 100000 in
theorem sX1_melt_16 {g : Gb} {d : Nat} (hd : 2 ≤ d) (I : Is) (J : Js) (b : Bool) : MC9 g d mX1_melt [.ref 16] I J b (Qv J b (fun I' => I' 16 0 = I 16 0 + mlF (en I b) (I 16 1) (I 16 0) ∧ I' 16 1 = I 16 1 - mlF (en I b) (I 16 1) (I 16 0) ∧ (∀ k, 2 ≤ k → I' 16 k = I 16 k) ∧ Fr [16] I I')) := by
  refine ent9 (own := RX1) rfl rfl rfl (fun X hg hx C Z => ?_)
  subst hg
  refine r_aload_n C dX1_melt_0 rfl ?_
  refine r_getI C flX1_49 dX1_melt_1 rfl rfl ?_
  refine b_ifle C (tgt := 55) dX1_melt_4 rfl (fun h4_1 => ?_) (fun h4_1 => ?_)
  · exact rv C Z dX1_melt_55 ⟨by unfold mlF; rw [if_neg (Int.not_lt.mpr (by assumption))]; exact (Int32.add_zero _).symm, by unfold mlF; rw [if_neg (Int.not_lt.mpr (by assumption))]; exact (Int32.sub_zero _).symm, fun _ _ => rfl, Fr.rf⟩
  · refine r_aload_n C dX1_melt_7 rfl ?_
    refine r_getR C flX1_31 dX1_melt_8 rfl rfl rfl ?_
    refine r_bipush C (v := 8) dX1_melt_11 (by decide) ?_
    refine cV (ci := 3) C hx (sOg (d := d - 1) (by omega) 8 (by decide) (by decide) I J b) moX3_ofGlass mlX1_94 miX3_ofGlass msX3_ofGlass dX1_melt_13 rfl rfl rfl rfl rfl (by omega) rfl rfl (kp ?_)
    refine r_aload_n C dX1_melt_16 rfl ?_
    refine r_getI C flX1_49 dX1_melt_17 rfl rfl ?_
    refine cmin C hx mlX1_85 dX1_melt_20 (by omega) rfl rfl ?_
    refine r_sipush C (v := 999) dX1_melt_23 (by decide) ?_
    refine r_aload_n C dX1_melt_26 rfl ?_
    refine r_getI C flX1_9 dX1_melt_27 rfl rfl ?_
    refine r_isub C dX1_melt_30 ?_
    refine cmin C hx mlX1_85 dX1_melt_31 (by omega) rfl rfl ?_
    refine r_istore_n C dX1_melt_34 rfl rfl ?_
    refine r_aload_n C dX1_melt_35 rfl ?_
    refine r_dup C dX1_melt_36 rfl ?_
    refine r_getI C flX1_9 dX1_melt_37 rfl rfl ?_
    refine r_iload_n C dX1_melt_40 rfl ?_
    refine r_iadd C dX1_melt_41 ?_
    refine r_putI C flX1_9 dX1_melt_42 rfl rfl rfl rfl rfl ?_
    refine r_aload_n C dX1_melt_45 rfl ?_
    refine r_dup C dX1_melt_46 rfl ?_
    refine r_getI C flX1_49 dX1_melt_47 rfl rfl ?_
    refine r_iload_n C dX1_melt_50 rfl ?_
    refine r_isub C dX1_melt_51 ?_
    refine r_putI C flX1_49 dX1_melt_52 rfl rfl rfl rfl rfl ?_
    exact rv C Z dX1_melt_55 ⟨by unfold mlF; rw [if_pos (by assumption), u2_ne _ _ _ _ (Or.inr (by decide)), u2_same]; rfl, by unfold mlF; rw [if_pos (by assumption), u2_same, u2_ne _ _ _ _ (Or.inr (by decide))]; rfl, fun k hk => by rw [u2_ne _ _ _ _ (Or.inr (by omega)), u2_ne _ _ _ _ (Or.inr (by omega))], (Fr.rf.st (by decide)).st (by decide)⟩
set_option maxRecDepth 100000 in
theorem sX1_melt_32 {g : Gb} {d : Nat} (hd : 2 ≤ d) (I : Is) (J : Js) (b : Bool) : MC9 g d mX1_melt [.ref 32] I J b (Qv J b (fun I' => I' 32 0 = I 32 0 + mlF (en I b) (I 32 1) (I 32 0) ∧ I' 32 1 = I 32 1 - mlF (en I b) (I 32 1) (I 32 0) ∧ (∀ k, 2 ≤ k → I' 32 k = I 32 k) ∧ Fr [32] I I')) := by
  refine ent9 (own := RX1) rfl rfl rfl (fun X hg hx C Z => ?_)
  subst hg
  refine r_aload_n C dX1_melt_0 rfl ?_
  refine r_getI C flX1_49 dX1_melt_1 rfl rfl ?_
  refine b_ifle C (tgt := 55) dX1_melt_4 rfl (fun h4_1 => ?_) (fun h4_1 => ?_)
  · exact rv C Z dX1_melt_55 ⟨by unfold mlF; rw [if_neg (Int.not_lt.mpr (by assumption))]; exact (Int32.add_zero _).symm, by unfold mlF; rw [if_neg (Int.not_lt.mpr (by assumption))]; exact (Int32.sub_zero _).symm, fun _ _ => rfl, Fr.rf⟩
  · refine r_aload_n C dX1_melt_7 rfl ?_
    refine r_getR C flX1_31 dX1_melt_8 rfl rfl rfl ?_
    refine r_bipush C (v := 8) dX1_melt_11 (by decide) ?_
    refine cV (ci := 3) C hx (sOg (d := d - 1) (by omega) 8 (by decide) (by decide) I J b) moX3_ofGlass mlX1_94 miX3_ofGlass msX3_ofGlass dX1_melt_13 rfl rfl rfl rfl rfl (by omega) rfl rfl (kp ?_)
    refine r_aload_n C dX1_melt_16 rfl ?_
    refine r_getI C flX1_49 dX1_melt_17 rfl rfl ?_
    refine cmin C hx mlX1_85 dX1_melt_20 (by omega) rfl rfl ?_
    refine r_sipush C (v := 999) dX1_melt_23 (by decide) ?_
    refine r_aload_n C dX1_melt_26 rfl ?_
    refine r_getI C flX1_9 dX1_melt_27 rfl rfl ?_
    refine r_isub C dX1_melt_30 ?_
    refine cmin C hx mlX1_85 dX1_melt_31 (by omega) rfl rfl ?_
    refine r_istore_n C dX1_melt_34 rfl rfl ?_
    refine r_aload_n C dX1_melt_35 rfl ?_
    refine r_dup C dX1_melt_36 rfl ?_
    refine r_getI C flX1_9 dX1_melt_37 rfl rfl ?_
    refine r_iload_n C dX1_melt_40 rfl ?_
    refine r_iadd C dX1_melt_41 ?_
    refine r_putI C flX1_9 dX1_melt_42 rfl rfl rfl rfl rfl ?_
    refine r_aload_n C dX1_melt_45 rfl ?_
    refine r_dup C dX1_melt_46 rfl ?_
    refine r_getI C flX1_49 dX1_melt_47 rfl rfl ?_
    refine r_iload_n C dX1_melt_50 rfl ?_
    refine r_isub C dX1_melt_51 ?_
    refine r_putI C flX1_49 dX1_melt_52 rfl rfl rfl rfl rfl ?_
    exact rv C Z dX1_melt_55 ⟨by unfold mlF; rw [if_pos (by assumption), u2_ne _ _ _ _ (Or.inr (by decide)), u2_same]; rfl, by unfold mlF; rw [if_pos (by assumption), u2_same, u2_ne _ _ _ _ (Or.inr (by decide))]; rfl, fun k hk => by rw [u2_ne _ _ _ _ (Or.inr (by omega)), u2_ne _ _ _ _ (Or.inr (by omega))], (Fr.rf.st (by decide)).st (by decide)⟩
set_option maxRecDepth 100000 in
theorem sX1_melt_38 {g : Gb} {d : Nat} (hd : 2 ≤ d) (I : Is) (J : Js) (b : Bool) : MC9 g d mX1_melt [.ref 38] I J b (Qv J b (fun I' => I' 38 0 = I 38 0 + mlF (en I b) (I 38 1) (I 38 0) ∧ I' 38 1 = I 38 1 - mlF (en I b) (I 38 1) (I 38 0) ∧ (∀ k, 2 ≤ k → I' 38 k = I 38 k) ∧ Fr [38] I I')) := by
  refine ent9 (own := RX1) rfl rfl rfl (fun X hg hx C Z => ?_)
  subst hg
  refine r_aload_n C dX1_melt_0 rfl ?_
  refine r_getI C flX1_49 dX1_melt_1 rfl rfl ?_
  refine b_ifle C (tgt := 55) dX1_melt_4 rfl (fun h4_1 => ?_) (fun h4_1 => ?_)
  · exact rv C Z dX1_melt_55 ⟨by unfold mlF; rw [if_neg (Int.not_lt.mpr (by assumption))]; exact (Int32.add_zero _).symm, by unfold mlF; rw [if_neg (Int.not_lt.mpr (by assumption))]; exact (Int32.sub_zero _).symm, fun _ _ => rfl, Fr.rf⟩
  · refine r_aload_n C dX1_melt_7 rfl ?_
    refine r_getR C flX1_31 dX1_melt_8 rfl rfl rfl ?_
    refine r_bipush C (v := 8) dX1_melt_11 (by decide) ?_
    refine cV (ci := 3) C hx (sOg (d := d - 1) (by omega) 8 (by decide) (by decide) I J b) moX3_ofGlass mlX1_94 miX3_ofGlass msX3_ofGlass dX1_melt_13 rfl rfl rfl rfl rfl (by omega) rfl rfl (kp ?_)
    refine r_aload_n C dX1_melt_16 rfl ?_
    refine r_getI C flX1_49 dX1_melt_17 rfl rfl ?_
    refine cmin C hx mlX1_85 dX1_melt_20 (by omega) rfl rfl ?_
    refine r_sipush C (v := 999) dX1_melt_23 (by decide) ?_
    refine r_aload_n C dX1_melt_26 rfl ?_
    refine r_getI C flX1_9 dX1_melt_27 rfl rfl ?_
    refine r_isub C dX1_melt_30 ?_
    refine cmin C hx mlX1_85 dX1_melt_31 (by omega) rfl rfl ?_
    refine r_istore_n C dX1_melt_34 rfl rfl ?_
    refine r_aload_n C dX1_melt_35 rfl ?_
    refine r_dup C dX1_melt_36 rfl ?_
    refine r_getI C flX1_9 dX1_melt_37 rfl rfl ?_
    refine r_iload_n C dX1_melt_40 rfl ?_
    refine r_iadd C dX1_melt_41 ?_
    refine r_putI C flX1_9 dX1_melt_42 rfl rfl rfl rfl rfl ?_
    refine r_aload_n C dX1_melt_45 rfl ?_
    refine r_dup C dX1_melt_46 rfl ?_
    refine r_getI C flX1_49 dX1_melt_47 rfl rfl ?_
    refine r_iload_n C dX1_melt_50 rfl ?_
    refine r_isub C dX1_melt_51 ?_
    refine r_putI C flX1_49 dX1_melt_52 rfl rfl rfl rfl rfl ?_
    exact rv C Z dX1_melt_55 ⟨by unfold mlF; rw [if_pos (by assumption), u2_ne _ _ _ _ (Or.inr (by decide)), u2_same]; rfl, by unfold mlF; rw [if_pos (by assumption), u2_same, u2_ne _ _ _ _ (Or.inr (by decide))]; rfl, fun k hk => by rw [u2_ne _ _ _ _ (Or.inr (by omega)), u2_ne _ _ _ _ (Or.inr (by omega))], (Fr.rf.st (by decide)).st (by decide)⟩
