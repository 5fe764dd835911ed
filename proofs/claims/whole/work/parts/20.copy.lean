set_option maxRecDepth 100000 in
set_option maxHeartbeats 400000 in
theorem sX1_copy_22_16 {g : Gb} {d : Nat} (hd : 1 ≤ d) (I : Is) (J : Js) (b : Bool) : MC9 g d mX1_copy [.ref 22, .ref 16] I J b (Qv J b (fun I' => EqV (gv I' 22) (gv I 16) ∧ I' 22 3 = I 16 3 ∧ I' 22 4 = I 16 4 ∧ Fr [22, 23, 24, 25, 26] I I')) := by
  refine ent9 (own := RX1) rfl rfl rfl (fun X hg hx C Z => ?_)
  subst hg
  have loop : ∀ (m i : Nat) (I' : Is), m + i = 3 → I' 22 0 = I 16 0 → I' 22 1 = I 16 1 → I' 22 2 = I 16 2 → I' 22 3 = I 16 3 → I' 22 4 = I 16 4 → (∀ k, k < 3 → I' 23 k = I 17 k) → (∀ k, k < i → I' 24 k = I 18 k) → (∀ k, k < i → I' 25 k = I 19 k) → (∀ k, k < i → I' 26 k = I 20 k) → Fr [22, 23, 24, 25, 26] I I' →
      Aw X 23 [some (.ref 22), some (.ref 16), some (.int (nI i))] [] (st9 I' J b) := by
    intro m
    induction m with
    | zero =>
      intro i I' hm a0 a1 a2 a3 a4 b1 b2 b3 b4 hF
      have hi : i = 3 := by omega
      subst hi
      refine r_iload_n C dX1_copy_23 rfl ?_
      refine r_iconst C (v := 3) dX1_copy_24 (by decide) ?_
      refine b_icge C (tgt := 70) (my := 3) rfl rfl dX1_copy_25 rfl (fun h25_1 => ?_) (fun h25_1 => ?_)
      · exact rv C Z dX1_copy_70 ⟨⟨a0, a1, a2, b1, b2, b3, b4⟩, a3, a4, hF⟩
      · exfalso; have := nIint (j := 3) (by omega); omega
    | succ m ih =>
      intro i I' hm a0 a1 a2 a3 a4 b1 b2 b3 b4 hF
      have hi3 : i < 3 := by omega
      have ii : ix (nI i) = i := nIix (by omega)
      have ini : (nI i).toInt = (i : Int) := nIint (by omega)
      refine r_iload_n C dX1_copy_23 rfl ?_
      refine r_iconst C (v := 3) dX1_copy_24 (by decide) ?_
      refine b_icge C (tgt := 70) (my := 3) rfl rfl dX1_copy_25 rfl (fun h25_1 => ?_) (fun h25_1 => ?_)
      · exfalso; omega
      · refine r_aload_n C dX1_copy_28 rfl ?_
        refine r_getR C flX1_19 dX1_copy_29 rfl rfl rfl ?_
        refine r_iload_n C dX1_copy_32 rfl ?_
        refine r_aload_n C dX1_copy_33 rfl ?_
        refine r_getR C flX1_19 dX1_copy_34 rfl rfl rfl ?_
        refine r_iload_n C dX1_copy_37 rfl ?_
        refine r_iald C rfl dX1_copy_38 (nIin hi3 (by decide)) ?_
        rw [ii]
        refine r_iast C rfl dX1_copy_39 (nIin hi3 (by decide)) ?_
        rw [ii]
        refine r_aload_n C dX1_copy_40 rfl ?_
        refine r_getR C flX1_22 dX1_copy_41 rfl rfl rfl ?_
        refine r_iload_n C dX1_copy_44 rfl ?_
        refine r_aload_n C dX1_copy_45 rfl ?_
        refine r_getR C flX1_22 dX1_copy_46 rfl rfl rfl ?_
        refine r_iload_n C dX1_copy_49 rfl ?_
        refine r_iald C rfl dX1_copy_50 (nIin hi3 (by decide)) ?_
        rw [ii]
        refine r_iast C rfl dX1_copy_51 (nIin hi3 (by decide)) ?_
        rw [ii]
        refine r_aload_n C dX1_copy_52 rfl ?_
        refine r_getR C flX1_25 dX1_copy_53 rfl rfl rfl ?_
        refine r_iload_n C dX1_copy_56 rfl ?_
        refine r_aload_n C dX1_copy_57 rfl ?_
        refine r_getR C flX1_25 dX1_copy_58 rfl rfl rfl ?_
        refine r_iload_n C dX1_copy_61 rfl ?_
        refine r_iald C rfl dX1_copy_62 (nIin hi3 (by decide)) ?_
        rw [ii]
        refine r_iast C rfl dX1_copy_63 (nIin hi3 (by decide)) ?_
        rw [ii]
        refine r_iinc C (v := 1) dX1_copy_64 rfl (by decide) rfl ?_
        refine r_goto C (tgt := 23) dX1_copy_67 rfl ?_
        rw [nI_s]
        refine ih (i + 1) _ (by omega) ?_ ?_ ?_ ?_ ?_ (fun k hk => ?_) (fun k hk => ?_) (fun k hk => ?_) (fun k hk => ?_) (((hF.st (by decide)).st (by decide)).st (by decide))
        · rw [u2_row (by decide), u2_row (by decide), u2_row (by decide)]; exact a0
        · rw [u2_row (by decide), u2_row (by decide), u2_row (by decide)]; exact a1
        · rw [u2_row (by decide), u2_row (by decide), u2_row (by decide)]; exact a2
        · rw [u2_row (by decide), u2_row (by decide), u2_row (by decide)]; exact a3
        · rw [u2_row (by decide), u2_row (by decide), u2_row (by decide)]; exact a4
        · rw [u2_row (by decide), u2_row (by decide), u2_row (by decide)]; exact b1 k hk
        · rw [u2_row (by decide), u2_row (by decide)]
          by_cases e : k = i
          · subst e; rw [u2_same, hF 18 (by decide)]
          · rw [u2_ne _ _ _ _ (Or.inr e)]; exact b2 k (by omega)
        · rw [u2_row (by decide)]
          by_cases e : k = i
          · subst e; rw [u2_same, u2_row (by decide), hF 19 (by decide)]
          · rw [u2_ne _ _ _ _ (Or.inr e), u2_row (by decide)]; exact b3 k (by omega)
        · by_cases e : k = i
          · subst e; rw [u2_same, u2_row (by decide), u2_row (by decide), hF 20 (by decide)]
          · rw [u2_ne _ _ _ _ (Or.inr e), u2_row (by decide), u2_row (by decide)]; exact b4 k (by omega)
  refine r_aload_n C dX1_copy_0 rfl ?_
  refine r_aload_n C dX1_copy_1 rfl ?_
  refine cV (ci := 1) C hx (sX1_begin_22_16 (d := d - 1) (by omega) I J b) moX1_begin mlX1_39 miX1_begin msX1_begin dX1_copy_2 rfl rfl rfl rfl rfl (by omega) rfl rfl (kv (fun I_2_1 q_2_1 => ?_))
  obtain ⟨⟨a0, a1, a2, b1, -, -, -⟩, ar, hF⟩ := q_2_1
  generalize I_2_1 = I1 at a0 a1 a2 b1 ar hF ⊢
  refine r_aload_n C dX1_copy_5 rfl ?_
  refine r_aload_n C dX1_copy_6 rfl ?_
  refine r_getI C flX1_43 dX1_copy_7 rfl rfl ?_
  refine r_putI C flX1_43 dX1_copy_10 rfl rfl rfl rfl rfl ?_
  refine r_aload_n C dX1_copy_13 rfl ?_
  refine r_aload_n C dX1_copy_14 rfl ?_
  refine r_getI C flX1_46 dX1_copy_15 rfl rfl ?_
  refine r_putI C flX1_46 dX1_copy_18 rfl rfl rfl rfl rfl ?_
  refine r_iconst C (v := 0) dX1_copy_21 (by decide) ?_
  refine r_istore_n C dX1_copy_22 rfl rfl ?_
  exact loop 3 0 _ rfl (by rw [u2_ne _ _ _ _ (Or.inr (by decide)), u2_ne _ _ _ _ (Or.inr (by decide))]; exact a0) (by rw [u2_ne _ _ _ _ (Or.inr (by decide)), u2_ne _ _ _ _ (Or.inr (by decide))]; exact a1) (by rw [u2_ne _ _ _ _ (Or.inr (by decide)), u2_ne _ _ _ _ (Or.inr (by decide))]; exact a2) (by rw [u2_ne _ _ _ _ (Or.inr (by decide)), u2_same, hF 16 (by decide)]) (by rw [u2_same, u2_row (by decide), hF 16 (by decide)]) (fun k hk => by rw [u2_row (by decide), u2_row (by decide)]; exact b1 k hk) (fun k hk => absurd hk (Nat.not_lt_zero k)) (fun k hk => absurd hk (Nat.not_lt_zero k)) (fun k hk => absurd hk (Nat.not_lt_zero k)) ((hF.st (by decide)).st (by decide))
set_option maxRecDepth 100000 in
set_option maxHeartbeats 400000 in
theorem sX1_copy_16_22 {g : Gb} {d : Nat} (hd : 1 ≤ d) (I : Is) (J : Js) (b : Bool) : MC9 g d mX1_copy [.ref 16, .ref 22] I J b (Qv J b (fun I' => EqV (gv I' 16) (gv I 22) ∧ I' 16 3 = I 22 3 ∧ I' 16 4 = I 22 4 ∧ Fr [16, 17, 18, 19, 20] I I')) := by
  refine ent9 (own := RX1) rfl rfl rfl (fun X hg hx C Z => ?_)
  subst hg
  have loop : ∀ (m i : Nat) (I' : Is), m + i = 3 → I' 16 0 = I 22 0 → I' 16 1 = I 22 1 → I' 16 2 = I 22 2 → I' 16 3 = I 22 3 → I' 16 4 = I 22 4 → (∀ k, k < 3 → I' 17 k = I 23 k) → (∀ k, k < i → I' 18 k = I 24 k) → (∀ k, k < i → I' 19 k = I 25 k) → (∀ k, k < i → I' 20 k = I 26 k) → Fr [16, 17, 18, 19, 20] I I' →
      Aw X 23 [some (.ref 16), some (.ref 22), some (.int (nI i))] [] (st9 I' J b) := by
    intro m
    induction m with
    | zero =>
      intro i I' hm a0 a1 a2 a3 a4 b1 b2 b3 b4 hF
      have hi : i = 3 := by omega
      subst hi
      refine r_iload_n C dX1_copy_23 rfl ?_
      refine r_iconst C (v := 3) dX1_copy_24 (by decide) ?_
      refine b_icge C (tgt := 70) (my := 3) rfl rfl dX1_copy_25 rfl (fun h25_1 => ?_) (fun h25_1 => ?_)
      · exact rv C Z dX1_copy_70 ⟨⟨a0, a1, a2, b1, b2, b3, b4⟩, a3, a4, hF⟩
      · exfalso; have := nIint (j := 3) (by omega); omega
    | succ m ih =>
      intro i I' hm a0 a1 a2 a3 a4 b1 b2 b3 b4 hF
      have hi3 : i < 3 := by omega
      have ii : ix (nI i) = i := nIix (by omega)
      have ini : (nI i).toInt = (i : Int) := nIint (by omega)
      refine r_iload_n C dX1_copy_23 rfl ?_
      refine r_iconst C (v := 3) dX1_copy_24 (by decide) ?_
      refine b_icge C (tgt := 70) (my := 3) rfl rfl dX1_copy_25 rfl (fun h25_1 => ?_) (fun h25_1 => ?_)
      · exfalso; omega
      · refine r_aload_n C dX1_copy_28 rfl ?_
        refine r_getR C flX1_19 dX1_copy_29 rfl rfl rfl ?_
        refine r_iload_n C dX1_copy_32 rfl ?_
        refine r_aload_n C dX1_copy_33 rfl ?_
        refine r_getR C flX1_19 dX1_copy_34 rfl rfl rfl ?_
        refine r_iload_n C dX1_copy_37 rfl ?_
        refine r_iald C rfl dX1_copy_38 (nIin hi3 (by decide)) ?_
        rw [ii]
        refine r_iast C rfl dX1_copy_39 (nIin hi3 (by decide)) ?_
        rw [ii]
        refine r_aload_n C dX1_copy_40 rfl ?_
        refine r_getR C flX1_22 dX1_copy_41 rfl rfl rfl ?_
        refine r_iload_n C dX1_copy_44 rfl ?_
        refine r_aload_n C dX1_copy_45 rfl ?_
        refine r_getR C flX1_22 dX1_copy_46 rfl rfl rfl ?_
        refine r_iload_n C dX1_copy_49 rfl ?_
        refine r_iald C rfl dX1_copy_50 (nIin hi3 (by decide)) ?_
        rw [ii]
        refine r_iast C rfl dX1_copy_51 (nIin hi3 (by decide)) ?_
        rw [ii]
        refine r_aload_n C dX1_copy_52 rfl ?_
        refine r_getR C flX1_25 dX1_copy_53 rfl rfl rfl ?_
        refine r_iload_n C dX1_copy_56 rfl ?_
        refine r_aload_n C dX1_copy_57 rfl ?_
        refine r_getR C flX1_25 dX1_copy_58 rfl rfl rfl ?_
        refine r_iload_n C dX1_copy_61 rfl ?_
        refine r_iald C rfl dX1_copy_62 (nIin hi3 (by decide)) ?_
        rw [ii]
        refine r_iast C rfl dX1_copy_63 (nIin hi3 (by decide)) ?_
        rw [ii]
        refine r_iinc C (v := 1) dX1_copy_64 rfl (by decide) rfl ?_
        refine r_goto C (tgt := 23) dX1_copy_67 rfl ?_
        rw [nI_s]
        refine ih (i + 1) _ (by omega) ?_ ?_ ?_ ?_ ?_ (fun k hk => ?_) (fun k hk => ?_) (fun k hk => ?_) (fun k hk => ?_) (((hF.st (by decide)).st (by decide)).st (by decide))
        · rw [u2_row (by decide), u2_row (by decide), u2_row (by decide)]; exact a0
        · rw [u2_row (by decide), u2_row (by decide), u2_row (by decide)]; exact a1
        · rw [u2_row (by decide), u2_row (by decide), u2_row (by decide)]; exact a2
        · rw [u2_row (by decide), u2_row (by decide), u2_row (by decide)]; exact a3
        · rw [u2_row (by decide), u2_row (by decide), u2_row (by decide)]; exact a4
        · rw [u2_row (by decide), u2_row (by decide), u2_row (by decide)]; exact b1 k hk
        · rw [u2_row (by decide), u2_row (by decide)]
          by_cases e : k = i
          · subst e; rw [u2_same, hF 24 (by decide)]
          · rw [u2_ne _ _ _ _ (Or.inr e)]; exact b2 k (by omega)
        · rw [u2_row (by decide)]
          by_cases e : k = i
          · subst e; rw [u2_same, u2_row (by decide), hF 25 (by decide)]
          · rw [u2_ne _ _ _ _ (Or.inr e), u2_row (by decide)]; exact b3 k (by omega)
        · by_cases e : k = i
          · subst e; rw [u2_same, u2_row (by decide), u2_row (by decide), hF 26 (by decide)]
          · rw [u2_ne _ _ _ _ (Or.inr e), u2_row (by decide), u2_row (by decide)]; exact b4 k (by omega)
  refine r_aload_n C dX1_copy_0 rfl ?_
  refine r_aload_n C dX1_copy_1 rfl ?_
  refine cV (ci := 1) C hx (sX1_begin_16_22 (d := d - 1) (by omega) I J b) moX1_begin mlX1_39 miX1_begin msX1_begin dX1_copy_2 rfl rfl rfl rfl rfl (by omega) rfl rfl (kv (fun I_2_1 q_2_1 => ?_))
  obtain ⟨⟨a0, a1, a2, b1, -, -, -⟩, ar, hF⟩ := q_2_1
  generalize I_2_1 = I1 at a0 a1 a2 b1 ar hF ⊢
  refine r_aload_n C dX1_copy_5 rfl ?_
  refine r_aload_n C dX1_copy_6 rfl ?_
  refine r_getI C flX1_43 dX1_copy_7 rfl rfl ?_
  refine r_putI C flX1_43 dX1_copy_10 rfl rfl rfl rfl rfl ?_
  refine r_aload_n C dX1_copy_13 rfl ?_
  refine r_aload_n C dX1_copy_14 rfl ?_
  refine r_getI C flX1_46 dX1_copy_15 rfl rfl ?_
  refine r_putI C flX1_46 dX1_copy_18 rfl rfl rfl rfl rfl ?_
  refine r_iconst C (v := 0) dX1_copy_21 (by decide) ?_
  refine r_istore_n C dX1_copy_22 rfl rfl ?_
  exact loop 3 0 _ rfl (by rw [u2_ne _ _ _ _ (Or.inr (by decide)), u2_ne _ _ _ _ (Or.inr (by decide))]; exact a0) (by rw [u2_ne _ _ _ _ (Or.inr (by decide)), u2_ne _ _ _ _ (Or.inr (by decide))]; exact a1) (by rw [u2_ne _ _ _ _ (Or.inr (by decide)), u2_ne _ _ _ _ (Or.inr (by decide))]; exact a2) (by rw [u2_ne _ _ _ _ (Or.inr (by decide)), u2_same, hF 22 (by decide)]) (by rw [u2_same, u2_row (by decide), hF 22 (by decide)]) (fun k hk => by rw [u2_row (by decide), u2_row (by decide)]; exact b1 k hk) (fun k hk => absurd hk (Nat.not_lt_zero k)) (fun k hk => absurd hk (Nat.not_lt_zero k)) (fun k hk => absurd hk (Nat.not_lt_zero k)) ((hF.st (by decide)).st (by decide))
set_option maxRecDepth 100000 in
theorem sX1_refill {g : Gb} {d : Nat} (hd : 0 ≤ d) (v : Int32) (I : Is) (J : Js) (b : Bool) : MC9 g d mX1_refill [.ref 16, .int v] I J b (Qv J b (fun I' => I' 16 0 = v ∧ I' 16 1 = I 16 1 ∧ I' 16 2 = 0 ∧ I' 16 3 = I 16 3 ∧ I' 16 4 = I 16 4 + 1 ∧ (∀ k, k < 3 → I' 17 k = 0) ∧ Fr [16, 17] I I')) := by
  refine ent9 (own := RX1) rfl rfl rfl (fun X hg hx C Z => ?_)
  subst hg
  have loop : ∀ (m i : Nat) (I' : Is), m + i = 3 → I' 16 0 = v → I' 16 1 = I 16 1 → I' 16 2 = 0 → I' 16 3 = I 16 3 → I' 16 4 = I 16 4 + 1 → (∀ k, k < i → I' 17 k = 0) → Fr [16, 17] I I' →
      Aw X 22 [some (.ref 16), some (.int v), some (.int (nI i))] [] (st9 I' J b) := by
    intro m
    induction m with
    | zero =>
      intro i I' hm a0 a1 a2 a3 a4 b1 hF
      have hi : i = 3 := by omega
      subst hi
      refine r_iload_n C dX1_refill_22 rfl ?_
      refine r_iconst C (v := 3) dX1_refill_23 (by decide) ?_
      refine b_icge C (tgt := 40) (my := 3) rfl rfl dX1_refill_24 rfl (fun h24_1 => ?_) (fun h24_1 => ?_)
      · exact rv C Z dX1_refill_40 ⟨a0, a1, a2, a3, a4, b1, hF⟩
      · exfalso; have := nIint (j := 3) (by omega); omega
    | succ m ih =>
      intro i I' hm a0 a1 a2 a3 a4 b1 hF
      have hi3 : i < 3 := by omega
      have ii : ix (nI i) = i := nIix (by omega)
      have ini : (nI i).toInt = (i : Int) := nIint (by omega)
      refine r_iload_n C dX1_refill_22 rfl ?_
      refine r_iconst C (v := 3) dX1_refill_23 (by decide) ?_
      refine b_icge C (tgt := 40) (my := 3) rfl rfl dX1_refill_24 rfl (fun h24_1 => ?_) (fun h24_1 => ?_)
      · exfalso; omega
      · refine r_aload_n C dX1_refill_27 rfl ?_
        refine r_getR C flX1_15 dX1_refill_28 rfl rfl rfl ?_
        refine r_iload_n C dX1_refill_31 rfl ?_
        refine r_iconst C (v := 0) dX1_refill_32 (by decide) ?_
        refine r_iast C rfl dX1_refill_33 (nIin hi3 (by decide)) ?_
        rw [ii]
        refine r_iinc C (v := 1) dX1_refill_34 rfl (by decide) rfl ?_
        refine r_goto C (tgt := 22) dX1_refill_37 rfl ?_
        rw [nI_s]
        refine ih (i + 1) _ (by omega) ?_ ?_ ?_ ?_ ?_ (fun k hk => ?_) (hF.st (by decide))
        · rw [u2_row (by decide)]; exact a0
        · rw [u2_row (by decide)]; exact a1
        · rw [u2_row (by decide)]; exact a2
        · rw [u2_row (by decide)]; exact a3
        · rw [u2_row (by decide)]; exact a4
        · by_cases e : k = i
          · subst e; rw [u2_same]
          · rw [u2_ne _ _ _ _ (Or.inr e)]; exact b1 k (by omega)
  refine r_aload_n C dX1_refill_0 rfl ?_
  refine r_iload_n C dX1_refill_1 rfl ?_
  refine r_putI C flX1_9 dX1_refill_2 rfl rfl rfl rfl rfl ?_
  refine r_aload_n C dX1_refill_5 rfl ?_
  refine r_iconst C (v := 0) dX1_refill_6 (by decide) ?_
  refine r_putI C flX1_52 dX1_refill_7 rfl rfl rfl rfl rfl ?_
  refine r_aload_n C dX1_refill_10 rfl ?_
  refine r_dup C dX1_refill_11 rfl ?_
  refine r_getI C flX1_46 dX1_refill_12 rfl rfl ?_
  refine r_iconst C (v := 1) dX1_refill_15 (by decide) ?_
  refine r_iadd C dX1_refill_16 ?_
  refine r_putI C flX1_46 dX1_refill_17 rfl rfl rfl rfl rfl ?_
  refine r_iconst C (v := 0) dX1_refill_20 (by decide) ?_
  refine r_istore_n C dX1_refill_21 rfl rfl ?_
  exact loop 3 0 _ rfl (by rw [u2_ne _ _ _ _ (Or.inr (by decide)), u2_ne _ _ _ _ (Or.inr (by decide)), u2_same]) (by rw [u2_ne _ _ _ _ (Or.inr (by decide)), u2_ne _ _ _ _ (Or.inr (by decide)), u2_ne _ _ _ _ (Or.inr (by decide))]) (by rw [u2_ne _ _ _ _ (Or.inr (by decide)), u2_same]) (by rw [u2_ne _ _ _ _ (Or.inr (by decide)), u2_ne _ _ _ _ (Or.inr (by decide)), u2_ne _ _ _ _ (Or.inr (by decide))]) (by rw [u2_same, u2_ne _ _ _ _ (Or.inr (by decide)), u2_ne _ _ _ _ (Or.inr (by decide))]) (fun k hk => absurd hk (Nat.not_lt_zero k)) (((Fr.rf.st (by decide)).st (by decide)).st (by decide))
set_option maxRecDepth 100000 in
theorem sX1_tells_16 {g : Gb} {d : Nat} (hd : 0 ≤ d) (j : Nat) (hj : j < 3) (w : Int32) (I : Is) (J : Js) (b : Bool) : MC9 g d mX1_tells [.ref 16, .int (nI j), .int w] I J b (Qp (if w = 0 then I 18 j else if w = 1 then I 19 j else I 20 j) I J b) := by
  refine ent9 (own := RX1) rfl rfl rfl (fun X hg hx C Z => ?_)
  subst hg
  refine r_iload_n C dX1_tells_0 rfl ?_
  by_cases c0 : w = 0
  · subst c0
    refine r_lookup C (tgt := 28) dX1_tells_1 (by decide) rfl rfl ?_
    refine r_aload_n C dX1_tells_28 rfl ?_
    refine r_getR C flX1_19 dX1_tells_29 rfl rfl rfl ?_
    refine r_iload_n C dX1_tells_32 rfl ?_
    refine r_iald C rfl dX1_tells_33 (nIin hj (by decide)) ?_
    exact rp C Z dX1_tells_34 (by rw [nIix (by omega), if_pos rfl])
  have n0 : w.toInt ≠ 0 := ne_int c0
  by_cases c1 : w = 1
  · subst c1
    refine r_lookup C (tgt := 35) dX1_tells_1 (by decide) rfl rfl ?_
    refine r_aload_n C dX1_tells_35 rfl ?_
    refine r_getR C flX1_22 dX1_tells_36 rfl rfl rfl ?_
    refine r_iload_n C dX1_tells_39 rfl ?_
    refine r_iald C rfl dX1_tells_40 (nIin hj (by decide)) ?_
    exact rp C Z dX1_tells_41 (by rw [nIix (by omega), if_neg (by decide), if_pos rfl])
  have n1 : w.toInt ≠ 1 := ne_int c1
  refine r_lookup C (tgt := 42) dX1_tells_1 (by decide) (by simp [Op.lookupswitch.offset, n0.symm, n1.symm, n0, n1]; rfl) rfl ?_
  refine r_aload_n C dX1_tells_42 rfl ?_
  refine r_getR C flX1_25 dX1_tells_43 rfl rfl rfl ?_
  refine r_iload_n C dX1_tells_46 rfl ?_
  refine r_iald C rfl dX1_tells_47 (nIin hj (by decide)) ?_
  exact rp C Z dX1_tells_48 (by rw [nIix (by omega), if_neg c0, if_neg c1])
set_option maxRecDepth 100000 in
theorem sX1_tells_32 {g : Gb} {d : Nat} (hd : 0 ≤ d) (j : Nat) (hj : j < 3) (w : Int32) (I : Is) (J : Js) (b : Bool) : MC9 g d mX1_tells [.ref 32, .int (nI j), .int w] I J b (Qp (if w = 0 then I 34 j else if w = 1 then I 35 j else I 36 j) I J b) := by
  refine ent9 (own := RX1) rfl rfl rfl (fun X hg hx C Z => ?_)
  subst hg
  refine r_iload_n C dX1_tells_0 rfl ?_
  by_cases c0 : w = 0
  · subst c0
    refine r_lookup C (tgt := 28) dX1_tells_1 (by decide) rfl rfl ?_
    refine r_aload_n C dX1_tells_28 rfl ?_
    refine r_getR C flX1_19 dX1_tells_29 rfl rfl rfl ?_
    refine r_iload_n C dX1_tells_32 rfl ?_
    refine r_iald C rfl dX1_tells_33 (nIin hj (by decide)) ?_
    exact rp C Z dX1_tells_34 (by rw [nIix (by omega), if_pos rfl])
  have n0 : w.toInt ≠ 0 := ne_int c0
  by_cases c1 : w = 1
  · subst c1
    refine r_lookup C (tgt := 35) dX1_tells_1 (by decide) rfl rfl ?_
    refine r_aload_n C dX1_tells_35 rfl ?_
    refine r_getR C flX1_22 dX1_tells_36 rfl rfl rfl ?_
    refine r_iload_n C dX1_tells_39 rfl ?_
    refine r_iald C rfl dX1_tells_40 (nIin hj (by decide)) ?_
    exact rp C Z dX1_tells_41 (by rw [nIix (by omega), if_neg (by decide), if_pos rfl])
  have n1 : w.toInt ≠ 1 := ne_int c1
  refine r_lookup C (tgt := 42) dX1_tells_1 (by decide) (by simp [Op.lookupswitch.offset, n0.symm, n1.symm, n0, n1]; rfl) rfl ?_
  refine r_aload_n C dX1_tells_42 rfl ?_
  refine r_getR C flX1_25 dX1_tells_43 rfl rfl rfl ?_
  refine r_iload_n C dX1_tells_46 rfl ?_
  refine r_iald C rfl dX1_tells_47 (nIin hj (by decide)) ?_
  exact rp C Z dX1_tells_48 (by rw [nIix (by omega), if_neg c0, if_neg c1])
