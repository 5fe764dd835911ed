/-- nobody can get any more -/
def ovF (e : EV) (v : GV) : Prop := v.2.1.toInt ≤ 0 ∧ ∀ k, k < e.1 → v.2.2.1.toInt < (e.2.1 (8 * k + 7)).toInt → v.1.toInt ≤ (e.2.1 (8 * k + 2)).toInt
/-- who has most, the first of like ones, among the first n -/
def bsF (f : Nat → Int32) : Nat → Nat
  | 0 => 0
  | n + 1 => if (f (bsF f n)).toInt < (f n).toInt then n else bsF f n
def lsF (f : Nat → Int32) : Nat → Int32
  | 0 => f 0
  | n + 1 => imin (lsF f n) (f n)
def lrF (T : Nat → Int32) : Nat → Int32
  | 0 => 999
  | n + 1 => imin (lrF T n) (T (8 * n + 2))
theorem bsF_lt (f : Nat → Int32) (n : Nat) : bsF f n ≤ n - 1 := by
  induction n with
  | zero => exact Nat.le_refl _
  | succ n ih =>
    show (if _ then n else bsF f n) ≤ n
    by_cases h : (f (bsF f n)).toInt < (f n).toInt
    · rw [if_pos h]; exact Nat.le_refl _
    · rw [if_neg h]; omega
noncomputable def ovD (e : EV) (v : GV) : Decidable (ovF e v) := Classical.propDecidable _
set_option maxRecDepth 100000 in
set_option maxHeartbeats 400000 in
theorem sX1_isOver {g : Gb} {d : Nat} (hd : 1 ≤ d) (I : Is) (J : Js) (b : Bool) (s : Nat) (hs : (I 1 1).toInt = (s : Int)) (hs3 : s ≤ 3) : MC9 g d mX1_isOver [.ref 32] I J b (Qi J b (fun v I' => I' = I ∧ ((v = 1 ∧ ovF (en I b) (gv I 32)) ∨ (v = 0 ∧ ¬ ovF (en I b) (gv I 32))))) := by
  refine ent9 (own := RX1) rfl rfl rfl (fun X hg hx C Z => ?_)
  subst hg
  have hes : (en I b).1 = s := ix_of hs
  have loop : ∀ (m i : Nat), m + i = s → (I 32 1).toInt ≤ 0 → (∀ k, k < i → (I 32 2).toInt < (I 2 (8 * k + 7)).toInt → (I 32 0).toInt ≤ (I 2 (8 * k + 2)).toInt) →
      Aw X 11 [some (.ref 32), some (.int (nI i))] [] (st9 I J b) := by
    intro m
    induction m with
    | zero =>
      intro i hm h0 h1
      have hi : i = s := by omega
      subst hi
      refine r_iload_n C dX1_isOver_11 rfl ?_
      refine r_aload_n C dX1_isOver_12 rfl ?_
      refine r_getR C flX1_31 dX1_isOver_13 rfl rfl rfl ?_
      refine r_getI C flX1_55 dX1_isOver_16 rfl rfl ?_
      refine b_icge C (tgt := 63) rfl rfl dX1_isOver_19 rfl (fun h19_1 => ?_) (fun h19_1 => ?_)
      · refine r_iconst C (v := 1) dX1_isOver_63 (by decide) ?_
        exact riz C Z dX1_isOver_64 rfl ⟨rfl, Or.inl ⟨rfl, h0, by rw [hes]; exact h1⟩⟩
      · exfalso; have := nIint (j := i) (by omega); omega
    | succ m ih =>
      intro i hm h0 h1
      have hi3 : i < 3 := by omega
      have ini : (nI i).toInt = (i : Int) := nIint (by omega)
      refine r_iload_n C dX1_isOver_11 rfl ?_
      refine r_aload_n C dX1_isOver_12 rfl ?_
      refine r_getR C flX1_31 dX1_isOver_13 rfl rfl rfl ?_
      refine r_getI C flX1_55 dX1_isOver_16 rfl rfl ?_
      refine b_icge C (tgt := 63) rfl rfl dX1_isOver_19 rfl (fun h19_1 => ?_) (fun h19_1 => ?_)
      · exfalso; omega
      · refine r_aload_n C dX1_isOver_22 rfl ?_
        refine r_getI C flX1_52 dX1_isOver_23 rfl rfl ?_
        refine r_aload_n C dX1_isOver_26 rfl ?_
        refine r_getR C flX1_31 dX1_isOver_27 rfl rfl rfl ?_
        refine r_iload_n C dX1_isOver_30 rfl ?_
        refine r_bipush C (v := 7) dX1_isOver_31 (by decide) ?_
        refine cV (ci := 3) C hx (sOf (d := d - 1) i 7 hi3 (by decide) I J b) moX3_ofStraw mlX1_75 miX3_ofStraw msX3_ofStraw dX1_isOver_33 rfl rfl rfl rfl rfl (by omega) rfl rfl (kp ?_)
        refine b_icge C (tgt := 57) rfl rfl dX1_isOver_36 rfl (fun h36_3 => ?_) (fun h36_3 => ?_)
        · refine r_iinc C (v := 1) dX1_isOver_57 rfl (by decide) rfl ?_
          refine r_goto C (tgt := 11) dX1_isOver_60 rfl ?_
          rw [nI_s]
          refine ih (i + 1) (by omega) h0 (fun k hk => ?_)
          by_cases e : k = i
          · subst e; intro z; omega
          · exact h1 k (by omega)
        · refine r_aload_n C dX1_isOver_39 rfl ?_
          refine r_getI C flX1_9 dX1_isOver_40 rfl rfl ?_
          refine r_aload_n C dX1_isOver_43 rfl ?_
          refine r_getR C flX1_31 dX1_isOver_44 rfl rfl rfl ?_
          refine r_iload_n C dX1_isOver_47 rfl ?_
          refine r_iconst C (v := 2) dX1_isOver_48 (by decide) ?_
          refine cV (ci := 3) C hx (sOf (d := d - 1) i 2 hi3 (by decide) I J b) moX3_ofStraw mlX1_75 miX3_ofStraw msX3_ofStraw dX1_isOver_49 rfl rfl rfl rfl rfl (by omega) rfl rfl (kp ?_)
          refine b_icle C (tgt := 57) rfl rfl dX1_isOver_52 rfl (fun h52_5 => ?_) (fun h52_5 => ?_)
          · refine r_iinc C (v := 1) dX1_isOver_57 rfl (by decide) rfl ?_
            refine r_goto C (tgt := 11) dX1_isOver_60 rfl ?_
            rw [nI_s]
            refine ih (i + 1) (by omega) h0 (fun k hk => ?_)
            by_cases e : k = i
            · subst e; intro z; omega
            · exact h1 k (by omega)
          · refine r_iconst C (v := 0) dX1_isOver_55 (by decide) ?_
            exact riz C Z dX1_isOver_56 rfl ⟨rfl, Or.inr ⟨rfl, fun z => by have := z.2 i (by rw [hes]; omega) (by assumption); exact absurd this (Int.not_le.mpr (by assumption))⟩⟩
  refine r_aload_n C dX1_isOver_0 rfl ?_
  refine r_getI C flX1_49 dX1_isOver_1 rfl rfl ?_
  refine b_ifle C (tgt := 9) dX1_isOver_4 rfl (fun h4_1 => ?_) (fun h4_1 => ?_)
  · refine r_iconst C (v := 0) dX1_isOver_9 (by decide) ?_
    refine r_istore_n C dX1_isOver_10 rfl rfl ?_
    exact loop s 0 (by omega) (by assumption) (fun k hk => absurd hk (Nat.not_lt_zero k))
  · refine r_iconst C (v := 0) dX1_isOver_7 (by decide) ?_
    exact riz C Z dX1_isOver_8 rfl ⟨rfl, Or.inr ⟨rfl, fun z => absurd z.1 (Int.not_le.mpr (by assumption))⟩⟩
set_option maxRecDepth 100000 in
set_option maxHeartbeats 400000 in
theorem sX1_mostGot {g : Gb} {d : Nat} (hd : 0 ≤ d) (I : Is) (J : Js) (b : Bool) (s : Nat) (hs : (I 1 1).toInt = (s : Int)) (hs3 : s ≤ 3) : MC9 g d mX1_mostGot [.ref 32] I J b (Qp (nI (bsF (I 34) s)) I J b) := by
  refine ent9 (own := RX1) rfl rfl rfl (fun X hg hx C Z => ?_)
  subst hg
  have loop : ∀ (m i : Nat), 1 ≤ i → m + i = max s 1 → Aw X 4 [some (.ref 32), some (.int (nI (bsF (I 34) i))), some (.int (nI i))] [] (st9 I J b) := by
    intro m
    induction m with
    | zero =>
      intro i h1 hm
      have ini : (nI i).toInt = (i : Int) := nIint (by omega)
      have he : bsF (I 34) i = bsF (I 34) s := by
        by_cases h : s = 0
        · subst h
          have : i = 1 := by omega
          subst this
          show (if (I 34 0).toInt < (I 34 0).toInt then 0 else 0) = 0
          split <;> rfl
        · have : i = s := by omega
          rw [this]
      rw [he]
      refine r_iload_n C dX1_mostGot_4 rfl ?_
      refine r_aload_n C dX1_mostGot_5 rfl ?_
      refine r_getR C flX1_31 dX1_mostGot_6 rfl rfl rfl ?_
      refine r_getI C flX1_55 dX1_mostGot_9 rfl rfl ?_
      refine b_icge C (tgt := 38) rfl rfl dX1_mostGot_12 rfl (fun h12_1 => ?_) (fun h12_1 => ?_)
      · refine r_iload_n C dX1_mostGot_38 rfl ?_
        exact rp C Z dX1_mostGot_39 rfl
      · exfalso; omega
    | succ m ih =>
      intro i h1 hm
      have hi3 : i < 3 := by omega
      have ii : ix (nI i) = i := nIix (by omega)
      have ini : (nI i).toInt = (i : Int) := nIint (by omega)
      have hb := bsF_lt (I 34) i
      have ib : ix (nI (bsF (I 34) i)) = bsF (I 34) i := nIix (by omega)
      refine r_iload_n C dX1_mostGot_4 rfl ?_
      refine r_aload_n C dX1_mostGot_5 rfl ?_
      refine r_getR C flX1_31 dX1_mostGot_6 rfl rfl rfl ?_
      refine r_getI C flX1_55 dX1_mostGot_9 rfl rfl ?_
      refine b_icge C (tgt := 38) rfl rfl dX1_mostGot_12 rfl (fun h12_1 => ?_) (fun h12_1 => ?_)
      · exfalso; omega
      · refine r_aload_n C dX1_mostGot_15 rfl ?_
        refine r_getR C flX1_19 dX1_mostGot_16 rfl rfl rfl ?_
        refine r_iload_n C dX1_mostGot_19 rfl ?_
        refine r_iald C rfl dX1_mostGot_20 (nIin hi3 (by decide)) ?_
        refine r_aload_n C dX1_mostGot_21 rfl ?_
        refine r_getR C flX1_19 dX1_mostGot_22 rfl rfl rfl ?_
        refine r_iload_n C dX1_mostGot_25 rfl ?_
        refine r_iald C rfl dX1_mostGot_26 (nIin (j := bsF (I 34) i) (n := 3) (by omega) (by decide)) ?_
        refine b_icle C (tgt := 32) rfl rfl dX1_mostGot_27 rfl (fun h27_2 => ?_) (fun h27_2 => ?_)
        · refine r_iinc C (v := 1) dX1_mostGot_32 rfl (by decide) rfl ?_
          refine r_goto C (tgt := 4) dX1_mostGot_35 rfl ?_
          have hh := h27_2
          rw [ii, ib] at hh
          have e : bsF (I 34) (i + 1) = bsF (I 34) i := if_neg (Int.not_lt.mpr hh)
          rw [nI_s, ← e]
          exact ih (i + 1) (by omega) (by omega)
        · refine r_iload_n C dX1_mostGot_30 rfl ?_
          refine r_istore_n C dX1_mostGot_31 rfl rfl ?_
          refine r_iinc C (v := 1) dX1_mostGot_32 rfl (by decide) rfl ?_
          refine r_goto C (tgt := 4) dX1_mostGot_35 rfl ?_
          have hh := h27_2
          rw [ii, ib] at hh
          have e : bsF (I 34) (i + 1) = i := if_pos hh
          rw [nI_s]
          have k := ih (i + 1) (by omega) (by omega)
          rw [e] at k
          exact k
  refine r_iconst C (v := 0) dX1_mostGot_0 (by decide) ?_
  refine r_istore_n C dX1_mostGot_1 rfl rfl ?_
  refine r_iconst C (v := 1) dX1_mostGot_2 (by decide) ?_
  refine r_istore_n C dX1_mostGot_3 rfl rfl ?_
  have e : nI (bsF (I 34) 1) = 0 := by
    show nI (if (I 34 0).toInt < (I 34 0).toInt then 0 else 0) = 0
    split <;> rfl
  have k := loop (max s 1 - 1) 1 (Nat.le_refl _) (by omega)
  rw [e] at k
  exact k
set_option maxRecDepth 100000 in
set_option maxHeartbeats 400000 in
theorem sX1_leastGot {g : Gb} {d : Nat} (hd : 1 ≤ d) (I : Is) (J : Js) (b : Bool) (s : Nat) (hs : (I 1 1).toInt = (s : Int)) (hs3 : s ≤ 3) (hs1 : 1 ≤ s) : MC9 g d mX1_leastGot [.ref 32] I J b (Qp (lsF (I 34) s) I J b) := by
  refine ent9 (own := RX1) rfl rfl rfl (fun X hg hx C Z => ?_)
  subst hg
  have loop : ∀ (m i : Nat), 1 ≤ i → m + i = s → Aw X 9 [some (.ref 32), some (.int (lsF (I 34) i)), some (.int (nI i))] [] (st9 I J b) := by
    intro m
    induction m with
    | zero =>
      intro i h1 hm
      have ini : (nI i).toInt = (i : Int) := nIint (by omega)
      have he : i = s := by omega
      rw [he] at ini ⊢
      refine r_iload_n C dX1_leastGot_9 rfl ?_
      refine r_aload_n C dX1_leastGot_10 rfl ?_
      refine r_getR C flX1_31 dX1_leastGot_11 rfl rfl rfl ?_
      refine r_getI C flX1_55 dX1_leastGot_14 rfl rfl ?_
      refine b_icge C (tgt := 37) rfl rfl dX1_leastGot_17 rfl (fun h17_1 => ?_) (fun h17_1 => ?_)
      · refine r_iload_n C dX1_leastGot_37 rfl ?_
        exact rp C Z dX1_leastGot_38 rfl
      · exfalso; omega
    | succ m ih =>
      intro i h1 hm
      have hi3 : i < 3 := by omega
      have ii : ix (nI i) = i := nIix (by omega)
      have ini : (nI i).toInt = (i : Int) := nIint (by omega)
      refine r_iload_n C dX1_leastGot_9 rfl ?_
      refine r_aload_n C dX1_leastGot_10 rfl ?_
      refine r_getR C flX1_31 dX1_leastGot_11 rfl rfl rfl ?_
      refine r_getI C flX1_55 dX1_leastGot_14 rfl rfl ?_
      refine b_icge C (tgt := 37) rfl rfl dX1_leastGot_17 rfl (fun h17_1 => ?_) (fun h17_1 => ?_)
      · exfalso; omega
      · refine r_iload_n C dX1_leastGot_20 rfl ?_
        refine r_aload_n C dX1_leastGot_21 rfl ?_
        refine r_getR C flX1_19 dX1_leastGot_22 rfl rfl rfl ?_
        refine r_iload_n C dX1_leastGot_25 rfl ?_
        refine r_iald C rfl dX1_leastGot_26 (nIin hi3 (by decide)) ?_
        rw [ii]
        refine cmin C hx mlX1_85 dX1_leastGot_27 (by omega) rfl rfl ?_
        refine r_istore_n C dX1_leastGot_30 rfl rfl ?_
        refine r_iinc C (v := 1) dX1_leastGot_31 rfl (by decide) rfl ?_
        refine r_goto C (tgt := 9) dX1_leastGot_34 rfl ?_
        rw [nI_s]
        exact ih (i + 1) (by omega) (by omega)
  refine r_aload_n C dX1_leastGot_0 rfl ?_
  refine r_getR C flX1_19 dX1_leastGot_1 rfl rfl rfl ?_
  refine r_iconst C (v := 0) dX1_leastGot_4 (by decide) ?_
  refine r_iald C rfl dX1_leastGot_5 (vin (by decide) (by decide)) ?_
  refine r_istore_n C dX1_leastGot_6 rfl rfl ?_
  refine r_iconst C (v := 1) dX1_leastGot_7 (by decide) ?_
  refine r_istore_n C dX1_leastGot_8 rfl rfl ?_
  have e : lsF (I 34) 1 = I 34 0 := by
    show (if I 34 0 < I 34 0 then I 34 0 else I 34 0) = I 34 0
    split <;> rfl
  have k := loop (s - 1) 1 (Nat.le_refl _) (by omega)
  rw [e] at k
  exact k
set_option maxRecDepth 100000 in
set_option maxHeartbeats 400000 in
theorem sX3_lowestReach {g : Gb} {d : Nat} (hd : 1 ≤ d) (I : Is) (J : Js) (b : Bool) (s : Nat) (hs : (I 1 1).toInt = (s : Int)) (hs3 : s ≤ 3) : MC9 g d mX3_lowestReach [.ref 1] I J b (Qp (lrF (I 2) s) I J b) := by
  refine ent9 (own := RX3) rfl rfl rfl (fun X hg hx C Z => ?_)
  subst hg
  have loop : ∀ (m i : Nat), m + i = s → Aw X 6 [some (.ref 1), some (.int (lrF (I 2) i)), some (.int (nI i))] [] (st9 I J b) := by
    intro m
    induction m with
    | zero =>
      intro i hm
      have ini : (nI i).toInt = (i : Int) := nIint (by omega)
      have he : i = s := by omega
      rw [he] at ini ⊢
      refine r_iload_n C dX3_lowestReach_6 rfl ?_
      refine r_aload_n C dX3_lowestReach_7 rfl ?_
      refine r_getI C flX3_28 dX3_lowestReach_8 rfl rfl ?_
      refine b_icge C (tgt := 31) rfl rfl dX3_lowestReach_11 rfl (fun h11_1 => ?_) (fun h11_1 => ?_)
      · refine r_iload_n C dX3_lowestReach_31 rfl ?_
        exact rp C Z dX3_lowestReach_32 rfl
      · exfalso; omega
    | succ m ih =>
      intro i hm
      have hi3 : i < 3 := by omega
      have ini : (nI i).toInt = (i : Int) := nIint (by omega)
      refine r_iload_n C dX3_lowestReach_6 rfl ?_
      refine r_aload_n C dX3_lowestReach_7 rfl ?_
      refine r_getI C flX3_28 dX3_lowestReach_8 rfl rfl ?_
      refine b_icge C (tgt := 31) rfl rfl dX3_lowestReach_11 rfl (fun h11_1 => ?_) (fun h11_1 => ?_)
      · exfalso; omega
      · refine r_iload_n C dX3_lowestReach_14 rfl ?_
        refine r_aload_n C dX3_lowestReach_15 rfl ?_
        refine r_iload_n C dX3_lowestReach_16 rfl ?_
        refine r_iconst C (v := 2) dX3_lowestReach_17 (by decide) ?_
        refine cV (ci := 3) C hx (sOf (d := d - 1) i 2 hi3 (by decide) I J b) moX3_ofStraw mlX3_38 miX3_ofStraw msX3_ofStraw dX3_lowestReach_18 rfl rfl rfl rfl rfl (by omega) rfl rfl (kp ?_)
        refine cmin C hx mlX3_45 dX3_lowestReach_21 (by omega) rfl rfl ?_
        refine r_istore_n C dX3_lowestReach_24 rfl rfl ?_
        refine r_iinc C (v := 1) dX3_lowestReach_25 rfl (by decide) rfl ?_
        refine r_goto C (tgt := 6) dX3_lowestReach_28 rfl ?_
        rw [nI_s]
        exact ih (i + 1) (by omega)
  refine r_sipush C (v := 999) dX3_lowestReach_0 (by decide) ?_
  refine r_istore_n C dX3_lowestReach_3 rfl rfl ?_
  refine r_iconst C (v := 0) dX3_lowestReach_4 (by decide) ?_
  refine r_istore_n C dX3_lowestReach_5 rfl rfl ?_
  exact loop s 0 (by omega)
