/-- the shelf's cell -/
def shT (k : Int32) : Nat := 52 + 2 * ix k
theorem sh_at {k : Int32} (b : Bool) (h : inR k 5) : RR b 51 (ix k) = some (shT k) ∧ isSh (shT k) := by
  obtain ⟨j, hj, rfl⟩ := nI_get (n := 6) h.1 (by have := h.2; omega) (by decide)
  have hjx : ix (nI j) = j := nIix (by omega)
  unfold shT
  rw [hjx]
  have hj6 : j < 6 := by omega
  clear h hjx hj
  unfold isSh
  rcases (show j = 0 ∨ j = 1 ∨ j = 2 ∨ j = 3 ∨ j = 4 ∨ j = 5 by omega) with rfl | rfl | rfl | rfl | rfl | rfl <;> exact ⟨rfl, by decide⟩
def rrF (I : Is) (k : Int32) : Int32 := if inR k 5 then (if I (shT k) 0 = -2 then -11 else if I (shT k) 0 = 1 then 0 else -12) else -1
def reF (I : Is) (k i : Int32) : Int32 := if inR k 5 then (if I (shT k) 0 = -2 then -11 else if I (shT k) 0 = -1 then -12 else if 0 ≤ i.toInt ∧ i.toInt < (I (shT k) 1).toInt then 0 else -13) else -1
theorem rr_in {I : Is} {k : Int32} (h : rrF I k = 0) : inR k 5 := by
  by_cases c : inR k 5
  · exact c
  · exact absurd ((if_neg c).symm.trans h) (by decide)
theorem re_in {I : Is} {k i : Int32} (h : reF I k i = 0) : inR k 5 ∧ 0 ≤ i.toInt ∧ i.toInt < (I (shT k) 1).toInt := by
  by_cases c : inR k 5
  · refine ⟨c, ?_⟩
    unfold reF at h
    rw [if_pos c] at h
    by_cases c1 : I (shT k) 0 = -2
    · rw [if_pos c1] at h; exact absurd h (by decide)
    rw [if_neg c1] at h
    by_cases c2 : I (shT k) 0 = -1
    · rw [if_pos c2] at h; exact absurd h (by decide)
    rw [if_neg c2] at h
    by_cases c3 : 0 ≤ i.toInt ∧ i.toInt < (I (shT k) 1).toInt
    · exact c3
    · rw [if_neg c3] at h; exact absurd h (by decide)
  · exact absurd ((if_neg c).symm.trans h) (by decide)
set_option maxRecDepth 100000 in
theorem sX9_refusedRings {g : Gb} {d : Nat} (hd : 2 ≤ d) (k : Int32) (I : Is) (J : Js) (b : Bool) : MC9 g d mX9_refusedRings [.ref 0, .int k] I J b (Qp (rrF I k) I J b) := by
  refine ent9 (own := RX9) rfl rfl rfl (fun X hg hx C Z => ?_)
  subst hg
  refine r_iload_n C dX9_refusedRings_0 rfl ?_
  refine cS C hx (sX9_isShelf (d := d - 1) (by omega) _ I J b) moX9_isShelf mlX9_94 mtX9_isShelf dX9_refusedRings_1 rfl rfl (by omega) rfl rfl (kp ?_)
  refine z_ifne C (tgt := 9) dX9_refusedRings_4 rfl (fun h4_2 => ?_) (fun h4_2 => ?_)
  · have hsh : inR k 5 := by assumption
    obtain ⟨h51, hT⟩ := sh_at b hsh
    obtain ⟨hc4, hr3, hc21, hl60⟩ := sh_all hT b
    refine r_aload_n C dX9_refusedRings_9 rfl ?_
    refine r_getR C flX9_69 dX9_refusedRings_10 rfl rfl rfl ?_
    refine r_iload_n C dX9_refusedRings_13 rfl ?_
    refine r_qald C rfl dX9_refusedRings_14 (vin hsh.1 (show k.toInt < 6 by have := hsh.2; omega)) h51 ?_
    refine r_getI C flX9_98 dX9_refusedRings_15 hc4 rfl ?_
    refine r_istore_n C dX9_refusedRings_18 rfl rfl ?_
    refine r_iload_n C dX9_refusedRings_19 rfl ?_
    refine r_bipush C (v := -2) dX9_refusedRings_20 (by decide) ?_
    refine r_icne C (tgt := 28) dX9_refusedRings_22 rfl (fun h22_3 => ?_) (fun h22_3 => ?_)
    · refine r_iload_n C dX9_refusedRings_28 rfl ?_
      refine r_iconst C (v := 1) dX9_refusedRings_29 (by decide) ?_
      refine r_icne C (tgt := 37) dX9_refusedRings_30 rfl (fun h30_4 => ?_) (fun h30_4 => ?_)
      · refine r_bipush C (v := -12) dX9_refusedRings_37 (by decide) ?_
        exact rp C Z dX9_refusedRings_39 ((if_pos hsh).trans ((if_neg (by assumption)).trans (if_neg (by assumption)))).symm
      · refine r_iconst C (v := 0) dX9_refusedRings_33 (by decide) ?_
        refine r_goto C (tgt := 39) dX9_refusedRings_34 rfl ?_
        exact rp C Z dX9_refusedRings_39 ((if_pos hsh).trans ((if_neg (by assumption)).trans (if_pos (by assumption)))).symm
    · refine r_bipush C (v := -11) dX9_refusedRings_25 (by decide) ?_
      exact rp C Z dX9_refusedRings_27 ((if_pos hsh).trans (if_pos (by assumption))).symm
  · refine r_iconst C (v := -1) dX9_refusedRings_7 (by decide) ?_
    exact rp C Z dX9_refusedRings_8 (if_neg (by assumption)).symm
set_option maxRecDepth 100000 in
theorem sX9_refusedElement {g : Gb} {d : Nat} (hd : 2 ≤ d) (k i : Int32) (I : Is) (J : Js) (b : Bool) : MC9 g d mX9_refusedElement [.ref 0, .int k, .int i] I J b (Qp (reF I k i) I J b) := by
  refine ent9 (own := RX9) rfl rfl rfl (fun X hg hx C Z => ?_)
  subst hg
  refine r_iload_n C dX9_refusedElement_0 rfl ?_
  refine cS C hx (sX9_isShelf (d := d - 1) (by omega) _ I J b) moX9_isShelf mlX9_94 mtX9_isShelf dX9_refusedElement_1 rfl rfl (by omega) rfl rfl (kp ?_)
  refine z_ifne C (tgt := 9) dX9_refusedElement_4 rfl (fun h4_2 => ?_) (fun h4_2 => ?_)
  · have hsh : inR k 5 := by assumption
    obtain ⟨h51, hT⟩ := sh_at b hsh
    obtain ⟨hc4, hr3, hc21, hl60⟩ := sh_all hT b
    refine r_aload_n C dX9_refusedElement_9 rfl ?_
    refine r_getR C flX9_69 dX9_refusedElement_10 rfl rfl rfl ?_
    refine r_iload_n C dX9_refusedElement_13 rfl ?_
    refine r_qald C rfl dX9_refusedElement_14 (vin hsh.1 (show k.toInt < 6 by have := hsh.2; omega)) h51 ?_
    refine r_astore_n C dX9_refusedElement_15 rfl rfl ?_
    refine r_aload_n C dX9_refusedElement_16 rfl ?_
    refine r_getI C flX9_98 dX9_refusedElement_17 hc4 rfl ?_
    refine r_bipush C (v := -2) dX9_refusedElement_20 (by decide) ?_
    refine r_icne C (tgt := 28) dX9_refusedElement_22 rfl (fun h22_3 => ?_) (fun h22_3 => ?_)
    · refine r_aload_n C dX9_refusedElement_28 rfl ?_
      refine r_getI C flX9_98 dX9_refusedElement_29 hc4 rfl ?_
      refine r_iconst C (v := -1) dX9_refusedElement_32 (by decide) ?_
      refine r_icne C (tgt := 39) dX9_refusedElement_33 rfl (fun h33_4 => ?_) (fun h33_4 => ?_)
      · refine r_iload_n C dX9_refusedElement_39 rfl ?_
        refine b_iflt C (tgt := 55) dX9_refusedElement_40 rfl (fun h40_5 => ?_) (fun h40_5 => ?_)
        · refine r_bipush C (v := -13) dX9_refusedElement_55 (by decide) ?_
          exact rp C Z dX9_refusedElement_57 ((if_pos hsh).trans ((if_neg (by assumption)).trans ((if_neg (by assumption)).trans (if_neg (fun z => by have := z.1; omega))))).symm
        · refine r_iload_n C dX9_refusedElement_43 rfl ?_
          refine r_aload_n C dX9_refusedElement_44 rfl ?_
          refine r_getI C flX9_319 dX9_refusedElement_45 hc4 rfl ?_
          refine b_icge C (tgt := 55) rfl rfl dX9_refusedElement_48 rfl (fun h48_6 => ?_) (fun h48_6 => ?_)
          · refine r_bipush C (v := -13) dX9_refusedElement_55 (by decide) ?_
            exact rp C Z dX9_refusedElement_57 ((if_pos hsh).trans ((if_neg (by assumption)).trans ((if_neg (by assumption)).trans (if_neg (fun z => by have := z.2; omega))))).symm
          · refine r_iconst C (v := 0) dX9_refusedElement_51 (by decide) ?_
            refine r_goto C (tgt := 57) dX9_refusedElement_52 rfl ?_
            exact rp C Z dX9_refusedElement_57 ((if_pos hsh).trans ((if_neg (by assumption)).trans ((if_neg (by assumption)).trans (if_pos ⟨by omega, by assumption⟩)))).symm
      · refine r_bipush C (v := -12) dX9_refusedElement_36 (by decide) ?_
        exact rp C Z dX9_refusedElement_38 ((if_pos hsh).trans ((if_neg (by assumption)).trans (if_pos (by assumption)))).symm
    · refine r_bipush C (v := -11) dX9_refusedElement_25 (by decide) ?_
      exact rp C Z dX9_refusedElement_27 ((if_pos hsh).trans (if_pos (by assumption))).symm
  · refine r_iconst C (v := -1) dX9_refusedElement_7 (by decide) ?_
    exact rp C Z dX9_refusedElement_8 (if_neg (by assumption)).symm
set_option maxRecDepth 100000 in
theorem sX9_judge {g : Gb} {d : Nat} (hd : 9 ≤ d) (k : Int32) (I : Is) (J : Js) (b : Bool) (hs0 : 0 ≤ (I 1 1).toInt) (hs3 : (I 1 1).toInt ≤ 3) (hNW : NW (I 1 1) (I 2)) (hTW : TW I b) (hv : VOk (gv I 16)) (hsz : ∀ t, isSh t → 0 ≤ (I t 1).toInt ∧ (I t 1).toInt ≤ 60) : MC9 g d mX9_judge [.ref 0, .int k] I J b (Qi J b (fun v I' => (¬ rrF I k = 0 ∧ v = rrF I k ∧ I' = I) ∨ (rrF I k = 0 ∧ v = fuF (J (shT k + 1)) (fun q => (goF (en I b) (bit 7) (bit 0) (bit 0) (q + 1) (bgF (gv I 16))).1) (I (shT k) 1).toInt.toNat 0 ∧ Fr [32, 33, 34, 35, 36, 37, 14, 15] I I'))) := by
  refine ent9 (own := RX9) rfl rfl rfl (fun X hg hx C Z => ?_)
  subst hg
  refine r_aload_n C dX9_judge_0 rfl ?_
  refine r_iload_n C dX9_judge_1 rfl ?_
  refine cV (ci := 9) C hx (sX9_refusedRings (d := d - 1) (by omega) k I J b) moX9_refusedRings mlX9_212 miX9_refusedRings msX9_refusedRings dX9_judge_2 rfl rfl rfl rfl rfl (by omega) rfl rfl (kp ?_)
  refine r_istore_n C dX9_judge_5 rfl rfl ?_
  refine r_iload_n C dX9_judge_6 rfl ?_
  refine r_ifeq C (tgt := 14) dX9_judge_7 rfl (fun h7_2 => ?_) (fun h7_2 => ?_)
  · have hsh : inR k 5 := rr_in (by assumption)
    obtain ⟨h51, hT⟩ := sh_at b hsh
    obtain ⟨hc4, hr3, hc21, hl60⟩ := sh_all hT b
    obtain ⟨n, hn⟩ : ∃ n : Nat, (I (shT k) 1).toInt = (n : Int) := ⟨(I (shT k) 1).toInt.toNat, by have := (hsz _ hT).1; omega⟩
    have hn9 : n ≤ 60 := by have := (hsz _ hT).2; omega
    have hnx : (I (shT k) 1).toInt.toNat = n := by omega
    refine r_aload_n C dX9_judge_14 rfl ?_
    refine r_getR C flX9_49 dX9_judge_15 rfl rfl rfl ?_
    refine r_aload_n C dX9_judge_18 rfl ?_
    refine r_getR C flX9_69 dX9_judge_19 rfl rfl rfl ?_
    refine r_iload_n C dX9_judge_22 rfl ?_
    refine r_qald C rfl dX9_judge_23 (vin hsh.1 (show k.toInt < 6 by have := hsh.2; omega)) h51 ?_
    refine r_bipush C (v := 7) dX9_judge_24 (by decide) ?_
    refine cV (ci := 8) C hx (sX8_firstUnlike (d := d - 1) (by omega) (shT k) hT 7 n I J b hn hn9 hNW hTW hv) moX8_firstUnlike mlX9_215 miX8_firstUnlike msX8_firstUnlike dX9_judge_26 rfl rfl rfl rfl rfl (by omega) rfl rfl (ki (fun v_26_3 I_26_3 q_26_3 => ?_))
    have hq := q_26_3
    exact ri C Z dX9_judge_29 (Or.inr ⟨by assumption, by rw [hnx]; exact hq.1, hq.2⟩)
  · refine r_iload_n C dX9_judge_10 rfl ?_
    refine r_goto C (tgt := 29) dX9_judge_11 rfl ?_
    exact ri C Z dX9_judge_29 (Or.inl ⟨by assumption, rfl, rfl⟩)
set_option maxRecDepth 100000 in
theorem sX9_who {g : Gb} {d : Nat} (hd : 10 ≤ d) (k w : Int32) (I : Is) (J : Js) (b : Bool) (hs0 : 0 ≤ (I 1 1).toInt) (hs3 : (I 1 1).toInt ≤ 3) (hNW : NW (I 1 1) (I 2)) (hTW : TW I b) (hv : VOk (gv I 16)) (hsz : ∀ t, isSh t → 0 ≤ (I t 1).toInt ∧ (I t 1).toInt ≤ 60) : MC9 g d mX9_who [.ref 0, .int k, .int w] I J b (Qi J b (fun v I' => (¬ inR w 1 ∧ v = -1 ∧ I' = I) ∨ (inR w 1 ∧ ¬ rrF I k = 0 ∧ v = rrF I k ∧ I' = I) ∨ (inR w 1 ∧ rrF I k = 0 ∧ v = (if w = 0 then sfF (fitF I J b (shT k) (I (shT k) 1).toInt.toNat) (2 ^ (I 1 1).toInt.toNat) 0 0 else lsetF (fitF I J b (shT k) (I (shT k) 1).toInt.toNat) (2 ^ (I 1 1).toInt.toNat) 0) ∧ Fr [32, 33, 34, 35, 36, 37, 14, 15] I I'))) := by
  refine ent9 (own := RX9) rfl rfl rfl (fun X hg hx C Z => ?_)
  subst hg
  refine r_iload_n C dX9_who_0 rfl ?_
  refine r_iconst C (v := 1) dX9_who_1 (by decide) ?_
  refine cS C hx (sX9_isWithin (d := d - 1) (by omega) _ _ I J b) moX9_isWithin mlX9_146 mtX9_isWithin dX9_who_2 rfl rfl (by omega) rfl rfl (kp ?_)
  refine z_ifne C (tgt := 10) dX9_who_5 rfl (fun h5_2 => ?_) (fun h5_2 => ?_)
  · refine r_aload_n C dX9_who_10 rfl ?_
    refine r_iload_n C dX9_who_11 rfl ?_
    refine cV (ci := 9) C hx (sX9_refusedRings (d := d - 1) (by omega) k I J b) moX9_refusedRings mlX9_212 miX9_refusedRings msX9_refusedRings dX9_who_12 rfl rfl rfl rfl rfl (by omega) rfl rfl (kp ?_)
    refine r_istore_n C dX9_who_15 rfl rfl ?_
    refine r_iload_n C dX9_who_16 rfl ?_
    refine r_ifeq C (tgt := 22) dX9_who_17 rfl (fun h17_4 => ?_) (fun h17_4 => ?_)
    · have hsh : inR k 5 := rr_in (by assumption)
      obtain ⟨h51, hT⟩ := sh_at b hsh
      obtain ⟨hc4, hr3, hc21, hl60⟩ := sh_all hT b
      obtain ⟨n, hn⟩ : ∃ n : Nat, (I (shT k) 1).toInt = (n : Int) := ⟨(I (shT k) 1).toInt.toNat, by have := (hsz _ hT).1; omega⟩
      have hn9 : n ≤ 60 := by have := (hsz _ hT).2; omega
      have hnx : (I (shT k) 1).toInt.toNat = n := by omega
      refine r_iload_n C dX9_who_22 rfl ?_
      refine r_ifne C (tgt := 42) dX9_who_23 rfl (fun h23_5 => ?_) (fun h23_5 => ?_)
      · refine r_aload_n C dX9_who_42 rfl ?_
        refine r_getR C flX9_49 dX9_who_43 rfl rfl rfl ?_
        refine r_aload_n C dX9_who_46 rfl ?_
        refine r_getR C flX9_69 dX9_who_47 rfl rfl rfl ?_
        refine r_iload_n C dX9_who_50 rfl ?_
        refine r_qald C rfl dX9_who_51 (vin hsh.1 (show k.toInt < 6 by have := hsh.2; omega)) h51 ?_
        refine cV (ci := 8) C hx (sX8_leastSet (d := d - 1) (by omega) (shT k) hT n I J b hn hn9 (I 1 1).toInt.toNat (by omega) (by omega) hNW hTW hv) moX8_leastSet mlX9_223 miX8_leastSet msX8_leastSet dX9_who_52 rfl rfl rfl rfl rfl (by omega) rfl rfl (ki (fun v_52_6 I_52_6 q_52_6 => ?_))
        have hq := q_52_6
        exact ri C Z dX9_who_55 (Or.inr (Or.inr ⟨by assumption, by assumption, by rw [hnx]; exact hq.1.trans (if_neg (by assumption)).symm, hq.2⟩))
      · refine r_aload_n C dX9_who_26 rfl ?_
        refine r_getR C flX9_49 dX9_who_27 rfl rfl rfl ?_
        refine r_aload_n C dX9_who_30 rfl ?_
        refine r_getR C flX9_69 dX9_who_31 rfl rfl rfl ?_
        refine r_iload_n C dX9_who_34 rfl ?_
        refine r_qald C rfl dX9_who_35 (vin hsh.1 (show k.toInt < 6 by have := hsh.2; omega)) h51 ?_
        refine cV (ci := 8) C hx (sX8_setsThatFit (d := d - 1) (by omega) (shT k) hT n I J b hn hn9 (I 1 1).toInt.toNat (by omega) (by omega) hNW hTW hv) moX8_setsThatFit mlX9_219 miX8_setsThatFit msX8_setsThatFit dX9_who_36 rfl rfl rfl rfl rfl (by omega) rfl rfl (ki (fun v_36_7 I_36_7 q_36_7 => ?_))
        have hq := q_36_7
        refine r_goto C (tgt := 55) dX9_who_39 rfl ?_
        exact ri C Z dX9_who_55 (Or.inr (Or.inr ⟨by assumption, by assumption, by rw [hnx]; exact hq.1.trans (if_pos (by assumption)).symm, hq.2⟩))
    · refine r_iload_n C dX9_who_20 rfl ?_
      exact ri C Z dX9_who_21 (Or.inr (Or.inl ⟨by assumption, by assumption, rfl, rfl⟩))
  · refine r_iconst C (v := -1) dX9_who_8 (by decide) ?_
    exact ri C Z dX9_who_9 (Or.inl ⟨by assumption, rfl, rfl⟩)
set_option maxRecDepth 100000 in
theorem sX9_since {g : Gb} {d : Nat} (hd : 10 ≤ d) (k x : Int32) (I : Is) (J : Js) (b : Bool) (hs0 : 0 ≤ (I 1 1).toInt) (hs3 : (I 1 1).toInt ≤ 3) (hNW : NW (I 1 1) (I 2)) (hTW : TW I b) (hv : VOk (gv I 16)) (hsz : ∀ t, isSh t → 0 ≤ (I t 1).toInt ∧ (I t 1).toInt ≤ 60) (hsec : 0 ≤ (I 16 2).toInt ∧ (I 16 2).toInt ≤ 999) : MC9 g d mX9_since [.ref 0, .int k, .int x] I J b (Qi J b (fun v I' => (¬ inS I x ∧ v = -1 ∧ I' = I) ∨ (inS I x ∧ ¬ rrF I k = 0 ∧ v = rrF I k ∧ I' = I) ∨ (inS I x ∧ rrF I k = 0 ∧ v = sbkF (stpF I J b (shT k) (I (shT k) 1).toInt.toNat (ix x)) ((I (shT k) 1).toInt.toNat + 1) 0 ∧ Fr [32, 33, 34, 35, 36, 37, 14, 15] I I'))) := by
  refine ent9 (own := RX9) rfl rfl rfl (fun X hg hx C Z => ?_)
  subst hg
  refine r_aload_n C dX9_since_0 rfl ?_
  refine r_iload_n C dX9_since_1 rfl ?_
  refine cV (ci := 9) C hx (sX9_isStraw (d := d - 1) (by omega) _ I J b hs0 hs3) moX9_isStraw mlX9_143 miX9_isStraw msX9_isStraw dX9_since_2 rfl rfl rfl rfl rfl (by omega) rfl rfl (kp ?_)
  refine z_ifne C (tgt := 10) dX9_since_5 rfl (fun h5_2 => ?_) (fun h5_2 => ?_)
  · refine r_aload_n C dX9_since_10 rfl ?_
    refine r_iload_n C dX9_since_11 rfl ?_
    refine cV (ci := 9) C hx (sX9_refusedRings (d := d - 1) (by omega) k I J b) moX9_refusedRings mlX9_212 miX9_refusedRings msX9_refusedRings dX9_since_12 rfl rfl rfl rfl rfl (by omega) rfl rfl (kp ?_)
    refine r_istore_n C dX9_since_15 rfl rfl ?_
    refine r_iload_n C dX9_since_16 rfl ?_
    refine r_ifeq C (tgt := 24) dX9_since_17 rfl (fun h17_4 => ?_) (fun h17_4 => ?_)
    · have hsh : inR k 5 := rr_in (by assumption)
      obtain ⟨h51, hT⟩ := sh_at b hsh
      obtain ⟨hc4, hr3, hc21, hl60⟩ := sh_all hT b
      obtain ⟨n, hn⟩ : ∃ n : Nat, (I (shT k) 1).toInt = (n : Int) := ⟨(I (shT k) 1).toInt.toNat, by have := (hsz _ hT).1; omega⟩
      have hn9 : n ≤ 60 := by have := (hsz _ hT).2; omega
      have hnx : (I (shT k) 1).toInt.toNat = n := by omega
      have hix : inS I x := by assumption
      obtain ⟨j, hj, rfl⟩ := nI_get hix.1 hix.2 (by omega)
      have jx : ix (nI j) = j := nIix (by omega)
      refine r_aload_n C dX9_since_24 rfl ?_
      refine r_getR C flX9_49 dX9_since_25 rfl rfl rfl ?_
      refine r_aload_n C dX9_since_28 rfl ?_
      refine r_getR C flX9_69 dX9_since_29 rfl rfl rfl ?_
      refine r_iload_n C dX9_since_32 rfl ?_
      refine r_qald C rfl dX9_since_33 (vin hsh.1 (show k.toInt < 6 by have := hsh.2; omega)) h51 ?_
      refine r_iload_n C dX9_since_34 rfl ?_
      refine cV (ci := 8) C hx (sX8_stoppedBehind (d := d - 1) (by omega) (shT k) hT n j I J b hn hn9 hsec (I 1 1).toInt.toNat (by omega) (by omega) (by omega) hNW hTW hv) moX8_stoppedBehind mlX9_226 miX8_stoppedBehind msX8_stoppedBehind dX9_since_35 rfl rfl rfl rfl rfl (by omega) rfl rfl (ki (fun v_35_5 I_35_5 q_35_5 => ?_))
      have hq := q_35_5
      exact ri C Z dX9_since_38 (Or.inr (Or.inr ⟨by assumption, by assumption, by rw [hnx, jx]; exact hq.1, hq.2⟩))
    · refine r_iload_n C dX9_since_20 rfl ?_
      refine r_goto C (tgt := 38) dX9_since_21 rfl ?_
      exact ri C Z dX9_since_38 (Or.inr (Or.inl ⟨by assumption, by assumption, rfl, rfl⟩))
  · refine r_iconst C (v := -1) dX9_since_8 (by decide) ?_
    exact ri C Z dX9_since_9 (Or.inl ⟨by assumption, rfl, rfl⟩)
