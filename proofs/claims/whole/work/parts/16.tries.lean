/-- a glass: level, ice, s, tried, got, sweet, noises; what it goes by: how many straws, the numbers, the wants -/
abbrev GV : Type := Int32 × Int32 × Int32 × (Nat → Int32) × (Nat → Int32) × (Nat → Int32) × (Nat → Int32)
abbrev EV : Type := Nat × (Nat → Int32) × (Nat → Int32 → Int32 → Int32)
def gv (I : Is) (t : Nat) : GV := (I t 0, I t 1, I t 2, I (t + 1), I (t + 2), I (t + 3), I (t + 4))
def en (I : Is) (b : Bool) : EV := (ix (I 1 1), I 2, wantF I b)
def bit (w : Int32) (j : Nat) : Bool := decide (¬ w &&& (1 <<< (nI j &&& 31)) = 0)
def hvF (lv hole w : Int32) : Int32 := if lv.toInt < hole.toInt then w / 2 else w
def pdF (e : EV) (pt fr : Nat → Bool) (v : GV) (j : Nat) : Bool := pt j && decide ((fr j = true ∨ v.2.2.1.toInt < (e.2.1 (8 * j + 7)).toInt) ∧ (irm v.2.2.1 (e.2.1 (8 * j + 4) + e.2.1 (8 * j + 5))).toInt < (e.2.1 (8 * j + 4)).toInt)
/-- what straw j gets if the others leave it: lv the level, tr how long it has drawn -/
def trF (e : EV) (hc : Bool) (lv tr : Int32) (j : Nat) : Int32 := if hc = true then 0 else if (lv - e.2.1 (8 * j + 2)).toInt ≤ 0 then 0 else imin (hvF lv (e.2.1 (8 * j + 6)) (e.2.2 j lv tr)) (lv - e.2.1 (8 * j + 2))
def wVF (e : EV) (pt fr hc : Nat → Bool) (v : GV) (j : Nat) : Int32 := if pdF e pt fr v j = true then trF e (hc j) v.1 (v.2.2.2.1 j) j else 0
def smF (f : Nat → Int32) : Nat → Int32
  | 0 => 0
  | n + 1 => smF f n + f n
def sbF (l : Int32) (f : Nat → Int32) : Nat → Int32
  | 0 => l
  | n + 1 => sbF l f n - f n
/-- the share of a want -/
def shF (lv all w : Int32) : Int32 := if lv.toInt < all.toInt then w * lv / all else w
def mlF (e : EV) (ice l1 : Int32) : Int32 := if 0 < ice.toInt then imin (imin (e.2.1 24) ice) (999 - l1) else 0
def secF (e : EV) (pt fr hc : Nat → Bool) (v : GV) : GV :=
  (sbF v.1 (fun j => shF v.1 (smF (wVF e pt fr hc v) e.1) (wVF e pt fr hc v j)) e.1 + mlF e v.2.1 (sbF v.1 (fun j => shF v.1 (smF (wVF e pt fr hc v) e.1) (wVF e pt fr hc v j)) e.1),
   v.2.1 - mlF e v.2.1 (sbF v.1 (fun j => shF v.1 (smF (wVF e pt fr hc v) e.1) (wVF e pt fr hc v j)) e.1), v.2.2.1 + 1,
   fun k => if k < e.1 ∧ pdF e pt fr v k = true then v.2.2.2.1 k + 1 else v.2.2.2.1 k,
   fun k => if k < e.1 then v.2.2.2.2.1 k + shF v.1 (smF (wVF e pt fr hc v) e.1) (wVF e pt fr hc v k) else v.2.2.2.2.1 k,
   fun k => if k < e.1 then v.2.2.2.2.2.1 k + shF v.1 (smF (wVF e pt fr hc v) e.1) (wVF e pt fr hc v k) * swF e.2.1 k else v.2.2.2.2.2.1 k,
   fun k => if k < e.1 ∧ pdF e pt fr v k = true ∧ hc k = false ∧ (v.1 - e.2.1 (8 * k + 2)).toInt ≤ 0 then v.2.2.2.2.2.2 k + 1 else v.2.2.2.2.2.2 k)
theorem wantF_rows {I I' : Is} {b : Bool} (h : ∀ c, c ∈ [2, 5, 6, 7, 8, 10, 11, 12, 13] → I' c = I c) (j : Nat) (l t : Int32) : wantF I' b j l t = wantF I b j l t := by
  unfold wantF
  cases b <;> (show (if I' _ 4 = 0 then _ else _) = _) <;> rw [h 2 (by decide)]
  · show (if I' 10 4 = 0 then _ else prF _ (I' 11) (I' 12) (I' 13) (ix (I' 10 4)) 0 0 true) = _
    rw [h 10 (by decide), h 11 (by decide), h 12 (by decide), h 13 (by decide)]
    rfl
  · show (if I' 5 4 = 0 then _ else prF _ (I' 6) (I' 7) (I' 8) (ix (I' 5 4)) 0 0 true) = _
    rw [h 5 (by decide), h 6 (by decide), h 7 (by decide), h 8 (by decide)]
    rfl
theorem TW_rows {I I' : Is} {b : Bool} (h : ∀ c, c ∈ [5, 7, 10, 12] → I' c = I c) (hw : TW I b) : TW I' b := by
  cases b
  · unfold TW at hw ⊢
    show (0 ≤ (I' 10 4).toInt ∧ _) ∧ ∀ k : Nat, _ → 0 ≤ (I' 12 k).toInt ∧ (I' 12 k).toInt ≤ 120
    rw [h 12 (by decide)]
    rw [show tbL false = 10 from rfl] at *
    rw [h 10 (by decide)]
    exact hw
  · unfold TW at hw ⊢
    show (0 ≤ (I' 5 4).toInt ∧ _) ∧ ∀ k : Nat, _ → 0 ≤ (I' 7 k).toInt ∧ (I' 7 k).toInt ≤ 120
    rw [h 7 (by decide)]
    rw [show tbL true = 5 from rfl] at *
    rw [h 5 (by decide)]
    exact hw
theorem en_rows {I I' : Is} {b : Bool} (h : ∀ c, c ∈ [1, 2, 5, 6, 7, 8, 10, 11, 12, 13] → I' c = I c) : en I' b = en I b := by
  unfold en
  rw [h 1 (by decide), h 2 (by decide)]
  have e : wantF I' b = wantF I b := by
    funext j l t
    exact wantF_rows (fun c hc => h c (by revert hc; revert c; decide)) j l t
  rw [e]
theorem imin_int (x y : Int32) : (imin x y).toInt = min x.toInt y.toInt := by
  unfold imin
  by_cases h : y < x
  · rw [if_pos h]
    have := Int32.lt_iff_toInt_lt.mp h
    omega
  · rw [if_neg h]
    have : ¬ y.toInt < x.toInt := fun z => h (Int32.lt_iff_toInt_lt.mpr z)
    omega
theorem imax_int (x y : Int32) : (imax x y).toInt = max x.toInt y.toInt := by
  unfold imax
  by_cases h : x < y
  · rw [if_pos h]
    have := Int32.lt_iff_toInt_lt.mp h
    omega
  · rw [if_neg h]
    have : ¬ x.toInt < y.toInt := fun z => h (Int32.lt_iff_toInt_lt.mpr z)
    omega
set_option maxRecDepth 100000 in
set_option maxHeartbeats 400000 in
theorem sX1_tries_16 {g : Gb} {d : Nat} (hd : 4 ≤ d) (j : Nat) (hj : j < 3) (z : Int32) (I : Is) (J : Js) (b : Bool) (hti : 1 ≤ (I 2 (8 * j + 3)).toInt) (hTW : TW I b) : MC9 g d mX1_tries [.ref 16, .int (nI j), .int z] I J b (Qi J b (fun v I' => v = trF (en I b) (decide (¬ z = 0)) (I 16 0) (I 17 j) j ∧ (∀ k, I' 17 k = if k = j then I 17 k + 1 else I 17 k) ∧ (∀ k, I' 20 k = if k = j ∧ z = 0 ∧ (I 16 0 - I 2 (8 * j + 2)).toInt ≤ 0 then I 20 k + 1 else I 20 k) ∧ Fr [17, 20, 14, 15] I I')) := by
  obtain ⟨I1, hI1⟩ : ∃ z, z = u2 I 17 j (I 17 j + 1) := ⟨_, rfl⟩
  have hF1 : Fr [17] I I1 := by rw [hI1]; exact Fr.rf.st (by decide)
  have r2 : I1 2 = I 2 := hF1 2 (by decide)
  have rt : I1 16 = I 16 := hF1 16 (by decide)
  have r4 : I1 20 = I 20 := hF1 20 (by decide)
  have hTW1 : TW I1 b := TW_rows (fun c hc => hF1 c (by revert hc; revert c; decide)) hTW
  have hw1 : ∀ l t, wantF I1 b j l t = wantF I b j l t := fun l t => wantF_rows (fun c hc => hF1 c (by revert hc; revert c; decide)) j l t
  have ht1 : ∀ k, I1 17 k = if k = j then I 17 k + 1 else I 17 k := fun k => by
    rw [hI1]
    by_cases e : k = j
    · subst e; rw [if_pos rfl, u2_same]
    · rw [if_neg e, u2_ne I 17 j _ (Or.inr e)]
  have ij : ix (nI j) = j := nIix (by omega)
  refine ent9 (own := RX1) rfl rfl rfl (fun X hg hx C Z => ?_)
  subst hg
  refine r_aload_n C dX1_tries_0 rfl ?_
  refine r_getR C flX1_15 dX1_tries_1 rfl rfl rfl ?_
  refine r_iload_n C dX1_tries_4 rfl ?_
  refine r_iald C rfl dX1_tries_5 (nIin hj (by decide)) ?_
  rw [ij]
  refine r_istore_n C dX1_tries_6 rfl rfl ?_
  refine r_aload_n C dX1_tries_7 rfl ?_
  refine r_getR C flX1_15 dX1_tries_8 rfl rfl rfl ?_
  refine r_iload_n C dX1_tries_11 rfl ?_
  refine r_iload_n C dX1_tries_12 rfl ?_
  refine r_iconst C (v := 1) dX1_tries_13 (by decide) ?_
  refine r_iadd C dX1_tries_14 ?_
  refine r_iast C rfl dX1_tries_15 (nIin hj (by decide)) ?_
  rw [ij, ← hI1]
  refine r_iload_n C dX1_tries_16 rfl ?_
  refine r_ifeq C (tgt := 22) dX1_tries_17 rfl (fun h17_1 => ?_) (fun h17_1 => ?_)
  · refine r_aload_n C dX1_tries_22 rfl ?_
    refine r_getI C flX1_9 dX1_tries_23 rfl rfl ?_
    refine r_aload_n C dX1_tries_26 rfl ?_
    refine r_getR C flX1_31 dX1_tries_27 rfl rfl rfl ?_
    refine r_iload_n C dX1_tries_30 rfl ?_
    refine r_iconst C (v := 2) dX1_tries_31 (by decide) ?_
    refine cV (ci := 3) C hx (sOf (d := d - 1) j 2 hj (by decide) I1 J b) moX3_ofStraw mlX1_75 miX3_ofStraw msX3_ofStraw dX1_tries_32 rfl rfl rfl rfl rfl (by omega) rfl rfl (kp ?_)
    refine r_isub C dX1_tries_35 ?_
    refine r_istore C dX1_tries_36 rfl rfl ?_
    refine r_iload C dX1_tries_38 rfl ?_
    refine b_ifgt C (tgt := 55) dX1_tries_40 rfl (fun h40_3 => ?_) (fun h40_3 => ?_)
    · refine r_aload_n C dX1_tries_55 rfl ?_
      refine r_getR C flX1_35 dX1_tries_56 rfl rfl rfl ?_
      refine r_iload_n C dX1_tries_59 rfl ?_
      refine r_aload_n C dX1_tries_60 rfl ?_
      refine r_getI C flX1_9 dX1_tries_61 rfl rfl ?_
      refine r_iload_n C dX1_tries_64 rfl ?_
      refine cV (ci := 2) C hx (sX2_want (d := d - 1) (by omega) j hj _ _ I1 J b (by rw [r2]; exact hti) hTW1) moX2_want mlX1_79 miX2_want msX2_want dX1_tries_65 rfl rfl rfl rfl rfl (by omega) rfl rfl (ki (fun v_65_4 I_65_4 q_65_4 => ?_))
      refine r_istore C dX1_tries_68 rfl rfl ?_
      refine r_aload_n C dX1_tries_70 rfl ?_
      refine r_getI C flX1_9 dX1_tries_71 rfl rfl ?_
      refine r_aload_n C dX1_tries_74 rfl ?_
      refine r_getR C flX1_31 dX1_tries_75 rfl rfl rfl ?_
      refine r_iload_n C dX1_tries_78 rfl ?_
      refine r_bipush C (v := 6) dX1_tries_79 (by decide) ?_
      refine cV (ci := 3) C hx (sOf (d := d - 1) j 6 hj (by decide) _ J b) moX3_ofStraw mlX1_75 miX3_ofStraw msX3_ofStraw dX1_tries_81 rfl rfl rfl rfl rfl (by omega) rfl rfl (kp ?_)
      refine b_icge C (tgt := 93) rfl rfl dX1_tries_84 rfl (fun h84_6 => ?_) (fun h84_6 => ?_)
      · refine r_iload C dX1_tries_93 rfl ?_
        refine r_iload C dX1_tries_95 rfl ?_
        refine cmin C hx mlX1_85 dX1_tries_97 (by omega) rfl rfl ?_
        exact ri C Z dX1_tries_100 ⟨by
      have hd := ‹0 < (I1 16 0 - I1 2 (8 * j + 2)).toInt›
      obtain ⟨q1, q2⟩ := q_65_4
      have hh := h84_6
      rw [q2 16 (by decide), q2 2 (by decide)] at hh
      rw [rt, r2] at hd hh
      rw [hw1, rt] at q1
      unfold trF
      rw [if_neg (by simpa using ‹z = 0›)]
      refine Eq.trans ?_ (if_neg (Int.not_le.mpr hd)).symm
      show imin _ (I1 16 0 - I1 2 (8 * j + 2)) = imin (hvF (I 16 0) (I 2 (8 * j + 6)) (wantF I b j (I 16 0) (I 17 j))) (I 16 0 - I 2 (8 * j + 2))
      unfold hvF
      rw [if_neg (Int.not_lt.mpr hh), q1, rt, r2], fun k => by rw [q_65_4.2 17 (by decide)]; exact ht1 k, fun k => by
      have hd := ‹0 < (I1 16 0 - I1 2 (8 * j + 2)).toInt›
      rw [rt, r2] at hd
      rw [q_65_4.2 20 (by decide), r4, if_neg (fun z => absurd z.2.2 (Int.not_le.mpr hd))], hF1.tr q_65_4.2 (by decide) (by decide)⟩
      · refine r_iload C dX1_tries_87 rfl ?_
        refine r_iconst C (v := 2) dX1_tries_89 (by decide) ?_
        refine r_idiv C dX1_tries_90 (by decide) ?_
        refine r_istore C dX1_tries_91 rfl rfl ?_
        refine r_iload C dX1_tries_93 rfl ?_
        refine r_iload C dX1_tries_95 rfl ?_
        refine cmin C hx mlX1_85 dX1_tries_97 (by omega) rfl rfl ?_
        exact ri C Z dX1_tries_100 ⟨by
      have hd := ‹0 < (I1 16 0 - I1 2 (8 * j + 2)).toInt›
      obtain ⟨q1, q2⟩ := q_65_4
      have hh := h84_6
      rw [q2 16 (by decide), q2 2 (by decide)] at hh
      rw [rt, r2] at hd hh
      rw [hw1, rt] at q1
      unfold trF
      rw [if_neg (by simpa using ‹z = 0›)]
      refine Eq.trans ?_ (if_neg (Int.not_le.mpr hd)).symm
      show imin _ (I1 16 0 - I1 2 (8 * j + 2)) = imin (hvF (I 16 0) (I 2 (8 * j + 6)) (wantF I b j (I 16 0) (I 17 j))) (I 16 0 - I 2 (8 * j + 2))
      unfold hvF
      rw [if_pos hh, q1, rt, r2], fun k => by rw [q_65_4.2 17 (by decide)]; exact ht1 k, fun k => by
      have hd := ‹0 < (I1 16 0 - I1 2 (8 * j + 2)).toInt›
      rw [rt, r2] at hd
      rw [q_65_4.2 20 (by decide), r4, if_neg (fun z => absurd z.2.2 (Int.not_le.mpr hd))], hF1.tr q_65_4.2 (by decide) (by decide)⟩
    · refine r_aload_n C dX1_tries_43 rfl ?_
      refine r_getR C flX1_25 dX1_tries_44 rfl rfl rfl ?_
      refine r_iload_n C dX1_tries_47 rfl ?_
      refine r_dup2 C dX1_tries_48 rfl rfl ?_
      refine r_iald C rfl dX1_tries_49 (nIin hj (by decide)) ?_
      rw [ij]
      refine r_iconst C (v := 1) dX1_tries_50 (by decide) ?_
      refine r_iadd C dX1_tries_51 ?_
      refine r_iast C rfl dX1_tries_52 (nIin hj (by decide)) ?_
      rw [ij]
      refine r_iconst C (v := 0) dX1_tries_53 (by decide) ?_
      exact ri C Z dX1_tries_54 ⟨by
      have hd := ‹(I1 16 0 - I1 2 (8 * j + 2)).toInt ≤ 0›
      rw [rt, r2] at hd
      unfold trF
      rw [if_neg (by simpa using ‹z = 0›)]
      exact (if_pos hd).symm, fun k => by rw [u2_ne I1 20 j _ (Or.inl (by decide))]; exact ht1 k, fun k => by
      have hd := ‹(I1 16 0 - I1 2 (8 * j + 2)).toInt ≤ 0›
      rw [rt, r2] at hd
      by_cases e : k = j
      · subst e; rw [u2_same, r4, if_pos ⟨rfl, by assumption, hd⟩]
      · rw [u2_ne I1 20 j _ (Or.inr e), r4, if_neg (fun z => e z.1)], (hF1.mo (by decide)).st (by decide)⟩
  · refine r_iconst C (v := 0) dX1_tries_20 (by decide) ?_
    exact ri C Z dX1_tries_21 ⟨by unfold trF; rw [if_pos (by simpa using ‹¬ z = 0›)], ht1, fun k => by rw [r4, if_neg (fun e => absurd e.2.1 (by assumption))], hF1.mo (by decide)⟩
set_option maxRecDepth 100000 in
set_option maxHeartbeats 400000 in
theorem sX1_tries_32 {g : Gb} {d : Nat} (hd : 4 ≤ d) (j : Nat) (hj : j < 3) (z : Int32) (I : Is) (J : Js) (b : Bool) (hti : 1 ≤ (I 2 (8 * j + 3)).toInt) (hTW : TW I b) : MC9 g d mX1_tries [.ref 32, .int (nI j), .int z] I J b (Qi J b (fun v I' => v = trF (en I b) (decide (¬ z = 0)) (I 32 0) (I 33 j) j ∧ (∀ k, I' 33 k = if k = j then I 33 k + 1 else I 33 k) ∧ (∀ k, I' 36 k = if k = j ∧ z = 0 ∧ (I 32 0 - I 2 (8 * j + 2)).toInt ≤ 0 then I 36 k + 1 else I 36 k) ∧ Fr [33, 36, 14, 15] I I')) := by
  obtain ⟨I1, hI1⟩ : ∃ z, z = u2 I 33 j (I 33 j + 1) := ⟨_, rfl⟩
  have hF1 : Fr [33] I I1 := by rw [hI1]; exact Fr.rf.st (by decide)
  have r2 : I1 2 = I 2 := hF1 2 (by decide)
  have rt : I1 32 = I 32 := hF1 32 (by decide)
  have r4 : I1 36 = I 36 := hF1 36 (by decide)
  have hTW1 : TW I1 b := TW_rows (fun c hc => hF1 c (by revert hc; revert c; decide)) hTW
  have hw1 : ∀ l t, wantF I1 b j l t = wantF I b j l t := fun l t => wantF_rows (fun c hc => hF1 c (by revert hc; revert c; decide)) j l t
  have ht1 : ∀ k, I1 33 k = if k = j then I 33 k + 1 else I 33 k := fun k => by
    rw [hI1]
    by_cases e : k = j
    · subst e; rw [if_pos rfl, u2_same]
    · rw [if_neg e, u2_ne I 33 j _ (Or.inr e)]
  have ij : ix (nI j) = j := nIix (by omega)
  refine ent9 (own := RX1) rfl rfl rfl (fun X hg hx C Z => ?_)
  subst hg
  refine r_aload_n C dX1_tries_0 rfl ?_
  refine r_getR C flX1_15 dX1_tries_1 rfl rfl rfl ?_
  refine r_iload_n C dX1_tries_4 rfl ?_
  refine r_iald C rfl dX1_tries_5 (nIin hj (by decide)) ?_
  rw [ij]
  refine r_istore_n C dX1_tries_6 rfl rfl ?_
  refine r_aload_n C dX1_tries_7 rfl ?_
  refine r_getR C flX1_15 dX1_tries_8 rfl rfl rfl ?_
  refine r_iload_n C dX1_tries_11 rfl ?_
  refine r_iload_n C dX1_tries_12 rfl ?_
  refine r_iconst C (v := 1) dX1_tries_13 (by decide) ?_
  refine r_iadd C dX1_tries_14 ?_
  refine r_iast C rfl dX1_tries_15 (nIin hj (by decide)) ?_
  rw [ij, ← hI1]
  refine r_iload_n C dX1_tries_16 rfl ?_
  refine r_ifeq C (tgt := 22) dX1_tries_17 rfl (fun h17_1 => ?_) (fun h17_1 => ?_)
  · refine r_aload_n C dX1_tries_22 rfl ?_
    refine r_getI C flX1_9 dX1_tries_23 rfl rfl ?_
    refine r_aload_n C dX1_tries_26 rfl ?_
    refine r_getR C flX1_31 dX1_tries_27 rfl rfl rfl ?_
    refine r_iload_n C dX1_tries_30 rfl ?_
    refine r_iconst C (v := 2) dX1_tries_31 (by decide) ?_
    refine cV (ci := 3) C hx (sOf (d := d - 1) j 2 hj (by decide) I1 J b) moX3_ofStraw mlX1_75 miX3_ofStraw msX3_ofStraw dX1_tries_32 rfl rfl rfl rfl rfl (by omega) rfl rfl (kp ?_)
    refine r_isub C dX1_tries_35 ?_
    refine r_istore C dX1_tries_36 rfl rfl ?_
    refine r_iload C dX1_tries_38 rfl ?_
    refine b_ifgt C (tgt := 55) dX1_tries_40 rfl (fun h40_3 => ?_) (fun h40_3 => ?_)
    · refine r_aload_n C dX1_tries_55 rfl ?_
      refine r_getR C flX1_35 dX1_tries_56 rfl rfl rfl ?_
      refine r_iload_n C dX1_tries_59 rfl ?_
      refine r_aload_n C dX1_tries_60 rfl ?_
      refine r_getI C flX1_9 dX1_tries_61 rfl rfl ?_
      refine r_iload_n C dX1_tries_64 rfl ?_
      refine cV (ci := 2) C hx (sX2_want (d := d - 1) (by omega) j hj _ _ I1 J b (by rw [r2]; exact hti) hTW1) moX2_want mlX1_79 miX2_want msX2_want dX1_tries_65 rfl rfl rfl rfl rfl (by omega) rfl rfl (ki (fun v_65_4 I_65_4 q_65_4 => ?_))
      refine r_istore C dX1_tries_68 rfl rfl ?_
      refine r_aload_n C dX1_tries_70 rfl ?_
      refine r_getI C flX1_9 dX1_tries_71 rfl rfl ?_
      refine r_aload_n C dX1_tries_74 rfl ?_
      refine r_getR C flX1_31 dX1_tries_75 rfl rfl rfl ?_
      refine r_iload_n C dX1_tries_78 rfl ?_
      refine r_bipush C (v := 6) dX1_tries_79 (by decide) ?_
      refine cV (ci := 3) C hx (sOf (d := d - 1) j 6 hj (by decide) _ J b) moX3_ofStraw mlX1_75 miX3_ofStraw msX3_ofStraw dX1_tries_81 rfl rfl rfl rfl rfl (by omega) rfl rfl (kp ?_)
      refine b_icge C (tgt := 93) rfl rfl dX1_tries_84 rfl (fun h84_6 => ?_) (fun h84_6 => ?_)
      · refine r_iload C dX1_tries_93 rfl ?_
        refine r_iload C dX1_tries_95 rfl ?_
        refine cmin C hx mlX1_85 dX1_tries_97 (by omega) rfl rfl ?_
        exact ri C Z dX1_tries_100 ⟨by
      have hd := ‹0 < (I1 32 0 - I1 2 (8 * j + 2)).toInt›
      obtain ⟨q1, q2⟩ := q_65_4
      have hh := h84_6
      rw [q2 32 (by decide), q2 2 (by decide)] at hh
      rw [rt, r2] at hd hh
      rw [hw1, rt] at q1
      unfold trF
      rw [if_neg (by simpa using ‹z = 0›)]
      refine Eq.trans ?_ (if_neg (Int.not_le.mpr hd)).symm
      show imin _ (I1 32 0 - I1 2 (8 * j + 2)) = imin (hvF (I 32 0) (I 2 (8 * j + 6)) (wantF I b j (I 32 0) (I 33 j))) (I 32 0 - I 2 (8 * j + 2))
      unfold hvF
      rw [if_neg (Int.not_lt.mpr hh), q1, rt, r2], fun k => by rw [q_65_4.2 33 (by decide)]; exact ht1 k, fun k => by
      have hd := ‹0 < (I1 32 0 - I1 2 (8 * j + 2)).toInt›
      rw [rt, r2] at hd
      rw [q_65_4.2 36 (by decide), r4, if_neg (fun z => absurd z.2.2 (Int.not_le.mpr hd))], hF1.tr q_65_4.2 (by decide) (by decide)⟩
      · refine r_iload C dX1_tries_87 rfl ?_
        refine r_iconst C (v := 2) dX1_tries_89 (by decide) ?_
        refine r_idiv C dX1_tries_90 (by decide) ?_
        refine r_istore C dX1_tries_91 rfl rfl ?_
        refine r_iload C dX1_tries_93 rfl ?_
        refine r_iload C dX1_tries_95 rfl ?_
        refine cmin C hx mlX1_85 dX1_tries_97 (by omega) rfl rfl ?_
        exact ri C Z dX1_tries_100 ⟨by
      have hd := ‹0 < (I1 32 0 - I1 2 (8 * j + 2)).toInt›
      obtain ⟨q1, q2⟩ := q_65_4
      have hh := h84_6
      rw [q2 32 (by decide), q2 2 (by decide)] at hh
      rw [rt, r2] at hd hh
      rw [hw1, rt] at q1
      unfold trF
      rw [if_neg (by simpa using ‹z = 0›)]
      refine Eq.trans ?_ (if_neg (Int.not_le.mpr hd)).symm
      show imin _ (I1 32 0 - I1 2 (8 * j + 2)) = imin (hvF (I 32 0) (I 2 (8 * j + 6)) (wantF I b j (I 32 0) (I 33 j))) (I 32 0 - I 2 (8 * j + 2))
      unfold hvF
      rw [if_pos hh, q1, rt, r2], fun k => by rw [q_65_4.2 33 (by decide)]; exact ht1 k, fun k => by
      have hd := ‹0 < (I1 32 0 - I1 2 (8 * j + 2)).toInt›
      rw [rt, r2] at hd
      rw [q_65_4.2 36 (by decide), r4, if_neg (fun z => absurd z.2.2 (Int.not_le.mpr hd))], hF1.tr q_65_4.2 (by decide) (by decide)⟩
    · refine r_aload_n C dX1_tries_43 rfl ?_
      refine r_getR C flX1_25 dX1_tries_44 rfl rfl rfl ?_
      refine r_iload_n C dX1_tries_47 rfl ?_
      refine r_dup2 C dX1_tries_48 rfl rfl ?_
      refine r_iald C rfl dX1_tries_49 (nIin hj (by decide)) ?_
      rw [ij]
      refine r_iconst C (v := 1) dX1_tries_50 (by decide) ?_
      refine r_iadd C dX1_tries_51 ?_
      refine r_iast C rfl dX1_tries_52 (nIin hj (by decide)) ?_
      rw [ij]
      refine r_iconst C (v := 0) dX1_tries_53 (by decide) ?_
      exact ri C Z dX1_tries_54 ⟨by
      have hd := ‹(I1 32 0 - I1 2 (8 * j + 2)).toInt ≤ 0›
      rw [rt, r2] at hd
      unfold trF
      rw [if_neg (by simpa using ‹z = 0›)]
      exact (if_pos hd).symm, fun k => by rw [u2_ne I1 36 j _ (Or.inl (by decide))]; exact ht1 k, fun k => by
      have hd := ‹(I1 32 0 - I1 2 (8 * j + 2)).toInt ≤ 0›
      rw [rt, r2] at hd
      by_cases e : k = j
      · subst e; rw [u2_same, r4, if_pos ⟨rfl, by assumption, hd⟩]
      · rw [u2_ne I1 36 j _ (Or.inr e), r4, if_neg (fun z => e z.1)], (hF1.mo (by decide)).st (by decide)⟩
  · refine r_iconst C (v := 0) dX1_tries_20 (by decide) ?_
    exact ri C Z dX1_tries_21 ⟨by unfold trF; rw [if_pos (by simpa using ‹¬ z = 0›)], ht1, fun k => by rw [r4, if_neg (fun e => absurd e.2.1 (by assumption))], hF1.mo (by decide)⟩
set_option maxRecDepth 100000 in
set_option maxHeartbeats 400000 in
theorem sX1_tries_38 {g : Gb} {d : Nat} (hd : 4 ≤ d) (j : Nat) (hj : j < 3) (z : Int32) (I : Is) (J : Js) (b : Bool) (hti : 1 ≤ (I 2 (8 * j + 3)).toInt) (hTW : TW I b) : MC9 g d mX1_tries [.ref 38, .int (nI j), .int z] I J b (Qi J b (fun v I' => v = trF (en I b) (decide (¬ z = 0)) (I 38 0) (I 39 j) j ∧ (∀ k, I' 39 k = if k = j then I 39 k + 1 else I 39 k) ∧ (∀ k, I' 42 k = if k = j ∧ z = 0 ∧ (I 38 0 - I 2 (8 * j + 2)).toInt ≤ 0 then I 42 k + 1 else I 42 k) ∧ Fr [39, 42, 14, 15] I I')) := by
  obtain ⟨I1, hI1⟩ : ∃ z, z = u2 I 39 j (I 39 j + 1) := ⟨_, rfl⟩
  have hF1 : Fr [39] I I1 := by rw [hI1]; exact Fr.rf.st (by decide)
  have r2 : I1 2 = I 2 := hF1 2 (by decide)
  have rt : I1 38 = I 38 := hF1 38 (by decide)
  have r4 : I1 42 = I 42 := hF1 42 (by decide)
  have hTW1 : TW I1 b := TW_rows (fun c hc => hF1 c (by revert hc; revert c; decide)) hTW
  have hw1 : ∀ l t, wantF I1 b j l t = wantF I b j l t := fun l t => wantF_rows (fun c hc => hF1 c (by revert hc; revert c; decide)) j l t
  have ht1 : ∀ k, I1 39 k = if k = j then I 39 k + 1 else I 39 k := fun k => by
    rw [hI1]
    by_cases e : k = j
    · subst e; rw [if_pos rfl, u2_same]
    · rw [if_neg e, u2_ne I 39 j _ (Or.inr e)]
  have ij : ix (nI j) = j := nIix (by omega)
  refine ent9 (own := RX1) rfl rfl rfl (fun X hg hx C Z => ?_)
  subst hg
  refine r_aload_n C dX1_tries_0 rfl ?_
  refine r_getR C flX1_15 dX1_tries_1 rfl rfl rfl ?_
  refine r_iload_n C dX1_tries_4 rfl ?_
  refine r_iald C rfl dX1_tries_5 (nIin hj (by decide)) ?_
  rw [ij]
  refine r_istore_n C dX1_tries_6 rfl rfl ?_
  refine r_aload_n C dX1_tries_7 rfl ?_
  refine r_getR C flX1_15 dX1_tries_8 rfl rfl rfl ?_
  refine r_iload_n C dX1_tries_11 rfl ?_
  refine r_iload_n C dX1_tries_12 rfl ?_
  refine r_iconst C (v := 1) dX1_tries_13 (by decide) ?_
  refine r_iadd C dX1_tries_14 ?_
  refine r_iast C rfl dX1_tries_15 (nIin hj (by decide)) ?_
  rw [ij, ← hI1]
  refine r_iload_n C dX1_tries_16 rfl ?_
  refine r_ifeq C (tgt := 22) dX1_tries_17 rfl (fun h17_1 => ?_) (fun h17_1 => ?_)
  · refine r_aload_n C dX1_tries_22 rfl ?_
    refine r_getI C flX1_9 dX1_tries_23 rfl rfl ?_
    refine r_aload_n C dX1_tries_26 rfl ?_
    refine r_getR C flX1_31 dX1_tries_27 rfl rfl rfl ?_
    refine r_iload_n C dX1_tries_30 rfl ?_
    refine r_iconst C (v := 2) dX1_tries_31 (by decide) ?_
    refine cV (ci := 3) C hx (sOf (d := d - 1) j 2 hj (by decide) I1 J b) moX3_ofStraw mlX1_75 miX3_ofStraw msX3_ofStraw dX1_tries_32 rfl rfl rfl rfl rfl (by omega) rfl rfl (kp ?_)
    refine r_isub C dX1_tries_35 ?_
    refine r_istore C dX1_tries_36 rfl rfl ?_
    refine r_iload C dX1_tries_38 rfl ?_
    refine b_ifgt C (tgt := 55) dX1_tries_40 rfl (fun h40_3 => ?_) (fun h40_3 => ?_)
    · refine r_aload_n C dX1_tries_55 rfl ?_
      refine r_getR C flX1_35 dX1_tries_56 rfl rfl rfl ?_
      refine r_iload_n C dX1_tries_59 rfl ?_
      refine r_aload_n C dX1_tries_60 rfl ?_
      refine r_getI C flX1_9 dX1_tries_61 rfl rfl ?_
      refine r_iload_n C dX1_tries_64 rfl ?_
      refine cV (ci := 2) C hx (sX2_want (d := d - 1) (by omega) j hj _ _ I1 J b (by rw [r2]; exact hti) hTW1) moX2_want mlX1_79 miX2_want msX2_want dX1_tries_65 rfl rfl rfl rfl rfl (by omega) rfl rfl (ki (fun v_65_4 I_65_4 q_65_4 => ?_))
      refine r_istore C dX1_tries_68 rfl rfl ?_
      refine r_aload_n C dX1_tries_70 rfl ?_
      refine r_getI C flX1_9 dX1_tries_71 rfl rfl ?_
      refine r_aload_n C dX1_tries_74 rfl ?_
      refine r_getR C flX1_31 dX1_tries_75 rfl rfl rfl ?_
      refine r_iload_n C dX1_tries_78 rfl ?_
      refine r_bipush C (v := 6) dX1_tries_79 (by decide) ?_
      refine cV (ci := 3) C hx (sOf (d := d - 1) j 6 hj (by decide) _ J b) moX3_ofStraw mlX1_75 miX3_ofStraw msX3_ofStraw dX1_tries_81 rfl rfl rfl rfl rfl (by omega) rfl rfl (kp ?_)
      refine b_icge C (tgt := 93) rfl rfl dX1_tries_84 rfl (fun h84_6 => ?_) (fun h84_6 => ?_)
      · refine r_iload C dX1_tries_93 rfl ?_
        refine r_iload C dX1_tries_95 rfl ?_
        refine cmin C hx mlX1_85 dX1_tries_97 (by omega) rfl rfl ?_
        exact ri C Z dX1_tries_100 ⟨by
      have hd := ‹0 < (I1 38 0 - I1 2 (8 * j + 2)).toInt›
      obtain ⟨q1, q2⟩ := q_65_4
      have hh := h84_6
      rw [q2 38 (by decide), q2 2 (by decide)] at hh
      rw [rt, r2] at hd hh
      rw [hw1, rt] at q1
      unfold trF
      rw [if_neg (by simpa using ‹z = 0›)]
      refine Eq.trans ?_ (if_neg (Int.not_le.mpr hd)).symm
      show imin _ (I1 38 0 - I1 2 (8 * j + 2)) = imin (hvF (I 38 0) (I 2 (8 * j + 6)) (wantF I b j (I 38 0) (I 39 j))) (I 38 0 - I 2 (8 * j + 2))
      unfold hvF
      rw [if_neg (Int.not_lt.mpr hh), q1, rt, r2], fun k => by rw [q_65_4.2 39 (by decide)]; exact ht1 k, fun k => by
      have hd := ‹0 < (I1 38 0 - I1 2 (8 * j + 2)).toInt›
      rw [rt, r2] at hd
      rw [q_65_4.2 42 (by decide), r4, if_neg (fun z => absurd z.2.2 (Int.not_le.mpr hd))], hF1.tr q_65_4.2 (by decide) (by decide)⟩
      · refine r_iload C dX1_tries_87 rfl ?_
        refine r_iconst C (v := 2) dX1_tries_89 (by decide) ?_
        refine r_idiv C dX1_tries_90 (by decide) ?_
        refine r_istore C dX1_tries_91 rfl rfl ?_
        refine r_iload C dX1_tries_93 rfl ?_
        refine r_iload C dX1_tries_95 rfl ?_
        refine cmin C hx mlX1_85 dX1_tries_97 (by omega) rfl rfl ?_
        exact ri C Z dX1_tries_100 ⟨by
      have hd := ‹0 < (I1 38 0 - I1 2 (8 * j + 2)).toInt›
      obtain ⟨q1, q2⟩ := q_65_4
      have hh := h84_6
      rw [q2 38 (by decide), q2 2 (by decide)] at hh
      rw [rt, r2] at hd hh
      rw [hw1, rt] at q1
      unfold trF
      rw [if_neg (by simpa using ‹z = 0›)]
      refine Eq.trans ?_ (if_neg (Int.not_le.mpr hd)).symm
      show imin _ (I1 38 0 - I1 2 (8 * j + 2)) = imin (hvF (I 38 0) (I 2 (8 * j + 6)) (wantF I b j (I 38 0) (I 39 j))) (I 38 0 - I 2 (8 * j + 2))
      unfold hvF
      rw [if_pos hh, q1, rt, r2], fun k => by rw [q_65_4.2 39 (by decide)]; exact ht1 k, fun k => by
      have hd := ‹0 < (I1 38 0 - I1 2 (8 * j + 2)).toInt›
      rw [rt, r2] at hd
      rw [q_65_4.2 42 (by decide), r4, if_neg (fun z => absurd z.2.2 (Int.not_le.mpr hd))], hF1.tr q_65_4.2 (by decide) (by decide)⟩
    · refine r_aload_n C dX1_tries_43 rfl ?_
      refine r_getR C flX1_25 dX1_tries_44 rfl rfl rfl ?_
      refine r_iload_n C dX1_tries_47 rfl ?_
      refine r_dup2 C dX1_tries_48 rfl rfl ?_
      refine r_iald C rfl dX1_tries_49 (nIin hj (by decide)) ?_
      rw [ij]
      refine r_iconst C (v := 1) dX1_tries_50 (by decide) ?_
      refine r_iadd C dX1_tries_51 ?_
      refine r_iast C rfl dX1_tries_52 (nIin hj (by decide)) ?_
      rw [ij]
      refine r_iconst C (v := 0) dX1_tries_53 (by decide) ?_
      exact ri C Z dX1_tries_54 ⟨by
      have hd := ‹(I1 38 0 - I1 2 (8 * j + 2)).toInt ≤ 0›
      rw [rt, r2] at hd
      unfold trF
      rw [if_neg (by simpa using ‹z = 0›)]
      exact (if_pos hd).symm, fun k => by rw [u2_ne I1 42 j _ (Or.inl (by decide))]; exact ht1 k, fun k => by
      have hd := ‹(I1 38 0 - I1 2 (8 * j + 2)).toInt ≤ 0›
      rw [rt, r2] at hd
      by_cases e : k = j
      · subst e; rw [u2_same, r4, if_pos ⟨rfl, by assumption, hd⟩]
      · rw [u2_ne I1 42 j _ (Or.inr e), r4, if_neg (fun z => e z.1)], (hF1.mo (by decide)).st (by decide)⟩
  · refine r_iconst C (v := 0) dX1_tries_20 (by decide) ?_
    exact ri C Z dX1_tries_21 ⟨by unfold trF; rw [if_pos (by simpa using ‹¬ z = 0›)], ht1, fun k => by rw [r4, if_neg (fun e => absurd e.2.1 (by assumption))], hF1.mo (by decide)⟩
