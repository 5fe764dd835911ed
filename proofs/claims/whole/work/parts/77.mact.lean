/-- a body noted, a list of them -/
def ntM (I : Is) (x : Int32) : Is := u2 (if (I 64 46).toInt < 24 then u2 I 86 (ix (I 64 46)) x else I) 64 46 (I 64 46 + 1)
def ntLM (I : Is) (l : List Int32) : Is := l.foldl ntM I
theorem ntM_k (I : Is) (x : Int32) {k : Nat} (h : k ≠ 46) : ntM I x 64 k = I 64 k := by
  unfold ntM
  rw [u2_ne _ _ _ _ (Or.inr h)]
  split
  · exact congrFun (u2_row (by decide)) k
  · rfl
theorem ntM_46 (I : Is) (x : Int32) : ntM I x 64 46 = I 64 46 + 1 := u2_same ..
theorem ntM_fr (I : Is) (x : Int32) : FrM [86] [46] I (ntM I x) := by
  unfold ntM
  split
  · exact (FrM.rf.st (by decide) (by decide)).sf (by decide)
  · exact FrM.rf.sf (by decide)
theorem ntLM_fr (l : List Int32) : ∀ I : Is, FrM [86] [46] I (ntLM I l) := by
  induction l with
  | nil => intro I; exact FrM.rf
  | cons a l ih => intro I; exact (ntM_fr I a).tr (ih (ntM I a)) (by decide) (by decide) (by decide) (by decide)
theorem ntLM_46 (l : List Int32) : ∀ I : Is, 0 ≤ (I 64 46).toInt → (I 64 46).toInt + l.length ≤ 10000 → (ntLM I l 64 46).toInt = (I 64 46).toInt + l.length := by
  induction l with
  | nil => intro I h0 h1; show (I 64 46).toInt = (I 64 46).toInt + ((0 : Nat) : Int); omega
  | cons a l ih =>
    intro I h0 h1
    rw [List.length_cons] at h1 ⊢
    have e : (ntM I a 64 46).toInt = (I 64 46).toInt + 1 := by rw [ntM_46, tI_add (by rw [one_int]; omega) (by rw [one_int]; omega), one_int]
    have := ih (ntM I a) (by omega) (by omega)
    show (ntLM (ntM I a) l 64 46).toInt = _
    omega
theorem ntLM_app (I : Is) (l m : List Int32) : ntLM (ntLM I l) m = ntLM I (l ++ m) := (List.foldl_append ..).symm
def drM (n k x : Int32) : Int32 × List Int32 := if k = 1 ∨ k = 4 ∨ k = 7 then (x + n + 3, [20, 1]) else if k = 6 then ((x + n) * 2, [70, 1]) else (x + n, [1])
def rsM (n own k x : Int32) : Int32 × List Int32 := if k = 3 ∨ k = 5 then ((x ^^^ n) * 3, [40, 11]) else if k = 4 ∨ k = 7 then ((x ^^^ n) - (drM n own 2).1, [50, 11] ++ (drM n own 2).2) else (x ^^^ n, [11])
def ge0M (n own x : Int32) : Int32 × List Int32 := ((drM n own x).1 * 2, 10 :: (drM n own x).2)
def ge2M (n own x : Int32) : Int32 × List Int32 := (-(ge0M n own x).1, 30 :: (ge0M n own x).2)
def geM (n own k x : Int32) : Int32 × List Int32 := if k = 3 ∨ k = 5 then ((ge2M n own (x + 1)).1, 41 :: (ge2M n own (x + 1)).2) else if k = 2 then ge2M n own x else if k = 7 then ((ge0M n own x).1 + (rsM n own own 2).1, 80 :: ((ge0M n own x).2 ++ (rsM n own own 2).2)) else ge0M n own x
def te0M (n own x : Int32) : Int32 × List Int32 := ((geM n own own x).1 - (rsM n own own 1).1, 2 :: ((geM n own own x).2 ++ (rsM n own own 1).2))
def teM (n own k x : Int32) : Int32 × List Int32 := if k = 5 then ((te0M n own x).1 ^^^ 5, 60 :: (te0M n own x).2) else if k = 7 then ((te0M n own x).1 - 1, 81 :: (te0M n own x).2) else te0M n own x
theorem dr_len (n k x : Int32) : (drM n k x).2.length ≤ 2 := by
  unfold drM
  split
  · exact Nat.le_refl 2
  · split
    · exact Nat.le_refl 2
    · exact (by decide : 1 ≤ 2)
theorem rs_len (n own k x : Int32) : (rsM n own k x).2.length ≤ 4 := by
  unfold rsM
  split
  · exact (by decide : 2 ≤ 4)
  · split
    · have := dr_len n own 2
      rw [List.length_append]
      show 2 + _ ≤ 4
      omega
    · exact (by decide : 1 ≤ 4)
theorem ge0_len (n own x : Int32) : (ge0M n own x).2.length ≤ 3 := by
  have := dr_len n own x
  show _ + 1 ≤ 3
  omega
theorem ge_len (n own k x : Int32) : (geM n own k x).2.length ≤ 8 := by
  unfold geM
  split
  · have := ge0_len n own (x + 1)
    show _ + 1 + 1 ≤ 8
    omega
  · split
    · have := ge0_len n own x
      show _ + 1 ≤ 8
      omega
    · split
      · have h1 := ge0_len n own x
        have h2 := rs_len n own own 2
        show (_ ++ _ : List Int32).length + 1 ≤ 8
        rw [List.length_append]
        omega
      · have := ge0_len n own x
        omega
theorem nt1_46 {I : Is} {x : Int32} {B : Int} (h : 0 ≤ (I 64 46).toInt ∧ (I 64 46).toInt ≤ B) (hB : B ≤ 9000) : 0 ≤ (ntM I x 64 46).toInt ∧ (ntM I x 64 46).toInt ≤ B + 1 := by
  rw [ntM_46, tI_add (by rw [one_int]; omega) (by rw [one_int]; omega), one_int]
  omega
theorem ntl_46 {I : Is} {l : List Int32} {B : Int} {m : Nat} (h : 0 ≤ (I 64 46).toInt ∧ (I 64 46).toInt ≤ B) (hl : l.length ≤ m) (hB : B + m ≤ 9000) : 0 ≤ (ntLM I l 64 46).toInt ∧ (ntLM I l 64 46).toInt ≤ B + m := by
  rw [ntLM_46 l I h.1 (by omega)]
  omega
set_option maxRecDepth 100000 in
theorem sX10_begins {g : Gb} {d : Nat} (hd : 0 ≤ d) (x : Int32) (I : Is) (J : Js) (b : Bool) (hr : 0 ≤ (I 64 46).toInt ∧ (I 64 46).toInt ≤ 9000) : MC9 g d mX10_begins [.ref 64, .int x] I J b (Qv J b (fun I' => I' = ntM I x)) := by
  refine ent9 (own := RX10) rfl rfl rfl (fun X hg hx C Z => ?_)
  subst hg
  refine r_aload_n C dX10_begins_0 rfl ?_
  refine r_getI C flX10_316 dX10_begins_1 rfl rfl ?_
  refine r_bipush C (v := 24) dX10_begins_4 (by decide) ?_
  refine b_icge C (tgt := 19) (my := 24) rfl rfl dX10_begins_6 rfl (fun h6_1 => ?_) (fun h6_1 => ?_)
  · refine r_aload_n C dX10_begins_19 rfl ?_
    refine r_dup C dX10_begins_20 rfl ?_
    refine r_getI C flX10_316 dX10_begins_21 rfl rfl ?_
    refine r_iconst C (v := 1) dX10_begins_24 (by decide) ?_
    refine r_iadd C dX10_begins_25 ?_
    refine r_putI C flX10_316 dX10_begins_26 rfl rfl rfl rfl rfl ?_
    exact rv C Z dX10_begins_29 (by unfold ntM; rw [if_neg (by omega)])
  · refine r_aload_n C dX10_begins_9 rfl ?_
    refine r_getR C flX10_73 dX10_begins_10 rfl rfl rfl ?_
    refine r_aload_n C dX10_begins_13 rfl ?_
    refine r_getI C flX10_316 dX10_begins_14 rfl rfl ?_
    refine r_iload_n C dX10_begins_17 rfl ?_
    refine r_iast C rfl dX10_begins_18 (vin hr.1 (show (I 64 46).toInt < 24 by omega)) ?_
    refine r_aload_n C dX10_begins_19 rfl ?_
    refine r_dup C dX10_begins_20 rfl ?_
    refine r_getI C flX10_316 dX10_begins_21 rfl rfl ?_
    refine r_iconst C (v := 1) dX10_begins_24 (by decide) ?_
    refine r_iadd C dX10_begins_25 ?_
    refine r_putI C flX10_316 dX10_begins_26 rfl rfl rfl rfl rfl ?_
    exact rv C Z dX10_begins_29 (by unfold ntM; rw [if_pos (by assumption)]; rfl)
theorem dr_b {n k x : Int32} (h1 : ¬ k = 1) (h4 : ¬ k = 4) (h7 : ¬ k = 7) (h6 : ¬ k = 6) : drM n k x = (x + n, [1]) := (if_neg (fun z => z.elim h1 (fun y => y.elim h4 h7))).trans (if_neg h6)
set_option maxRecDepth 100000 in
theorem sDr0 {g : Gb} {d : Nat} (hd : 1 ≤ d) (k x : Int32) (h1 : ¬ k = 1) (h4 : ¬ k = 4) (h7 : ¬ k = 7) (h6 : ¬ k = 6) (I : Is) (J : Js) (b : Bool) (hr : 0 ≤ (I 64 46).toInt ∧ (I 64 46).toInt ≤ 8000) : MC9 g d mX10_drawsAs [.ref 64, .int k, .int x] I J b (Qi J b (fun v I' => v = x + I 64 48 ∧ I' = ntLM I ([1]))) := by
  refine ent9 (own := RX10) rfl rfl rfl (fun X hg hx C Z => ?_)
  subst hg
  refine r_iload_n C dX10_drawsAs_0 rfl ?_
  refine r_iconst C (v := 1) dX10_drawsAs_1 (by decide) ?_
  refine r_iceq C (tgt := 16) dX10_drawsAs_2 rfl (fun h2_1 => ?_) (fun h2_1 => ?_)
  · exact absurd (by assumption) h1
  · refine r_iload_n C dX10_drawsAs_5 rfl ?_
    refine r_iconst C (v := 4) dX10_drawsAs_6 (by decide) ?_
    refine r_iceq C (tgt := 16) dX10_drawsAs_7 rfl (fun h7_2 => ?_) (fun h7_2 => ?_)
    · exact absurd (by assumption) h4
    · refine r_iload_n C dX10_drawsAs_10 rfl ?_
      refine r_bipush C (v := 7) dX10_drawsAs_11 (by decide) ?_
      refine r_icne C (tgt := 31) dX10_drawsAs_13 rfl (fun h13_3 => ?_) (fun h13_3 => ?_)
      · refine r_iload_n C dX10_drawsAs_31 rfl ?_
        refine r_bipush C (v := 6) dX10_drawsAs_32 (by decide) ?_
        refine r_icne C (tgt := 52) dX10_drawsAs_34 rfl (fun h34_4 => ?_) (fun h34_4 => ?_)
        · refine r_aload_n C dX10_drawsAs_52 rfl ?_
          refine r_iconst C (v := 1) dX10_drawsAs_53 (by decide) ?_
          refine cV (ci := 10) C hx (sX10_begins (d := d - 1) (by omega) 1 I J b ⟨hr.1, by omega⟩) moX10_begins mlX10_319 miX10_begins msX10_begins dX10_drawsAs_54 rfl rfl rfl rfl rfl (by omega) rfl rfl (kv (fun I_54_5 q_54_5 => ?_))
          obtain rfl := q_54_5
          refine r_iload_n C dX10_drawsAs_57 rfl ?_
          refine r_aload_n C dX10_drawsAs_58 rfl ?_
          refine r_getI C flX10_325 dX10_drawsAs_59 rfl rfl ?_
          rw [show (ntM I 1) 64 48 = I 64 48 from ntM_k I 1 (by decide)]
          refine r_iadd C dX10_drawsAs_62 ?_
          exact ri C Z dX10_drawsAs_63 ⟨rfl, rfl⟩
        · exact absurd (by assumption) h6
      · exact absurd (by assumption) h7
set_option maxRecDepth 100000 in
theorem sX10_drawsAs {g : Gb} {d : Nat} (hd : 2 ≤ d) (k x : Int32) (I : Is) (J : Js) (b : Bool) (hr : 0 ≤ (I 64 46).toInt ∧ (I 64 46).toInt ≤ 7000) : MC9 g d mX10_drawsAs [.ref 64, .int k, .int x] I J b (Qi J b (fun v I' => v = (drM (I 64 48) k x).1 ∧ I' = ntLM I ((drM (I 64 48) k x).2))) := by
  refine ent9 (own := RX10) rfl rfl rfl (fun X hg hx C Z => ?_)
  subst hg
  refine r_iload_n C dX10_drawsAs_0 rfl ?_
  refine r_iconst C (v := 1) dX10_drawsAs_1 (by decide) ?_
  refine r_iceq C (tgt := 16) dX10_drawsAs_2 rfl (fun h2_1 => ?_) (fun h2_1 => ?_)
  · refine r_aload_n C dX10_drawsAs_16 rfl ?_
    refine r_bipush C (v := 20) dX10_drawsAs_17 (by decide) ?_
    refine cV (ci := 10) C hx (sX10_begins (d := d - 1) (by omega) 20 I J b ⟨hr.1, by omega⟩) moX10_begins mlX10_319 miX10_begins msX10_begins dX10_drawsAs_19 rfl rfl rfl rfl rfl (by omega) rfl rfl (kv (fun I_19_2 q_19_2 => ?_))
    obtain rfl := q_19_2
    refine r_aload_n C dX10_drawsAs_22 rfl ?_
    refine r_iconst C (v := 0) dX10_drawsAs_23 (by decide) ?_
    refine r_iload_n C dX10_drawsAs_24 rfl ?_
    refine cV (ci := 10) C hx (sDr0 (d := d - 1) (by omega) 0 x (by decide) (by decide) (by decide) (by decide) (ntM I 20) J b ⟨(nt1_46 hr (by decide)).1, by have := (nt1_46 (x := 20) hr (by decide)).2; omega⟩) moX10_drawsAs mlX10_322 miX10_drawsAs msX10_drawsAs dX10_drawsAs_25 rfl rfl rfl rfl rfl (by omega) rfl rfl (ki (fun v_25_3 I_25_3 q_25_3 => ?_))
    obtain ⟨rfl, rfl⟩ := q_25_3
    rw [show (ntM I 20) 64 48 = I 64 48 from ntM_k I 20 (by decide)]
    refine r_iconst C (v := 3) dX10_drawsAs_28 (by decide) ?_
    refine r_iadd C dX10_drawsAs_29 ?_
    exact ri C Z dX10_drawsAs_30 (by rw [show drM (I 64 48) k x = (x + I 64 48 + 3, [20, 1]) from if_pos (by first | exact Or.inl (by assumption) | exact Or.inr (Or.inl (by assumption)) | exact Or.inr (Or.inr (by assumption)))]; exact ⟨rfl, rfl⟩)
  · refine r_iload_n C dX10_drawsAs_5 rfl ?_
    refine r_iconst C (v := 4) dX10_drawsAs_6 (by decide) ?_
    refine r_iceq C (tgt := 16) dX10_drawsAs_7 rfl (fun h7_4 => ?_) (fun h7_4 => ?_)
    · refine r_aload_n C dX10_drawsAs_16 rfl ?_
      refine r_bipush C (v := 20) dX10_drawsAs_17 (by decide) ?_
      refine cV (ci := 10) C hx (sX10_begins (d := d - 1) (by omega) 20 I J b ⟨hr.1, by omega⟩) moX10_begins mlX10_319 miX10_begins msX10_begins dX10_drawsAs_19 rfl rfl rfl rfl rfl (by omega) rfl rfl (kv (fun I_19_5 q_19_5 => ?_))
      obtain rfl := q_19_5
      refine r_aload_n C dX10_drawsAs_22 rfl ?_
      refine r_iconst C (v := 0) dX10_drawsAs_23 (by decide) ?_
      refine r_iload_n C dX10_drawsAs_24 rfl ?_
      refine cV (ci := 10) C hx (sDr0 (d := d - 1) (by omega) 0 x (by decide) (by decide) (by decide) (by decide) (ntM I 20) J b ⟨(nt1_46 hr (by decide)).1, by have := (nt1_46 (x := 20) hr (by decide)).2; omega⟩) moX10_drawsAs mlX10_322 miX10_drawsAs msX10_drawsAs dX10_drawsAs_25 rfl rfl rfl rfl rfl (by omega) rfl rfl (ki (fun v_25_6 I_25_6 q_25_6 => ?_))
      obtain ⟨rfl, rfl⟩ := q_25_6
      rw [show (ntM I 20) 64 48 = I 64 48 from ntM_k I 20 (by decide)]
      refine r_iconst C (v := 3) dX10_drawsAs_28 (by decide) ?_
      refine r_iadd C dX10_drawsAs_29 ?_
      exact ri C Z dX10_drawsAs_30 (by rw [show drM (I 64 48) k x = (x + I 64 48 + 3, [20, 1]) from if_pos (by first | exact Or.inl (by assumption) | exact Or.inr (Or.inl (by assumption)) | exact Or.inr (Or.inr (by assumption)))]; exact ⟨rfl, rfl⟩)
    · refine r_iload_n C dX10_drawsAs_10 rfl ?_
      refine r_bipush C (v := 7) dX10_drawsAs_11 (by decide) ?_
      refine r_icne C (tgt := 31) dX10_drawsAs_13 rfl (fun h13_7 => ?_) (fun h13_7 => ?_)
      · refine r_iload_n C dX10_drawsAs_31 rfl ?_
        refine r_bipush C (v := 6) dX10_drawsAs_32 (by decide) ?_
        refine r_icne C (tgt := 52) dX10_drawsAs_34 rfl (fun h34_8 => ?_) (fun h34_8 => ?_)
        · refine r_aload_n C dX10_drawsAs_52 rfl ?_
          refine r_iconst C (v := 1) dX10_drawsAs_53 (by decide) ?_
          refine cV (ci := 10) C hx (sX10_begins (d := d - 1) (by omega) 1 I J b ⟨hr.1, by omega⟩) moX10_begins mlX10_319 miX10_begins msX10_begins dX10_drawsAs_54 rfl rfl rfl rfl rfl (by omega) rfl rfl (kv (fun I_54_9 q_54_9 => ?_))
          obtain rfl := q_54_9
          refine r_iload_n C dX10_drawsAs_57 rfl ?_
          refine r_aload_n C dX10_drawsAs_58 rfl ?_
          refine r_getI C flX10_325 dX10_drawsAs_59 rfl rfl ?_
          rw [show (ntM I 1) 64 48 = I 64 48 from ntM_k I 1 (by decide)]
          refine r_iadd C dX10_drawsAs_62 ?_
          exact ri C Z dX10_drawsAs_63 (by rw [dr_b (by assumption) (by assumption) (by assumption) (by assumption)]; exact ⟨rfl, rfl⟩)
        · refine r_aload_n C dX10_drawsAs_37 rfl ?_
          refine r_bipush C (v := 70) dX10_drawsAs_38 (by decide) ?_
          refine cV (ci := 10) C hx (sX10_begins (d := d - 1) (by omega) 70 I J b ⟨hr.1, by omega⟩) moX10_begins mlX10_319 miX10_begins msX10_begins dX10_drawsAs_40 rfl rfl rfl rfl rfl (by omega) rfl rfl (kv (fun I_40_10 q_40_10 => ?_))
          obtain rfl := q_40_10
          refine r_aload_n C dX10_drawsAs_43 rfl ?_
          refine r_iconst C (v := 0) dX10_drawsAs_44 (by decide) ?_
          refine r_iload_n C dX10_drawsAs_45 rfl ?_
          refine cV (ci := 10) C hx (sDr0 (d := d - 1) (by omega) 0 x (by decide) (by decide) (by decide) (by decide) (ntM I 70) J b ⟨(nt1_46 hr (by decide)).1, by have := (nt1_46 (x := 70) hr (by decide)).2; omega⟩) moX10_drawsAs mlX10_322 miX10_drawsAs msX10_drawsAs dX10_drawsAs_46 rfl rfl rfl rfl rfl (by omega) rfl rfl (ki (fun v_46_11 I_46_11 q_46_11 => ?_))
          obtain ⟨rfl, rfl⟩ := q_46_11
          rw [show (ntM I 70) 64 48 = I 64 48 from ntM_k I 70 (by decide)]
          refine r_iconst C (v := 2) dX10_drawsAs_49 (by decide) ?_
          refine r_imul C dX10_drawsAs_50 ?_
          exact ri C Z dX10_drawsAs_51 (by rw [show drM (I 64 48) k x = ((x + I 64 48) * 2, [70, 1]) from (if_neg (fun z => z.elim (by assumption) (fun y => y.elim (by assumption) (by assumption)))).trans (if_pos (by assumption))]; exact ⟨rfl, rfl⟩)
      · refine r_aload_n C dX10_drawsAs_16 rfl ?_
        refine r_bipush C (v := 20) dX10_drawsAs_17 (by decide) ?_
        refine cV (ci := 10) C hx (sX10_begins (d := d - 1) (by omega) 20 I J b ⟨hr.1, by omega⟩) moX10_begins mlX10_319 miX10_begins msX10_begins dX10_drawsAs_19 rfl rfl rfl rfl rfl (by omega) rfl rfl (kv (fun I_19_12 q_19_12 => ?_))
        obtain rfl := q_19_12
        refine r_aload_n C dX10_drawsAs_22 rfl ?_
        refine r_iconst C (v := 0) dX10_drawsAs_23 (by decide) ?_
        refine r_iload_n C dX10_drawsAs_24 rfl ?_
        refine cV (ci := 10) C hx (sDr0 (d := d - 1) (by omega) 0 x (by decide) (by decide) (by decide) (by decide) (ntM I 20) J b ⟨(nt1_46 hr (by decide)).1, by have := (nt1_46 (x := 20) hr (by decide)).2; omega⟩) moX10_drawsAs mlX10_322 miX10_drawsAs msX10_drawsAs dX10_drawsAs_25 rfl rfl rfl rfl rfl (by omega) rfl rfl (ki (fun v_25_13 I_25_13 q_25_13 => ?_))
        obtain ⟨rfl, rfl⟩ := q_25_13
        rw [show (ntM I 20) 64 48 = I 64 48 from ntM_k I 20 (by decide)]
        refine r_iconst C (v := 3) dX10_drawsAs_28 (by decide) ?_
        refine r_iadd C dX10_drawsAs_29 ?_
        exact ri C Z dX10_drawsAs_30 (by rw [show drM (I 64 48) k x = (x + I 64 48 + 3, [20, 1]) from if_pos (by first | exact Or.inl (by assumption) | exact Or.inr (Or.inl (by assumption)) | exact Or.inr (Or.inr (by assumption)))]; exact ⟨rfl, rfl⟩)
theorem rs_b {n own k x : Int32} (h3 : ¬ k = 3) (h5 : ¬ k = 5) (h4 : ¬ k = 4) (h7 : ¬ k = 7) : rsM n own k x = (x ^^^ n, [11]) := (if_neg (fun z => z.elim h3 h5)).trans (if_neg (fun z => z.elim h4 h7))
set_option maxRecDepth 100000 in
theorem sRs0 {g : Gb} {d : Nat} (hd : 1 ≤ d) (k x : Int32) (h3 : ¬ k = 3) (h5 : ¬ k = 5) (h4 : ¬ k = 4) (h7 : ¬ k = 7) (I : Is) (J : Js) (b : Bool) (hr : 0 ≤ (I 64 46).toInt ∧ (I 64 46).toInt ≤ 8000) : MC9 g d mX10_restsAs [.ref 64, .int k, .int x] I J b (Qi J b (fun v I' => v = x ^^^ I 64 48 ∧ I' = ntLM I ([11]))) := by
  refine ent9 (own := RX10) rfl rfl rfl (fun X hg hx C Z => ?_)
  subst hg
  refine r_iload_n C dX10_restsAs_0 rfl ?_
  refine r_iconst C (v := 3) dX10_restsAs_1 (by decide) ?_
  refine r_iceq C (tgt := 10) dX10_restsAs_2 rfl (fun h2_1 => ?_) (fun h2_1 => ?_)
  · exact absurd (by assumption) h3
  · refine r_iload_n C dX10_restsAs_5 rfl ?_
    refine r_iconst C (v := 5) dX10_restsAs_6 (by decide) ?_
    refine r_icne C (tgt := 25) dX10_restsAs_7 rfl (fun h7_2 => ?_) (fun h7_2 => ?_)
    · refine r_iload_n C dX10_restsAs_25 rfl ?_
      refine r_iconst C (v := 4) dX10_restsAs_26 (by decide) ?_
      refine r_iceq C (tgt := 36) dX10_restsAs_27 rfl (fun h27_3 => ?_) (fun h27_3 => ?_)
      · exact absurd (by assumption) h4
      · refine r_iload_n C dX10_restsAs_30 rfl ?_
        refine r_bipush C (v := 7) dX10_restsAs_31 (by decide) ?_
        refine r_icne C (tgt := 61) dX10_restsAs_33 rfl (fun h33_4 => ?_) (fun h33_4 => ?_)
        · refine r_aload_n C dX10_restsAs_61 rfl ?_
          refine r_bipush C (v := 11) dX10_restsAs_62 (by decide) ?_
          refine cV (ci := 10) C hx (sX10_begins (d := d - 1) (by omega) 11 I J b ⟨hr.1, by omega⟩) moX10_begins mlX10_319 miX10_begins msX10_begins dX10_restsAs_64 rfl rfl rfl rfl rfl (by omega) rfl rfl (kv (fun I_64_5 q_64_5 => ?_))
          obtain rfl := q_64_5
          refine r_iload_n C dX10_restsAs_67 rfl ?_
          refine r_aload_n C dX10_restsAs_68 rfl ?_
          refine r_getI C flX10_325 dX10_restsAs_69 rfl rfl ?_
          rw [show (ntM I 11) 64 48 = I 64 48 from ntM_k I 11 (by decide)]
          refine r_ixor C dX10_restsAs_72 ?_
          exact ri C Z dX10_restsAs_73 ⟨rfl, rfl⟩
        · exact absurd (by assumption) h7
    · exact absurd (by assumption) h5
set_option maxRecDepth 100000 in
theorem sX10_restsAs {g : Gb} {d : Nat} (hd : 3 ≤ d) (k x : Int32) (I : Is) (J : Js) (b : Bool) (hr : 0 ≤ (I 64 46).toInt ∧ (I 64 46).toInt ≤ 6000) : MC9 g d mX10_restsAs [.ref 64, .int k, .int x] I J b (Qi J b (fun v I' => v = (rsM (I 64 48) (I 64 47) k x).1 ∧ I' = ntLM I ((rsM (I 64 48) (I 64 47) k x).2))) := by
  refine ent9 (own := RX10) rfl rfl rfl (fun X hg hx C Z => ?_)
  subst hg
  refine r_iload_n C dX10_restsAs_0 rfl ?_
  refine r_iconst C (v := 3) dX10_restsAs_1 (by decide) ?_
  refine r_iceq C (tgt := 10) dX10_restsAs_2 rfl (fun h2_1 => ?_) (fun h2_1 => ?_)
  · refine r_aload_n C dX10_restsAs_10 rfl ?_
    refine r_bipush C (v := 40) dX10_restsAs_11 (by decide) ?_
    refine cV (ci := 10) C hx (sX10_begins (d := d - 1) (by omega) 40 I J b ⟨hr.1, by omega⟩) moX10_begins mlX10_319 miX10_begins msX10_begins dX10_restsAs_13 rfl rfl rfl rfl rfl (by omega) rfl rfl (kv (fun I_13_2 q_13_2 => ?_))
    obtain rfl := q_13_2
    refine r_aload_n C dX10_restsAs_16 rfl ?_
    refine r_iconst C (v := 2) dX10_restsAs_17 (by decide) ?_
    refine r_iload_n C dX10_restsAs_18 rfl ?_
    refine cV (ci := 10) C hx (sRs0 (d := d - 1) (by omega) 2 x (by decide) (by decide) (by decide) (by decide) (ntM I 40) J b ⟨(nt1_46 hr (by decide)).1, by have := (nt1_46 (x := 40) hr (by decide)).2; omega⟩) moX10_restsAs mlX10_334 miX10_restsAs msX10_restsAs dX10_restsAs_19 rfl rfl rfl rfl rfl (by omega) rfl rfl (ki (fun v_19_3 I_19_3 q_19_3 => ?_))
    obtain ⟨rfl, rfl⟩ := q_19_3
    rw [show (ntM I 40) 64 48 = I 64 48 from ntM_k I 40 (by decide)]
    refine r_iconst C (v := 3) dX10_restsAs_22 (by decide) ?_
    refine r_imul C dX10_restsAs_23 ?_
    exact ri C Z dX10_restsAs_24 (by rw [show rsM (I 64 48) (I 64 47) k x = ((x ^^^ I 64 48) * 3, [40, 11]) from if_pos (by first | exact Or.inl (by assumption) | exact Or.inr (by assumption))]; exact ⟨rfl, rfl⟩)
  · refine r_iload_n C dX10_restsAs_5 rfl ?_
    refine r_iconst C (v := 5) dX10_restsAs_6 (by decide) ?_
    refine r_icne C (tgt := 25) dX10_restsAs_7 rfl (fun h7_4 => ?_) (fun h7_4 => ?_)
    · refine r_iload_n C dX10_restsAs_25 rfl ?_
      refine r_iconst C (v := 4) dX10_restsAs_26 (by decide) ?_
      refine r_iceq C (tgt := 36) dX10_restsAs_27 rfl (fun h27_5 => ?_) (fun h27_5 => ?_)
      · refine r_aload_n C dX10_restsAs_36 rfl ?_
        refine r_bipush C (v := 50) dX10_restsAs_37 (by decide) ?_
        refine cV (ci := 10) C hx (sX10_begins (d := d - 1) (by omega) 50 I J b ⟨hr.1, by omega⟩) moX10_begins mlX10_319 miX10_begins msX10_begins dX10_restsAs_39 rfl rfl rfl rfl rfl (by omega) rfl rfl (kv (fun I_39_6 q_39_6 => ?_))
        obtain rfl := q_39_6
        refine r_aload_n C dX10_restsAs_42 rfl ?_
        refine r_iconst C (v := 1) dX10_restsAs_43 (by decide) ?_
        refine r_iload_n C dX10_restsAs_44 rfl ?_
        refine cV (ci := 10) C hx (sRs0 (d := d - 1) (by omega) 1 x (by decide) (by decide) (by decide) (by decide) (ntM I 50) J b ⟨(nt1_46 hr (by decide)).1, by have := (nt1_46 (x := 50) hr (by decide)).2; omega⟩) moX10_restsAs mlX10_334 miX10_restsAs msX10_restsAs dX10_restsAs_45 rfl rfl rfl rfl rfl (by omega) rfl rfl (ki (fun v_45_7 I_45_7 q_45_7 => ?_))
        obtain ⟨rfl, rfl⟩ := q_45_7
        rw [show (ntM I 50) 64 48 = I 64 48 from ntM_k I 50 (by decide)]
        have hl : ntLM (ntM I 50) [11] = ntLM I [50, 11] := rfl
        rw [hl]
        have f47 : ntLM I [50, 11] 64 47 = I 64 47 := (ntLM_fr [50, 11] I).2 47 (by decide)
        have f48 : ntLM I [50, 11] 64 48 = I 64 48 := (ntLM_fr [50, 11] I).2 48 (by decide)
        have hr2 := ntl_46 (l := [50, 11]) (m := 2) hr (by decide) (by decide)
        refine r_istore_n C dX10_restsAs_48 rfl rfl ?_
        refine r_iload_n C dX10_restsAs_49 rfl ?_
        refine r_aload_n C dX10_restsAs_50 rfl ?_
        refine r_aload_n C dX10_restsAs_51 rfl ?_
        refine r_getI C flX10_331 dX10_restsAs_52 rfl rfl ?_
        rw [f47]
        refine r_iconst C (v := 2) dX10_restsAs_55 (by decide) ?_
        refine cV (ci := 10) C hx (sX10_drawsAs (d := d - 1) (by omega) (I 64 47) 2 (ntLM I [50, 11]) J b ⟨hr2.1, by omega⟩) moX10_drawsAs mlX10_322 miX10_drawsAs msX10_drawsAs dX10_restsAs_56 rfl rfl rfl rfl rfl (by omega) rfl rfl (ki (fun v_56_8 I_56_8 q_56_8 => ?_))
        rw [f48] at q_56_8
        obtain ⟨rfl, rfl⟩ := q_56_8
        rw [ntLM_app]
        refine r_isub C dX10_restsAs_59 ?_
        exact ri C Z dX10_restsAs_60 (by rw [show rsM (I 64 48) (I 64 47) k x = ((x ^^^ I 64 48) - (drM (I 64 48) (I 64 47) 2).1, [50, 11] ++ (drM (I 64 48) (I 64 47) 2).2) from (if_neg (fun z => z.elim (by assumption) (by assumption))).trans (if_pos (by first | exact Or.inl (by assumption) | exact Or.inr (by assumption)))]; exact ⟨rfl, rfl⟩)
      · refine r_iload_n C dX10_restsAs_30 rfl ?_
        refine r_bipush C (v := 7) dX10_restsAs_31 (by decide) ?_
        refine r_icne C (tgt := 61) dX10_restsAs_33 rfl (fun h33_9 => ?_) (fun h33_9 => ?_)
        · refine r_aload_n C dX10_restsAs_61 rfl ?_
          refine r_bipush C (v := 11) dX10_restsAs_62 (by decide) ?_
          refine cV (ci := 10) C hx (sX10_begins (d := d - 1) (by omega) 11 I J b ⟨hr.1, by omega⟩) moX10_begins mlX10_319 miX10_begins msX10_begins dX10_restsAs_64 rfl rfl rfl rfl rfl (by omega) rfl rfl (kv (fun I_64_10 q_64_10 => ?_))
          obtain rfl := q_64_10
          refine r_iload_n C dX10_restsAs_67 rfl ?_
          refine r_aload_n C dX10_restsAs_68 rfl ?_
          refine r_getI C flX10_325 dX10_restsAs_69 rfl rfl ?_
          rw [show (ntM I 11) 64 48 = I 64 48 from ntM_k I 11 (by decide)]
          refine r_ixor C dX10_restsAs_72 ?_
          exact ri C Z dX10_restsAs_73 (by rw [rs_b (by assumption) (by assumption) (by assumption) (by assumption)]; exact ⟨rfl, rfl⟩)
        · refine r_aload_n C dX10_restsAs_36 rfl ?_
          refine r_bipush C (v := 50) dX10_restsAs_37 (by decide) ?_
          refine cV (ci := 10) C hx (sX10_begins (d := d - 1) (by omega) 50 I J b ⟨hr.1, by omega⟩) moX10_begins mlX10_319 miX10_begins msX10_begins dX10_restsAs_39 rfl rfl rfl rfl rfl (by omega) rfl rfl (kv (fun I_39_11 q_39_11 => ?_))
          obtain rfl := q_39_11
          refine r_aload_n C dX10_restsAs_42 rfl ?_
          refine r_iconst C (v := 1) dX10_restsAs_43 (by decide) ?_
          refine r_iload_n C dX10_restsAs_44 rfl ?_
          refine cV (ci := 10) C hx (sRs0 (d := d - 1) (by omega) 1 x (by decide) (by decide) (by decide) (by decide) (ntM I 50) J b ⟨(nt1_46 hr (by decide)).1, by have := (nt1_46 (x := 50) hr (by decide)).2; omega⟩) moX10_restsAs mlX10_334 miX10_restsAs msX10_restsAs dX10_restsAs_45 rfl rfl rfl rfl rfl (by omega) rfl rfl (ki (fun v_45_12 I_45_12 q_45_12 => ?_))
          obtain ⟨rfl, rfl⟩ := q_45_12
          rw [show (ntM I 50) 64 48 = I 64 48 from ntM_k I 50 (by decide)]
          have hl : ntLM (ntM I 50) [11] = ntLM I [50, 11] := rfl
          rw [hl]
          have f47 : ntLM I [50, 11] 64 47 = I 64 47 := (ntLM_fr [50, 11] I).2 47 (by decide)
          have f48 : ntLM I [50, 11] 64 48 = I 64 48 := (ntLM_fr [50, 11] I).2 48 (by decide)
          have hr2 := ntl_46 (l := [50, 11]) (m := 2) hr (by decide) (by decide)
          refine r_istore_n C dX10_restsAs_48 rfl rfl ?_
          refine r_iload_n C dX10_restsAs_49 rfl ?_
          refine r_aload_n C dX10_restsAs_50 rfl ?_
          refine r_aload_n C dX10_restsAs_51 rfl ?_
          refine r_getI C flX10_331 dX10_restsAs_52 rfl rfl ?_
          rw [f47]
          refine r_iconst C (v := 2) dX10_restsAs_55 (by decide) ?_
          refine cV (ci := 10) C hx (sX10_drawsAs (d := d - 1) (by omega) (I 64 47) 2 (ntLM I [50, 11]) J b ⟨hr2.1, by omega⟩) moX10_drawsAs mlX10_322 miX10_drawsAs msX10_drawsAs dX10_restsAs_56 rfl rfl rfl rfl rfl (by omega) rfl rfl (ki (fun v_56_13 I_56_13 q_56_13 => ?_))
          rw [f48] at q_56_13
          obtain ⟨rfl, rfl⟩ := q_56_13
          rw [ntLM_app]
          refine r_isub C dX10_restsAs_59 ?_
          exact ri C Z dX10_restsAs_60 (by rw [show rsM (I 64 48) (I 64 47) k x = ((x ^^^ I 64 48) - (drM (I 64 48) (I 64 47) 2).1, [50, 11] ++ (drM (I 64 48) (I 64 47) 2).2) from (if_neg (fun z => z.elim (by assumption) (by assumption))).trans (if_pos (by first | exact Or.inl (by assumption) | exact Or.inr (by assumption)))]; exact ⟨rfl, rfl⟩)
    · refine r_aload_n C dX10_restsAs_10 rfl ?_
      refine r_bipush C (v := 40) dX10_restsAs_11 (by decide) ?_
      refine cV (ci := 10) C hx (sX10_begins (d := d - 1) (by omega) 40 I J b ⟨hr.1, by omega⟩) moX10_begins mlX10_319 miX10_begins msX10_begins dX10_restsAs_13 rfl rfl rfl rfl rfl (by omega) rfl rfl (kv (fun I_13_14 q_13_14 => ?_))
      obtain rfl := q_13_14
      refine r_aload_n C dX10_restsAs_16 rfl ?_
      refine r_iconst C (v := 2) dX10_restsAs_17 (by decide) ?_
      refine r_iload_n C dX10_restsAs_18 rfl ?_
      refine cV (ci := 10) C hx (sRs0 (d := d - 1) (by omega) 2 x (by decide) (by decide) (by decide) (by decide) (ntM I 40) J b ⟨(nt1_46 hr (by decide)).1, by have := (nt1_46 (x := 40) hr (by decide)).2; omega⟩) moX10_restsAs mlX10_334 miX10_restsAs msX10_restsAs dX10_restsAs_19 rfl rfl rfl rfl rfl (by omega) rfl rfl (ki (fun v_19_15 I_19_15 q_19_15 => ?_))
      obtain ⟨rfl, rfl⟩ := q_19_15
      rw [show (ntM I 40) 64 48 = I 64 48 from ntM_k I 40 (by decide)]
      refine r_iconst C (v := 3) dX10_restsAs_22 (by decide) ?_
      refine r_imul C dX10_restsAs_23 ?_
      exact ri C Z dX10_restsAs_24 (by rw [show rsM (I 64 48) (I 64 47) k x = ((x ^^^ I 64 48) * 3, [40, 11]) from if_pos (by first | exact Or.inl (by assumption) | exact Or.inr (by assumption))]; exact ⟨rfl, rfl⟩)
theorem ge_b {n own k x : Int32} (h3 : ¬ k = 3) (h5 : ¬ k = 5) (h2 : ¬ k = 2) (h7 : ¬ k = 7) : geM n own k x = ge0M n own x := (if_neg (fun z => z.elim h3 h5)).trans ((if_neg h2).trans (if_neg h7))
set_option maxRecDepth 100000 in
theorem sGe0 {g : Gb} {d : Nat} (hd : 3 ≤ d) (k x : Int32) (h3 : ¬ k = 3) (h5 : ¬ k = 5) (h2 : ¬ k = 2) (h7 : ¬ k = 7) (I : Is) (J : Js) (b : Bool) (hr : 0 ≤ (I 64 46).toInt ∧ (I 64 46).toInt ≤ 5000) : MC9 g d mX10_getsAs [.ref 64, .int k, .int x] I J b (Qi J b (fun v I' => v = (ge0M (I 64 48) (I 64 47) x).1 ∧ I' = ntLM I ((ge0M (I 64 48) (I 64 47) x).2))) := by
  refine ent9 (own := RX10) rfl rfl rfl (fun X hg hx C Z => ?_)
  subst hg
  refine r_iload_n C dX10_getsAs_0 rfl ?_
  refine r_iconst C (v := 3) dX10_getsAs_1 (by decide) ?_
  refine r_iceq C (tgt := 10) dX10_getsAs_2 rfl (fun h2_1 => ?_) (fun h2_1 => ?_)
  · exact absurd (by assumption) h3
  · refine r_iload_n C dX10_getsAs_5 rfl ?_
    refine r_iconst C (v := 5) dX10_getsAs_6 (by decide) ?_
    refine r_icne C (tgt := 25) dX10_getsAs_7 rfl (fun h7_2 => ?_) (fun h7_2 => ?_)
    · refine r_iload_n C dX10_getsAs_25 rfl ?_
      refine r_iconst C (v := 2) dX10_getsAs_26 (by decide) ?_
      refine r_icne C (tgt := 44) dX10_getsAs_27 rfl (fun h27_3 => ?_) (fun h27_3 => ?_)
      · refine r_iload_n C dX10_getsAs_44 rfl ?_
        refine r_bipush C (v := 7) dX10_getsAs_45 (by decide) ?_
        refine r_icne C (tgt := 75) dX10_getsAs_47 rfl (fun h47_4 => ?_) (fun h47_4 => ?_)
        · refine r_aload_n C dX10_getsAs_75 rfl ?_
          refine r_bipush C (v := 10) dX10_getsAs_76 (by decide) ?_
          refine cV (ci := 10) C hx (sX10_begins (d := d - 1) (by omega) 10 I J b ⟨hr.1, by omega⟩) moX10_begins mlX10_319 miX10_begins msX10_begins dX10_getsAs_78 rfl rfl rfl rfl rfl (by omega) rfl rfl (kv (fun I_78_5 q_78_5 => ?_))
          obtain rfl := q_78_5
          refine r_aload_n C dX10_getsAs_81 rfl ?_
          refine r_aload_n C dX10_getsAs_82 rfl ?_
          refine r_getI C flX10_331 dX10_getsAs_83 rfl rfl ?_
          rw [show (ntM I 10) 64 47 = I 64 47 from ntM_k I 10 (by decide)]
          refine r_iload_n C dX10_getsAs_86 rfl ?_
          refine cV (ci := 10) C hx (sX10_drawsAs (d := d - 1) (by omega) (I 64 47) x (ntM I 10) J b ⟨(nt1_46 hr (by decide)).1, by have := (nt1_46 (x := 10) hr (by decide)).2; omega⟩) moX10_drawsAs mlX10_322 miX10_drawsAs msX10_drawsAs dX10_getsAs_87 rfl rfl rfl rfl rfl (by omega) rfl rfl (ki (fun v_87_6 I_87_6 q_87_6 => ?_))
          rw [show (ntM I 10) 64 48 = I 64 48 from ntM_k I 10 (by decide)] at q_87_6
          obtain ⟨rfl, rfl⟩ := q_87_6
          refine r_iconst C (v := 2) dX10_getsAs_90 (by decide) ?_
          refine r_imul C dX10_getsAs_91 ?_
          exact ri C Z dX10_getsAs_92 ⟨rfl, rfl⟩
        · exact absurd (by assumption) h7
      · exact absurd (by assumption) h2
    · exact absurd (by assumption) h5
set_option maxRecDepth 100000 in
theorem sGe2 {g : Gb} {d : Nat} (hd : 4 ≤ d) (x : Int32) (I : Is) (J : Js) (b : Bool) (hr : 0 ≤ (I 64 46).toInt ∧ (I 64 46).toInt ≤ 4000) : MC9 g d mX10_getsAs [.ref 64, .int 2, .int x] I J b (Qi J b (fun v I' => v = (ge2M (I 64 48) (I 64 47) x).1 ∧ I' = ntLM I ((ge2M (I 64 48) (I 64 47) x).2))) := by
  refine ent9 (own := RX10) rfl rfl rfl (fun X hg hx C Z => ?_)
  subst hg
  refine r_iload_n C dX10_getsAs_0 rfl ?_
  refine r_iconst C (v := 3) dX10_getsAs_1 (by decide) ?_
  refine r_iceq C (tgt := 10) dX10_getsAs_2 rfl (fun h2_1 => ?_) (fun h2_1 => ?_)
  · exact absurd (show (2 : Int32) = 3 by assumption) (by decide)
  · refine r_iload_n C dX10_getsAs_5 rfl ?_
    refine r_iconst C (v := 5) dX10_getsAs_6 (by decide) ?_
    refine r_icne C (tgt := 25) dX10_getsAs_7 rfl (fun h7_2 => ?_) (fun h7_2 => ?_)
    · refine r_iload_n C dX10_getsAs_25 rfl ?_
      refine r_iconst C (v := 2) dX10_getsAs_26 (by decide) ?_
      refine r_icne C (tgt := 44) dX10_getsAs_27 rfl (fun h27_3 => ?_) (fun h27_3 => ?_)
      · exact absurd rfl (show ¬ (2 : Int32) = 2 by assumption)
      · refine r_aload_n C dX10_getsAs_30 rfl ?_
        refine r_bipush C (v := 30) dX10_getsAs_31 (by decide) ?_
        refine cV (ci := 10) C hx (sX10_begins (d := d - 1) (by omega) 30 I J b ⟨hr.1, by omega⟩) moX10_begins mlX10_319 miX10_begins msX10_begins dX10_getsAs_33 rfl rfl rfl rfl rfl (by omega) rfl rfl (kv (fun I_33_4 q_33_4 => ?_))
        obtain rfl := q_33_4
        refine r_aload_n C dX10_getsAs_36 rfl ?_
        refine r_iconst C (v := 0) dX10_getsAs_37 (by decide) ?_
        refine r_iload_n C dX10_getsAs_38 rfl ?_
        refine cV (ci := 10) C hx (sGe0 (d := d - 1) (by omega) 0 x (by decide) (by decide) (by decide) (by decide) (ntM I 30) J b ⟨(nt1_46 hr (by decide)).1, by have := (nt1_46 (x := 30) hr (by decide)).2; omega⟩) moX10_getsAs mlX10_328 miX10_getsAs msX10_getsAs dX10_getsAs_39 rfl rfl rfl rfl rfl (by omega) rfl rfl (ki (fun v_39_5 I_39_5 q_39_5 => ?_))
        rw [show (ntM I 30) 64 48 = I 64 48 from ntM_k I 30 (by decide), show (ntM I 30) 64 47 = I 64 47 from ntM_k I 30 (by decide)] at q_39_5
        obtain ⟨rfl, rfl⟩ := q_39_5
        refine r_ineg C dX10_getsAs_42 ?_
        exact ri C Z dX10_getsAs_43 ⟨rfl, rfl⟩
    · exact absurd (show (2 : Int32) = 5 by assumption) (by decide)
set_option maxRecDepth 100000 in
set_option maxHeartbeats 400000 in
theorem sX10_getsAs {g : Gb} {d : Nat} (hd : 5 ≤ d) (k x : Int32) (I : Is) (J : Js) (b : Bool) (hr : 0 ≤ (I 64 46).toInt ∧ (I 64 46).toInt ≤ 3000) : MC9 g d mX10_getsAs [.ref 64, .int k, .int x] I J b (Qi J b (fun v I' => v = (geM (I 64 48) (I 64 47) k x).1 ∧ I' = ntLM I ((geM (I 64 48) (I 64 47) k x).2))) := by
  refine ent9 (own := RX10) rfl rfl rfl (fun X hg hx C Z => ?_)
  subst hg
  refine r_iload_n C dX10_getsAs_0 rfl ?_
  refine r_iconst C (v := 3) dX10_getsAs_1 (by decide) ?_
  refine r_iceq C (tgt := 10) dX10_getsAs_2 rfl (fun h2_1 => ?_) (fun h2_1 => ?_)
  · refine r_aload_n C dX10_getsAs_10 rfl ?_
    refine r_bipush C (v := 41) dX10_getsAs_11 (by decide) ?_
    refine cV (ci := 10) C hx (sX10_begins (d := d - 1) (by omega) 41 I J b ⟨hr.1, by omega⟩) moX10_begins mlX10_319 miX10_begins msX10_begins dX10_getsAs_13 rfl rfl rfl rfl rfl (by omega) rfl rfl (kv (fun I_13_2 q_13_2 => ?_))
    obtain rfl := q_13_2
    refine r_aload_n C dX10_getsAs_16 rfl ?_
    refine r_iconst C (v := 2) dX10_getsAs_17 (by decide) ?_
    refine r_iload_n C dX10_getsAs_18 rfl ?_
    refine r_iconst C (v := 1) dX10_getsAs_19 (by decide) ?_
    refine r_iadd C dX10_getsAs_20 ?_
    refine cV (ci := 10) C hx (sGe2 (d := d - 1) (by omega) (x + 1) (ntM I 41) J b ⟨(nt1_46 hr (by decide)).1, by have := (nt1_46 (x := 41) hr (by decide)).2; omega⟩) moX10_getsAs mlX10_328 miX10_getsAs msX10_getsAs dX10_getsAs_21 rfl rfl rfl rfl rfl (by omega) rfl rfl (ki (fun v_21_3 I_21_3 q_21_3 => ?_))
    rw [show (ntM I 41) 64 48 = I 64 48 from ntM_k I 41 (by decide), show (ntM I 41) 64 47 = I 64 47 from ntM_k I 41 (by decide)] at q_21_3
    obtain ⟨rfl, rfl⟩ := q_21_3
    exact ri C Z dX10_getsAs_24 (by rw [show geM (I 64 48) (I 64 47) k x = ((ge2M (I 64 48) (I 64 47) (x + 1)).1, 41 :: (ge2M (I 64 48) (I 64 47) (x + 1)).2) from if_pos (by first | exact Or.inl (by assumption) | exact Or.inr (by assumption))]; exact ⟨rfl, rfl⟩)
  · refine r_iload_n C dX10_getsAs_5 rfl ?_
    refine r_iconst C (v := 5) dX10_getsAs_6 (by decide) ?_
    refine r_icne C (tgt := 25) dX10_getsAs_7 rfl (fun h7_4 => ?_) (fun h7_4 => ?_)
    · refine r_iload_n C dX10_getsAs_25 rfl ?_
      refine r_iconst C (v := 2) dX10_getsAs_26 (by decide) ?_
      refine r_icne C (tgt := 44) dX10_getsAs_27 rfl (fun h27_5 => ?_) (fun h27_5 => ?_)
      · refine r_iload_n C dX10_getsAs_44 rfl ?_
        refine r_bipush C (v := 7) dX10_getsAs_45 (by decide) ?_
        refine r_icne C (tgt := 75) dX10_getsAs_47 rfl (fun h47_6 => ?_) (fun h47_6 => ?_)
        · refine r_aload_n C dX10_getsAs_75 rfl ?_
          refine r_bipush C (v := 10) dX10_getsAs_76 (by decide) ?_
          refine cV (ci := 10) C hx (sX10_begins (d := d - 1) (by omega) 10 I J b ⟨hr.1, by omega⟩) moX10_begins mlX10_319 miX10_begins msX10_begins dX10_getsAs_78 rfl rfl rfl rfl rfl (by omega) rfl rfl (kv (fun I_78_7 q_78_7 => ?_))
          obtain rfl := q_78_7
          refine r_aload_n C dX10_getsAs_81 rfl ?_
          refine r_aload_n C dX10_getsAs_82 rfl ?_
          refine r_getI C flX10_331 dX10_getsAs_83 rfl rfl ?_
          rw [show (ntM I 10) 64 47 = I 64 47 from ntM_k I 10 (by decide)]
          refine r_iload_n C dX10_getsAs_86 rfl ?_
          refine cV (ci := 10) C hx (sX10_drawsAs (d := d - 1) (by omega) (I 64 47) x (ntM I 10) J b ⟨(nt1_46 hr (by decide)).1, by have := (nt1_46 (x := 10) hr (by decide)).2; omega⟩) moX10_drawsAs mlX10_322 miX10_drawsAs msX10_drawsAs dX10_getsAs_87 rfl rfl rfl rfl rfl (by omega) rfl rfl (ki (fun v_87_8 I_87_8 q_87_8 => ?_))
          rw [show (ntM I 10) 64 48 = I 64 48 from ntM_k I 10 (by decide)] at q_87_8
          obtain ⟨rfl, rfl⟩ := q_87_8
          refine r_iconst C (v := 2) dX10_getsAs_90 (by decide) ?_
          refine r_imul C dX10_getsAs_91 ?_
          exact ri C Z dX10_getsAs_92 (by rw [ge_b (by assumption) (by assumption) (by assumption) (by assumption)]; exact ⟨rfl, rfl⟩)
        · refine r_aload_n C dX10_getsAs_50 rfl ?_
          refine r_bipush C (v := 80) dX10_getsAs_51 (by decide) ?_
          refine cV (ci := 10) C hx (sX10_begins (d := d - 1) (by omega) 80 I J b ⟨hr.1, by omega⟩) moX10_begins mlX10_319 miX10_begins msX10_begins dX10_getsAs_53 rfl rfl rfl rfl rfl (by omega) rfl rfl (kv (fun I_53_9 q_53_9 => ?_))
          obtain rfl := q_53_9
          refine r_aload_n C dX10_getsAs_56 rfl ?_
          refine r_iconst C (v := 4) dX10_getsAs_57 (by decide) ?_
          refine r_iload_n C dX10_getsAs_58 rfl ?_
          refine cV (ci := 10) C hx (sGe0 (d := d - 1) (by omega) 4 x (by decide) (by decide) (by decide) (by decide) (ntM I 80) J b ⟨(nt1_46 hr (by decide)).1, by have := (nt1_46 (x := 80) hr (by decide)).2; omega⟩) moX10_getsAs mlX10_328 miX10_getsAs msX10_getsAs dX10_getsAs_59 rfl rfl rfl rfl rfl (by omega) rfl rfl (ki (fun v_59_10 I_59_10 q_59_10 => ?_))
          rw [show (ntM I 80) 64 48 = I 64 48 from ntM_k I 80 (by decide), show (ntM I 80) 64 47 = I 64 47 from ntM_k I 80 (by decide)] at q_59_10
          obtain ⟨rfl, rfl⟩ := q_59_10
          have hl : ntLM (ntM I 80) (ge0M (I 64 48) (I 64 47) x).2 = ntLM I (80 :: (ge0M (I 64 48) (I 64 47) x).2) := rfl
          rw [hl]
          obtain ⟨l8, hl8⟩ : ∃ l, l = 80 :: (ge0M (I 64 48) (I 64 47) x).2 := ⟨_, rfl⟩
          have hn8 : l8.length ≤ 4 := by rw [hl8, List.length_cons]; have := ge0_len (I 64 48) (I 64 47) x; omega
          rw [← hl8]
          have f47 : ntLM I l8 64 47 = I 64 47 := (ntLM_fr l8 I).2 47 (by decide)
          have f48 : ntLM I l8 64 48 = I 64 48 := (ntLM_fr l8 I).2 48 (by decide)
          have hr2 := ntl_46 (l := l8) (m := 4) hr hn8 (by decide)
          refine r_istore_n C dX10_getsAs_62 rfl rfl ?_
          refine r_iload_n C dX10_getsAs_63 rfl ?_
          refine r_aload_n C dX10_getsAs_64 rfl ?_
          refine r_aload_n C dX10_getsAs_65 rfl ?_
          refine r_getI C flX10_331 dX10_getsAs_66 rfl rfl ?_
          rw [f47]
          refine r_iconst C (v := 2) dX10_getsAs_69 (by decide) ?_
          refine cV (ci := 10) C hx (sX10_restsAs (d := d - 1) (by omega) (I 64 47) 2 (ntLM I l8) J b ⟨hr2.1, by omega⟩) moX10_restsAs mlX10_334 miX10_restsAs msX10_restsAs dX10_getsAs_70 rfl rfl rfl rfl rfl (by omega) rfl rfl (ki (fun v_70_11 I_70_11 q_70_11 => ?_))
          rw [f47, f48] at q_70_11
          obtain ⟨rfl, rfl⟩ := q_70_11
          rw [ntLM_app]
          refine r_iadd C dX10_getsAs_73 ?_
          exact ri C Z dX10_getsAs_74 (by rw [show geM (I 64 48) (I 64 47) k x = ((ge0M (I 64 48) (I 64 47) x).1 + (rsM (I 64 48) (I 64 47) (I 64 47) 2).1, 80 :: ((ge0M (I 64 48) (I 64 47) x).2 ++ (rsM (I 64 48) (I 64 47) (I 64 47) 2).2)) from (if_neg (fun z => z.elim (by assumption) (by assumption))).trans ((if_neg (by assumption)).trans (if_pos (by assumption)))]; rw [hl8]; exact ⟨rfl, rfl⟩)
      · refine r_aload_n C dX10_getsAs_30 rfl ?_
        refine r_bipush C (v := 30) dX10_getsAs_31 (by decide) ?_
        refine cV (ci := 10) C hx (sX10_begins (d := d - 1) (by omega) 30 I J b ⟨hr.1, by omega⟩) moX10_begins mlX10_319 miX10_begins msX10_begins dX10_getsAs_33 rfl rfl rfl rfl rfl (by omega) rfl rfl (kv (fun I_33_12 q_33_12 => ?_))
        obtain rfl := q_33_12
        refine r_aload_n C dX10_getsAs_36 rfl ?_
        refine r_iconst C (v := 0) dX10_getsAs_37 (by decide) ?_
        refine r_iload_n C dX10_getsAs_38 rfl ?_
        refine cV (ci := 10) C hx (sGe0 (d := d - 1) (by omega) 0 x (by decide) (by decide) (by decide) (by decide) (ntM I 30) J b ⟨(nt1_46 hr (by decide)).1, by have := (nt1_46 (x := 30) hr (by decide)).2; omega⟩) moX10_getsAs mlX10_328 miX10_getsAs msX10_getsAs dX10_getsAs_39 rfl rfl rfl rfl rfl (by omega) rfl rfl (ki (fun v_39_13 I_39_13 q_39_13 => ?_))
        rw [show (ntM I 30) 64 48 = I 64 48 from ntM_k I 30 (by decide), show (ntM I 30) 64 47 = I 64 47 from ntM_k I 30 (by decide)] at q_39_13
        obtain ⟨rfl, rfl⟩ := q_39_13
        refine r_ineg C dX10_getsAs_42 ?_
        exact ri C Z dX10_getsAs_43 (by rw [show geM (I 64 48) (I 64 47) k x = ge2M (I 64 48) (I 64 47) x from (if_neg (fun z => z.elim (by assumption) (by assumption))).trans (if_pos (by assumption))]; exact ⟨rfl, rfl⟩)
    · refine r_aload_n C dX10_getsAs_10 rfl ?_
      refine r_bipush C (v := 41) dX10_getsAs_11 (by decide) ?_
      refine cV (ci := 10) C hx (sX10_begins (d := d - 1) (by omega) 41 I J b ⟨hr.1, by omega⟩) moX10_begins mlX10_319 miX10_begins msX10_begins dX10_getsAs_13 rfl rfl rfl rfl rfl (by omega) rfl rfl (kv (fun I_13_14 q_13_14 => ?_))
      obtain rfl := q_13_14
      refine r_aload_n C dX10_getsAs_16 rfl ?_
      refine r_iconst C (v := 2) dX10_getsAs_17 (by decide) ?_
      refine r_iload_n C dX10_getsAs_18 rfl ?_
      refine r_iconst C (v := 1) dX10_getsAs_19 (by decide) ?_
      refine r_iadd C dX10_getsAs_20 ?_
      refine cV (ci := 10) C hx (sGe2 (d := d - 1) (by omega) (x + 1) (ntM I 41) J b ⟨(nt1_46 hr (by decide)).1, by have := (nt1_46 (x := 41) hr (by decide)).2; omega⟩) moX10_getsAs mlX10_328 miX10_getsAs msX10_getsAs dX10_getsAs_21 rfl rfl rfl rfl rfl (by omega) rfl rfl (ki (fun v_21_15 I_21_15 q_21_15 => ?_))
      rw [show (ntM I 41) 64 48 = I 64 48 from ntM_k I 41 (by decide), show (ntM I 41) 64 47 = I 64 47 from ntM_k I 41 (by decide)] at q_21_15
      obtain ⟨rfl, rfl⟩ := q_21_15
      exact ri C Z dX10_getsAs_24 (by rw [show geM (I 64 48) (I 64 47) k x = ((ge2M (I 64 48) (I 64 47) (x + 1)).1, 41 :: (ge2M (I 64 48) (I 64 47) (x + 1)).2) from if_pos (by first | exact Or.inl (by assumption) | exact Or.inr (by assumption))]; exact ⟨rfl, rfl⟩)
set_option maxRecDepth 100000 in
set_option maxHeartbeats 400000 in
theorem sTe0 {g : Gb} {d : Nat} (hd : 6 ≤ d) (k x : Int32) (h5 : ¬ k = 5) (h7 : ¬ k = 7) (I : Is) (J : Js) (b : Bool) (hr : 0 ≤ (I 64 46).toInt ∧ (I 64 46).toInt ≤ 2000) : MC9 g d mX10_tellsAs [.ref 64, .int k, .int x] I J b (Qi J b (fun v I' => v = (te0M (I 64 48) (I 64 47) x).1 ∧ I' = ntLM I ((te0M (I 64 48) (I 64 47) x).2))) := by
  refine ent9 (own := RX10) rfl rfl rfl (fun X hg hx C Z => ?_)
  subst hg
  refine r_iload_n C dX10_tellsAs_0 rfl ?_
  refine r_iconst C (v := 5) dX10_tellsAs_1 (by decide) ?_
  refine r_icne C (tgt := 20) dX10_tellsAs_2 rfl (fun h2_1 => ?_) (fun h2_1 => ?_)
  · refine r_iload_n C dX10_tellsAs_20 rfl ?_
    refine r_bipush C (v := 7) dX10_tellsAs_21 (by decide) ?_
    refine r_icne C (tgt := 41) dX10_tellsAs_23 rfl (fun h23_2 => ?_) (fun h23_2 => ?_)
    · refine r_aload_n C dX10_tellsAs_41 rfl ?_
      refine r_iconst C (v := 2) dX10_tellsAs_42 (by decide) ?_
      refine cV (ci := 10) C hx (sX10_begins (d := d - 1) (by omega) 2 I J b ⟨hr.1, by omega⟩) moX10_begins mlX10_319 miX10_begins msX10_begins dX10_tellsAs_43 rfl rfl rfl rfl rfl (by omega) rfl rfl (kv (fun I_43_3 q_43_3 => ?_))
      obtain rfl := q_43_3
      refine r_aload_n C dX10_tellsAs_46 rfl ?_
      refine r_aload_n C dX10_tellsAs_47 rfl ?_
      refine r_getI C flX10_331 dX10_tellsAs_48 rfl rfl ?_
      rw [show (ntM I 2) 64 47 = I 64 47 from ntM_k I 2 (by decide)]
      refine r_iload_n C dX10_tellsAs_51 rfl ?_
      refine cV (ci := 10) C hx (sX10_getsAs (d := d - 1) (by omega) (I 64 47) x (ntM I 2) J b ⟨(nt1_46 hr (by decide)).1, by have := (nt1_46 (x := 2) hr (by decide)).2; omega⟩) moX10_getsAs mlX10_328 miX10_getsAs msX10_getsAs dX10_tellsAs_52 rfl rfl rfl rfl rfl (by omega) rfl rfl (ki (fun v_52_4 I_52_4 q_52_4 => ?_))
      rw [show (ntM I 2) 64 48 = I 64 48 from ntM_k I 2 (by decide), show (ntM I 2) 64 47 = I 64 47 from ntM_k I 2 (by decide)] at q_52_4
      obtain ⟨rfl, rfl⟩ := q_52_4
      have hl : ntLM (ntM I 2) (geM (I 64 48) (I 64 47) (I 64 47) x).2 = ntLM I (2 :: (geM (I 64 48) (I 64 47) (I 64 47) x).2) := rfl
      rw [hl]
      obtain ⟨l8, hl8⟩ : ∃ l, l = 2 :: (geM (I 64 48) (I 64 47) (I 64 47) x).2 := ⟨_, rfl⟩
      have hn8 : l8.length ≤ 9 := by rw [hl8, List.length_cons]; have := ge_len (I 64 48) (I 64 47) (I 64 47) x; omega
      rw [← hl8]
      have f47 : ntLM I l8 64 47 = I 64 47 := (ntLM_fr l8 I).2 47 (by decide)
      have f48 : ntLM I l8 64 48 = I 64 48 := (ntLM_fr l8 I).2 48 (by decide)
      have hr2 := ntl_46 (l := l8) (m := 9) hr hn8 (by decide)
      refine r_istore_n C dX10_tellsAs_55 rfl rfl ?_
      refine r_iload_n C dX10_tellsAs_56 rfl ?_
      refine r_aload_n C dX10_tellsAs_57 rfl ?_
      refine r_aload_n C dX10_tellsAs_58 rfl ?_
      refine r_getI C flX10_331 dX10_tellsAs_59 rfl rfl ?_
      rw [f47]
      refine r_iconst C (v := 1) dX10_tellsAs_62 (by decide) ?_
      refine cV (ci := 10) C hx (sX10_restsAs (d := d - 1) (by omega) (I 64 47) 1 (ntLM I l8) J b ⟨hr2.1, by omega⟩) moX10_restsAs mlX10_334 miX10_restsAs msX10_restsAs dX10_tellsAs_63 rfl rfl rfl rfl rfl (by omega) rfl rfl (ki (fun v_63_5 I_63_5 q_63_5 => ?_))
      rw [f47, f48] at q_63_5
      obtain ⟨rfl, rfl⟩ := q_63_5
      rw [ntLM_app]
      refine r_isub C dX10_tellsAs_66 ?_
      exact ri C Z dX10_tellsAs_67 (by rw [hl8]; exact ⟨rfl, rfl⟩)
    · exact absurd (by assumption) h7
  · exact absurd (by assumption) h5
set_option maxRecDepth 100000 in
set_option maxHeartbeats 400000 in
theorem sX10_tellsAs {g : Gb} {d : Nat} (hd : 7 ≤ d) (k x : Int32) (I : Is) (J : Js) (b : Bool) (hr : 0 ≤ (I 64 46).toInt ∧ (I 64 46).toInt ≤ 1000) : MC9 g d mX10_tellsAs [.ref 64, .int k, .int x] I J b (Qi J b (fun v I' => v = (teM (I 64 48) (I 64 47) k x).1 ∧ I' = ntLM I ((teM (I 64 48) (I 64 47) k x).2))) := by
  refine ent9 (own := RX10) rfl rfl rfl (fun X hg hx C Z => ?_)
  subst hg
  refine r_iload_n C dX10_tellsAs_0 rfl ?_
  refine r_iconst C (v := 5) dX10_tellsAs_1 (by decide) ?_
  refine r_icne C (tgt := 20) dX10_tellsAs_2 rfl (fun h2_1 => ?_) (fun h2_1 => ?_)
  · refine r_iload_n C dX10_tellsAs_20 rfl ?_
    refine r_bipush C (v := 7) dX10_tellsAs_21 (by decide) ?_
    refine r_icne C (tgt := 41) dX10_tellsAs_23 rfl (fun h23_2 => ?_) (fun h23_2 => ?_)
    · refine r_aload_n C dX10_tellsAs_41 rfl ?_
      refine r_iconst C (v := 2) dX10_tellsAs_42 (by decide) ?_
      refine cV (ci := 10) C hx (sX10_begins (d := d - 1) (by omega) 2 I J b ⟨hr.1, by omega⟩) moX10_begins mlX10_319 miX10_begins msX10_begins dX10_tellsAs_43 rfl rfl rfl rfl rfl (by omega) rfl rfl (kv (fun I_43_3 q_43_3 => ?_))
      obtain rfl := q_43_3
      refine r_aload_n C dX10_tellsAs_46 rfl ?_
      refine r_aload_n C dX10_tellsAs_47 rfl ?_
      refine r_getI C flX10_331 dX10_tellsAs_48 rfl rfl ?_
      rw [show (ntM I 2) 64 47 = I 64 47 from ntM_k I 2 (by decide)]
      refine r_iload_n C dX10_tellsAs_51 rfl ?_
      refine cV (ci := 10) C hx (sX10_getsAs (d := d - 1) (by omega) (I 64 47) x (ntM I 2) J b ⟨(nt1_46 hr (by decide)).1, by have := (nt1_46 (x := 2) hr (by decide)).2; omega⟩) moX10_getsAs mlX10_328 miX10_getsAs msX10_getsAs dX10_tellsAs_52 rfl rfl rfl rfl rfl (by omega) rfl rfl (ki (fun v_52_4 I_52_4 q_52_4 => ?_))
      rw [show (ntM I 2) 64 48 = I 64 48 from ntM_k I 2 (by decide), show (ntM I 2) 64 47 = I 64 47 from ntM_k I 2 (by decide)] at q_52_4
      obtain ⟨rfl, rfl⟩ := q_52_4
      have hl : ntLM (ntM I 2) (geM (I 64 48) (I 64 47) (I 64 47) x).2 = ntLM I (2 :: (geM (I 64 48) (I 64 47) (I 64 47) x).2) := rfl
      rw [hl]
      obtain ⟨l8, hl8⟩ : ∃ l, l = 2 :: (geM (I 64 48) (I 64 47) (I 64 47) x).2 := ⟨_, rfl⟩
      have hn8 : l8.length ≤ 9 := by rw [hl8, List.length_cons]; have := ge_len (I 64 48) (I 64 47) (I 64 47) x; omega
      rw [← hl8]
      have f47 : ntLM I l8 64 47 = I 64 47 := (ntLM_fr l8 I).2 47 (by decide)
      have f48 : ntLM I l8 64 48 = I 64 48 := (ntLM_fr l8 I).2 48 (by decide)
      have hr2 := ntl_46 (l := l8) (m := 9) hr hn8 (by decide)
      refine r_istore_n C dX10_tellsAs_55 rfl rfl ?_
      refine r_iload_n C dX10_tellsAs_56 rfl ?_
      refine r_aload_n C dX10_tellsAs_57 rfl ?_
      refine r_aload_n C dX10_tellsAs_58 rfl ?_
      refine r_getI C flX10_331 dX10_tellsAs_59 rfl rfl ?_
      rw [f47]
      refine r_iconst C (v := 1) dX10_tellsAs_62 (by decide) ?_
      refine cV (ci := 10) C hx (sX10_restsAs (d := d - 1) (by omega) (I 64 47) 1 (ntLM I l8) J b ⟨hr2.1, by omega⟩) moX10_restsAs mlX10_334 miX10_restsAs msX10_restsAs dX10_tellsAs_63 rfl rfl rfl rfl rfl (by omega) rfl rfl (ki (fun v_63_5 I_63_5 q_63_5 => ?_))
      rw [f47, f48] at q_63_5
      obtain ⟨rfl, rfl⟩ := q_63_5
      rw [ntLM_app]
      refine r_isub C dX10_tellsAs_66 ?_
      exact ri C Z dX10_tellsAs_67 (by rw [show teM (I 64 48) (I 64 47) k x = te0M (I 64 48) (I 64 47) x from (if_neg (by assumption)).trans (if_neg (by assumption))]; rw [hl8]; exact ⟨rfl, rfl⟩)
    · refine r_aload_n C dX10_tellsAs_26 rfl ?_
      refine r_bipush C (v := 81) dX10_tellsAs_27 (by decide) ?_
      refine cV (ci := 10) C hx (sX10_begins (d := d - 1) (by omega) 81 I J b ⟨hr.1, by omega⟩) moX10_begins mlX10_319 miX10_begins msX10_begins dX10_tellsAs_29 rfl rfl rfl rfl rfl (by omega) rfl rfl (kv (fun I_29_6 q_29_6 => ?_))
      obtain rfl := q_29_6
      refine r_aload_n C dX10_tellsAs_32 rfl ?_
      refine r_iconst C (v := 4) dX10_tellsAs_33 (by decide) ?_
      refine r_iload_n C dX10_tellsAs_34 rfl ?_
      refine cV (ci := 10) C hx (sTe0 (d := d - 1) (by omega) 4 x (by decide) (by decide) (ntM I 81) J b ⟨(nt1_46 hr (by decide)).1, by have := (nt1_46 (x := 81) hr (by decide)).2; omega⟩) moX10_tellsAs mlX10_337 miX10_tellsAs msX10_tellsAs dX10_tellsAs_35 rfl rfl rfl rfl rfl (by omega) rfl rfl (ki (fun v_35_7 I_35_7 q_35_7 => ?_))
      rw [show (ntM I 81) 64 48 = I 64 48 from ntM_k I 81 (by decide), show (ntM I 81) 64 47 = I 64 47 from ntM_k I 81 (by decide)] at q_35_7
      obtain ⟨rfl, rfl⟩ := q_35_7
      refine r_iconst C (v := 1) dX10_tellsAs_38 (by decide) ?_
      refine r_isub C dX10_tellsAs_39 ?_
      exact ri C Z dX10_tellsAs_40 (by rw [show teM (I 64 48) (I 64 47) k x = ((te0M (I 64 48) (I 64 47) x).1 - 1, 81 :: (te0M (I 64 48) (I 64 47) x).2) from (if_neg (by assumption)).trans (if_pos (by assumption))]; exact ⟨rfl, rfl⟩)
  · refine r_aload_n C dX10_tellsAs_5 rfl ?_
    refine r_bipush C (v := 60) dX10_tellsAs_6 (by decide) ?_
    refine cV (ci := 10) C hx (sX10_begins (d := d - 1) (by omega) 60 I J b ⟨hr.1, by omega⟩) moX10_begins mlX10_319 miX10_begins msX10_begins dX10_tellsAs_8 rfl rfl rfl rfl rfl (by omega) rfl rfl (kv (fun I_8_8 q_8_8 => ?_))
    obtain rfl := q_8_8
    refine r_aload_n C dX10_tellsAs_11 rfl ?_
    refine r_iconst C (v := 3) dX10_tellsAs_12 (by decide) ?_
    refine r_iload_n C dX10_tellsAs_13 rfl ?_
    refine cV (ci := 10) C hx (sTe0 (d := d - 1) (by omega) 3 x (by decide) (by decide) (ntM I 60) J b ⟨(nt1_46 hr (by decide)).1, by have := (nt1_46 (x := 60) hr (by decide)).2; omega⟩) moX10_tellsAs mlX10_337 miX10_tellsAs msX10_tellsAs dX10_tellsAs_14 rfl rfl rfl rfl rfl (by omega) rfl rfl (ki (fun v_14_9 I_14_9 q_14_9 => ?_))
    rw [show (ntM I 60) 64 48 = I 64 48 from ntM_k I 60 (by decide), show (ntM I 60) 64 47 = I 64 47 from ntM_k I 60 (by decide)] at q_14_9
    obtain ⟨rfl, rfl⟩ := q_14_9
    refine r_iconst C (v := 5) dX10_tellsAs_17 (by decide) ?_
    refine r_ixor C dX10_tellsAs_18 ?_
    exact ri C Z dX10_tellsAs_19 (by rw [show teM (I 64 48) (I 64 47) k x = ((te0M (I 64 48) (I 64 47) x).1 ^^^ 5, 60 :: (te0M (I 64 48) (I 64 47) x).2) from if_pos (by assumption)]; exact ⟨rfl, rfl⟩)
def ac1M (I : Is) (n : Int32) : Is := u2 (u2 (u2 I 64 46 0) 64 47 (I 85 (ix n))) 64 48 n
def rnM (n own a x : Int32) : Int32 × List Int32 := if a = 0 then drM n own x else if a = 1 then geM n own own x else if a = 2 then rsM n own own x else if a = 3 then teM n own own x else (0, [])
def acM (I : Is) (n a x : Int32) : Int32 × Is := if 0 ≤ n.toInt ∧ n.toInt < (I 64 43).toInt then ((rnM n (I 85 (ix n)) a x).1, ntLM (ac1M I n) (rnM n (I 85 (ix n)) a x).2) else (0, u2 I 64 46 0)
def boM (I : Is) (kd : Int32) : Int32 × Is := if inR kd 7 then (if I 64 43 = 50 then (-3, I) else (I 64 43 + 1 - 1, u2 (u2 I 85 (ix (I 64 43)) kd) 64 43 (I 64 43 + 1))) else (-1, I)
set_option maxRecDepth 100000 in
set_option maxHeartbeats 400000 in
theorem sX10_act {g : Gb} {d : Nat} (hd : 8 ≤ d) (n a x : Int32) (I : Is) (J : Js) (b : Bool) (hb0 : 0 ≤ (I 64 43).toInt) (hb5 : (I 64 43).toInt ≤ 50) : MC9 g d mX10_act [.ref 64, .int n, .int a, .int x] I J b (Qi J b (fun v I' => v = (acM I n a x).1 ∧ I' = (acM I n a x).2)) := by
  refine ent9 (own := RX10) rfl rfl rfl (fun X hg hx C Z => ?_)
  subst hg
  refine r_aload_n C dX10_act_0 rfl ?_
  refine r_iconst C (v := 0) dX10_act_1 (by decide) ?_
  refine r_putI C flX10_316 dX10_act_2 rfl rfl rfl rfl rfl ?_
  refine r_aload_n C dX10_act_5 rfl ?_
  refine r_iload_n C dX10_act_6 rfl ?_
  refine cV (ci := 10) C hx (sX10_isBody (d := d - 1) (by omega) n (u2 I 64 46 0) J b hb0 hb5) moX10_isBody mlX10_340 miX10_isBody msX10_isBody dX10_act_7 rfl rfl rfl rfl rfl (by omega) rfl rfl (kp ?_)
  refine z_ifne C (tgt := 15) dX10_act_10 rfl (fun h10_2 => ?_) (fun h10_2 => ?_)
  · have hin : 0 ≤ n.toInt ∧ n.toInt < (I 64 43).toInt := by assumption
    refine r_aload_n C dX10_act_15 rfl ?_
    refine r_aload_n C dX10_act_16 rfl ?_
    refine r_getR C flX10_70 dX10_act_17 rfl rfl rfl ?_
    refine r_iload_n C dX10_act_20 rfl ?_
    refine r_iald C rfl dX10_act_21 (vin hin.1 (show n.toInt < 50 by omega)) ?_
    refine r_putI C flX10_331 dX10_act_22 rfl rfl rfl rfl rfl ?_
    refine r_aload_n C dX10_act_25 rfl ?_
    refine r_iload_n C dX10_act_26 rfl ?_
    refine r_putI C flX10_325 dX10_act_27 rfl rfl rfl rfl rfl ?_
    refine (show Aw X 30 _ _ (st9 (ac1M I n) J b) from ?_)
    have hr1 : 0 ≤ (ac1M I n 64 46).toInt ∧ (ac1M I n 64 46).toInt ≤ 0 := by rw [show ac1M I n 64 46 = 0 from rfl]; decide
    refine r_iload_n C dX10_act_30 rfl ?_
    by_cases c0 : a = 0
    · subst c0
      refine r_tabIn C (tgt := 60) dX10_act_31 (by decide) (by decide) rfl rfl ?_
      refine r_aload_n C dX10_act_60 rfl ?_
      refine r_aload_n C dX10_act_61 rfl ?_
      refine r_getI C flX10_331 dX10_act_62 rfl rfl ?_
      rw [show ac1M I n 64 47 = I 85 (ix n) from rfl]
      refine r_iload_n C dX10_act_65 rfl ?_
      refine cV (ci := 10) C hx (sX10_drawsAs (d := d - 1) (by omega) (I 85 (ix n)) x (ac1M I n) J b ⟨hr1.1, by omega⟩) moX10_drawsAs mlX10_322 miX10_drawsAs msX10_drawsAs dX10_act_66 rfl rfl rfl rfl rfl (by omega) rfl rfl (ki (fun v_66_3 I_66_3 q_66_3 => ?_))
      have hq := q_66_3
      exact ri C Z dX10_act_69 (show _ ∧ _ from by unfold acM; rw [if_pos (by assumption)]; exact hq)
    have n0 := ne_int c0
    have m0 : (0 : Int32).toInt = 0 := rfl
    by_cases c1 : a = 1
    · subst c1
      refine r_tabIn C (tgt := 70) dX10_act_31 (by decide) (by decide) rfl rfl ?_
      refine r_aload_n C dX10_act_70 rfl ?_
      refine r_aload_n C dX10_act_71 rfl ?_
      refine r_getI C flX10_331 dX10_act_72 rfl rfl ?_
      rw [show ac1M I n 64 47 = I 85 (ix n) from rfl]
      refine r_iload_n C dX10_act_75 rfl ?_
      refine cV (ci := 10) C hx (sX10_getsAs (d := d - 1) (by omega) (I 85 (ix n)) x (ac1M I n) J b ⟨hr1.1, by omega⟩) moX10_getsAs mlX10_328 miX10_getsAs msX10_getsAs dX10_act_76 rfl rfl rfl rfl rfl (by omega) rfl rfl (ki (fun v_76_4 I_76_4 q_76_4 => ?_))
      have hq := q_76_4
      exact ri C Z dX10_act_79 (show _ ∧ _ from by unfold acM; rw [if_pos (by assumption)]; exact hq)
    have n1 := ne_int c1
    have m1 : (1 : Int32).toInt = 1 := rfl
    by_cases c2 : a = 2
    · subst c2
      refine r_tabIn C (tgt := 80) dX10_act_31 (by decide) (by decide) rfl rfl ?_
      refine r_aload_n C dX10_act_80 rfl ?_
      refine r_aload_n C dX10_act_81 rfl ?_
      refine r_getI C flX10_331 dX10_act_82 rfl rfl ?_
      rw [show ac1M I n 64 47 = I 85 (ix n) from rfl]
      refine r_iload_n C dX10_act_85 rfl ?_
      refine cV (ci := 10) C hx (sX10_restsAs (d := d - 1) (by omega) (I 85 (ix n)) x (ac1M I n) J b ⟨hr1.1, by omega⟩) moX10_restsAs mlX10_334 miX10_restsAs msX10_restsAs dX10_act_86 rfl rfl rfl rfl rfl (by omega) rfl rfl (ki (fun v_86_5 I_86_5 q_86_5 => ?_))
      have hq := q_86_5
      exact ri C Z dX10_act_89 (show _ ∧ _ from by unfold acM; rw [if_pos (by assumption)]; exact hq)
    have n2 := ne_int c2
    have m2 : (2 : Int32).toInt = 2 := rfl
    by_cases c3 : a = 3
    · subst c3
      refine r_tabIn C (tgt := 90) dX10_act_31 (by decide) (by decide) rfl rfl ?_
      refine r_aload_n C dX10_act_90 rfl ?_
      refine r_aload_n C dX10_act_91 rfl ?_
      refine r_getI C flX10_331 dX10_act_92 rfl rfl ?_
      rw [show ac1M I n 64 47 = I 85 (ix n) from rfl]
      refine r_iload_n C dX10_act_95 rfl ?_
      refine cV (ci := 10) C hx (sX10_tellsAs (d := d - 1) (by omega) (I 85 (ix n)) x (ac1M I n) J b ⟨hr1.1, by omega⟩) moX10_tellsAs mlX10_337 miX10_tellsAs msX10_tellsAs dX10_act_96 rfl rfl rfl rfl rfl (by omega) rfl rfl (ki (fun v_96_6 I_96_6 q_96_6 => ?_))
      have hq := q_96_6
      exact ri C Z dX10_act_99 (show _ ∧ _ from by unfold acM; rw [if_pos (by assumption)]; exact hq)
    have n3 := ne_int c3
    have m3 : (3 : Int32).toInt = 3 := rfl
    refine r_tabOut C (tgt := 100) dX10_act_31 (by omega) rfl ?_
    refine r_iconst C (v := 0) dX10_act_100 (by decide) ?_
    exact ri C Z dX10_act_101 (show _ ∧ _ from by unfold acM rnM; rw [if_pos (by assumption), if_neg c0, if_neg c1, if_neg c2, if_neg c3]; exact ⟨rfl, rfl⟩)
  · refine r_iconst C (v := 0) dX10_act_13 (by decide) ?_
    exact ri C Z dX10_act_14 (show _ ∧ _ from by unfold acM; rw [if_neg (by assumption)]; exact ⟨rfl, rfl⟩)
set_option maxRecDepth 100000 in
theorem sX10_body {g : Gb} {d : Nat} (hd : 1 ≤ d) (kd : Int32) (I : Is) (J : Js) (b : Bool) (hb0 : 0 ≤ (I 64 43).toInt) (hb5 : (I 64 43).toInt ≤ 50) : MC9 g d mX10_body [.ref 64, .int kd] I J b (Qi J b (fun v I' => v = (boM I kd).1 ∧ I' = (boM I kd).2)) := by
  refine ent9 (own := RX10) rfl rfl rfl (fun X hg hx C Z => ?_)
  subst hg
  refine r_iload_n C dX10_body_0 rfl ?_
  refine r_i2l C dX10_body_1 ?_
  refine r_lconst C (v := 0) dX10_body_2 (by decide) ?_
  refine r_ldc2 C kkX10_128 dX10_body_3 ?_
  refine cS C hx (sWi (d := d - 1) _ (lo := 0) (hi := 7) rfl rfl I J b) moX10_within mlX10_105 mtX10_within dX10_body_6 rfl rfl (by omega) rfl rfl (kp ?_)
  refine z_ifne C (tgt := 14) dX10_body_9 rfl (fun h9_2 => ?_) (fun h9_2 => ?_)
  · refine r_aload_n C dX10_body_14 rfl ?_
    refine r_getI C flX10_313 dX10_body_15 rfl rfl ?_
    refine r_bipush C (v := 50) dX10_body_18 (by decide) ?_
    refine r_icne C (tgt := 26) dX10_body_20 rfl (fun h20_3 => ?_) (fun h20_3 => ?_)
    · have hn0 := ne_int (show ¬ I 64 43 = 50 by assumption)
      rw [show (50 : Int32).toInt = 50 from rfl] at hn0
      have hv : vp_in (I 64 43) 50 := vin hb0 (by omega)
      refine r_aload_n C dX10_body_26 rfl ?_
      refine r_getR C flX10_70 dX10_body_27 rfl rfl rfl ?_
      refine r_aload_n C dX10_body_30 rfl ?_
      refine r_getI C flX10_313 dX10_body_31 rfl rfl ?_
      refine r_iload_n C dX10_body_34 rfl ?_
      refine r_iast C rfl dX10_body_35 hv ?_
      refine r_aload_n C dX10_body_36 rfl ?_
      refine r_dup C dX10_body_37 rfl ?_
      refine r_getI C flX10_313 dX10_body_38 rfl rfl ?_
      refine r_iconst C (v := 1) dX10_body_41 (by decide) ?_
      refine r_iadd C dX10_body_42 ?_
      refine r_putI C flX10_313 dX10_body_43 rfl rfl rfl rfl rfl ?_
      refine r_aload_n C dX10_body_46 rfl ?_
      refine r_getI C flX10_313 dX10_body_47 rfl rfl ?_
      refine r_iconst C (v := 1) dX10_body_50 (by decide) ?_
      refine r_isub C dX10_body_51 ?_
      exact ri C Z dX10_body_52 (show _ ∧ _ from by unfold boM; rw [if_pos (by assumption), if_neg (by assumption)]; exact ⟨rfl, rfl⟩)
    · refine r_bipush C (v := -3) dX10_body_23 (by decide) ?_
      exact ri C Z dX10_body_25 (show _ ∧ _ from by unfold boM; rw [if_pos (by assumption), if_pos (by assumption)]; exact ⟨rfl, rfl⟩)
  · refine r_iconst C (v := -1) dX10_body_12 (by decide) ?_
    exact ri C Z dX10_body_13 (show _ ∧ _ from by unfold boM; rw [if_neg (by assumption)]; exact ⟨rfl, rfl⟩)
set_option maxRecDepth 100000 in
theorem sX10_trace {g : Gb} {d : Nat} (hd : 0 ≤ d) (i : Int32) (I : Is) (J : Js) (b : Bool) : MC9 g d mX10_trace [.ref 64, .int i] I J b (Qp (if 0 ≤ i.toInt ∧ i.toInt < (I 64 46).toInt ∧ i.toInt < 24 then I 86 (ix i) else -1) I J b) := by
  refine ent9 (own := RX10) rfl rfl rfl (fun X hg hx C Z => ?_)
  subst hg
  refine r_iload_n C dX10_trace_0 rfl ?_
  refine b_iflt C (tgt := 27) dX10_trace_1 rfl (fun h1_1 => ?_) (fun h1_1 => ?_)
  · refine r_iconst C (v := -1) dX10_trace_27 (by decide) ?_
    exact rp C Z dX10_trace_28 (by first | rw [if_pos (by omega)] | rw [if_neg (by omega)])
  · refine r_iload_n C dX10_trace_4 rfl ?_
    refine r_aload_n C dX10_trace_5 rfl ?_
    refine r_getI C flX10_316 dX10_trace_6 rfl rfl ?_
    refine b_icge C (tgt := 27) rfl rfl dX10_trace_9 rfl (fun h9_2 => ?_) (fun h9_2 => ?_)
    · refine r_iconst C (v := -1) dX10_trace_27 (by decide) ?_
      exact rp C Z dX10_trace_28 (by first | rw [if_pos (by omega)] | rw [if_neg (by omega)])
    · refine r_iload_n C dX10_trace_12 rfl ?_
      refine r_bipush C (v := 24) dX10_trace_13 (by decide) ?_
      refine b_icge C (tgt := 27) (my := 24) rfl rfl dX10_trace_15 rfl (fun h15_3 => ?_) (fun h15_3 => ?_)
      · refine r_iconst C (v := -1) dX10_trace_27 (by decide) ?_
        exact rp C Z dX10_trace_28 (by first | rw [if_pos (by omega)] | rw [if_neg (by omega)])
      · refine r_aload_n C dX10_trace_18 rfl ?_
        refine r_getR C flX10_73 dX10_trace_19 rfl rfl rfl ?_
        refine r_iload_n C dX10_trace_22 rfl ?_
        refine r_iald C rfl dX10_trace_23 (vin (by omega) (show i.toInt < 24 by omega)) ?_
        refine r_goto C (tgt := 28) dX10_trace_24 rfl ?_
        exact rp C Z dX10_trace_28 (by first | rw [if_pos (by omega)] | rw [if_neg (by omega)])
