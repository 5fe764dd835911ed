/-- the reading place of the reference: at, fault, opened -/
abbrev PS : Type := Int32 × Int32 × Int32
def setP (I : Is) (p : PS) : Is := u2 (u2 (u2 I 64 16 p.1) 64 18 p.2.1) 64 19 p.2.2
theorem sP_ap (I : Is) (p : PS) (t k : Nat) : setP I p t k = if t = 64 ∧ k = 19 then p.2.2 else if t = 64 ∧ k = 18 then p.2.1 else if t = 64 ∧ k = 16 then p.1 else I t k := by
  unfold setP u2
  by_cases h : t = 64
  · simp [h]
  · simp [h]
theorem sP_self (I : Is) : setP I (I 64 16, I 64 18, I 64 19) = I := by
  funext t k
  rw [sP_ap]
  split
  · rename_i h; rw [h.1, h.2]
  · split
    · rename_i h; rw [h.1, h.2]
    · split
      · rename_i h; rw [h.1, h.2]
      · rfl
theorem sP_set (I : Is) (p q : PS) : setP (setP I p) q = setP I q := by
  funext t k
  rw [sP_ap, sP_ap, sP_ap]
  split
  · rfl
  · split
    · rfl
    · split
      · rfl
      · rfl
theorem sP_at (I : Is) (p : PS) (x : Int32) : u2 (setP I p) 64 16 x = setP I (x, p.2.1, p.2.2) := by
  funext t k
  rw [sP_ap]
  unfold u2
  rw [sP_ap]
  by_cases h : t = 64
  · subst h
    by_cases e : k = 16
    · subst e; rfl
    · simp [e]
  · simp [h]
theorem sP_fa (I : Is) (p : PS) (x : Int32) : u2 (setP I p) 64 18 x = setP I (p.1, x, p.2.2) := by
  funext t k
  rw [sP_ap]
  unfold u2
  rw [sP_ap]
  by_cases h : t = 64
  · subst h
    by_cases e : k = 18
    · subst e; rfl
    · simp [e]
  · simp [h]
theorem sP_op (I : Is) (p : PS) (x : Int32) : u2 (setP I p) 64 19 x = setP I (p.1, p.2.1, x) := by
  funext t k
  rw [sP_ap]
  unfold u2
  rw [sP_ap]
  by_cases h : t = 64
  · subst h
    by_cases e : k = 19
    · subst e; rfl
    · simp [e]
  · simp [h]
theorem sP_row (I : Is) (p : PS) {t : Nat} (h : t ≠ 64) : setP I p t = I t := by
  funext k
  rw [sP_ap]
  simp [h]
theorem sP_oth (I : Is) (p : PS) {k : Nat} (h : k ≠ 16 ∧ k ≠ 18 ∧ k ≠ 19) : setP I p 64 k = I 64 k := by
  rw [sP_ap]
  simp [h.1, h.2.1, h.2.2]
/-- the text that is read -/
def txM (I : Is) (a : Int32) : Int32 := if a.toInt < (I 64 17).toInt then (if (I 64 15).toInt < 0 then I 70 (ix a) else I 71 (ix (I 64 15 + a))) else 0
def PO (I : Is) (p : PS) : Prop := 0 ≤ p.1.toInt ∧ p.1.toInt ≤ (I 64 17).toInt
def BE (I : Is) : Prop := (I 64 15 = -1 ∨ I 64 15 = 0) ∧ 0 ≤ (I 64 17).toInt ∧ (I 64 17).toInt ≤ 120
/-- from p to q: never back, and without a fault all that opened is closed -/
def PG (I : Is) (p q : PS) : Prop := p.1.toInt ≤ q.1.toInt ∧ q.1.toInt ≤ (I 64 17).toInt ∧ (q.2.1.toInt < 0 → p.2.1.toInt < 0 ∧ q.2.2 = p.2.2)
theorem PG.rf {I : Is} {p : PS} (h : PO I p) : PG I p p := ⟨Int.le_refl _, h.2, fun z => ⟨z, rfl⟩⟩
theorem PG.tr {I : Is} {p q r : PS} (h : PG I p q) (g : PG I q r) : PG I p r := ⟨Int.le_trans h.1 g.1, g.2.1, fun z => ⟨(h.2.2 (g.2.2 z).1).1, (g.2.2 z).2.trans (h.2.2 (g.2.2 z).1).2⟩⟩
theorem PG.po {I : Is} {p q : PS} (hp : PO I p) (h : PG I p q) : PO I q := ⟨Int.le_trans hp.1 h.1, h.2.1⟩
theorem tx_lt {I : Is} {a : Int32} (h : ¬ txM I a = 0) : a.toInt < (I 64 17).toInt := by
  by_cases c : a.toInt < (I 64 17).toInt
  · exact c
  · exact absurd (if_neg c) h
theorem PG.up {I : Is} {p : PS} (hB : BE I) (hp : PO I p) (h : ¬ txM I p.1 = 0) : PG I p (p.1 + 1, p.2.1, p.2.2) ∧ (p.1 + 1).toInt = p.1.toInt + 1 := by
  have h1 := tx_lt h
  have h2 := hB.2.2
  have h3 := hp.1
  have e : (p.1 + 1).toInt = p.1.toInt + 1 := by rw [tI_add (by rw [one_int]; omega) (by rw [one_int]; omega), one_int]
  exact ⟨⟨by show p.1.toInt ≤ (p.1 + 1).toInt; omega, by show (p.1 + 1).toInt ≤ _; omega, fun z => ⟨z, rfl⟩⟩, e⟩
def wrP (p : PS) : PS := (p.1, (if p.2.1.toInt < 0 then p.1 else p.2.1), p.2.2)
theorem PG.wr {I : Is} {p : PS} (hp : PO I p) : PG I p (wrP p) := by
  refine ⟨Int.le_refl _, hp.2, fun z => ?_⟩
  have h0 := hp.1
  unfold wrP at z
  by_cases c : p.2.1.toInt < 0
  · rw [if_pos c] at z
    have z' : p.1.toInt < 0 := z
    omega
  · rw [if_neg c] at z
    exact absurd z c
abbrev tkQ (T : Int32 → Int32) (c : Int32) (p : PS) : Prop := p.2.1.toInt < 0 ∧ T p.1 = c
def tkP (T : Int32 → Int32) (c : Int32) (p : PS) : PS := if tkQ T c p then (p.1 + 1, p.2.1, p.2.2) else p
theorem PG.tk {I : Is} {p : PS} {c : Int32} (hB : BE I) (hp : PO I p) (hc : ¬ c = 0) : PG I p (tkP (txM I) c p) := by
  unfold tkP
  by_cases h : tkQ (txM I) c p
  · rw [if_pos h]
    exact (PG.up hB hp (fun z => hc (h.2.symm.trans z))).1
  · rw [if_neg h]
    exact PG.rf hp
section RULES
variable {X : Cx} {cc : ByteArray} {nL d : Nat} {pc : Nat} {L : List (Option Value)} {S : List Value} {I : Is} {J : Js} {b : Bool} {p : PS}
theorem g_at (C : Ok X RX10 cc nL d 91) (hd : decode cc pc = .ok (.getfield 168, 3)) (k : Aw X (pc + 3) L (.int p.1 :: S) (st9 (setP I p) J b)) : Aw X pc L (.ref 64 :: S) (st9 (setP I p) J b) := r_getI C flX10_168 hd rfl rfl k
theorem g_fa (C : Ok X RX10 cc nL d 91) (hd : decode cc pc = .ok (.getfield 177, 3)) (k : Aw X (pc + 3) L (.int p.2.1 :: S) (st9 (setP I p) J b)) : Aw X pc L (.ref 64 :: S) (st9 (setP I p) J b) := r_getI C flX10_177 hd rfl rfl k
theorem g_op (C : Ok X RX10 cc nL d 91) (hd : decode cc pc = .ok (.getfield 202, 3)) (k : Aw X (pc + 3) L (.int p.2.2 :: S) (st9 (setP I p) J b)) : Aw X pc L (.ref 64 :: S) (st9 (setP I p) J b) := r_getI C flX10_202 hd rfl rfl k
theorem g_en (C : Ok X RX10 cc nL d 91) (hd : decode cc pc = .ok (.getfield 171, 3)) (k : Aw X (pc + 3) L (.int (I 64 17) :: S) (st9 (setP I p) J b)) : Aw X pc L (.ref 64 :: S) (st9 (setP I p) J b) := r_getI C flX10_171 hd rfl rfl k
theorem g_ba (C : Ok X RX10 cc nL d 91) (hd : decode cc pc = .ok (.getfield 174, 3)) (k : Aw X (pc + 3) L (.int (I 64 15) :: S) (st9 (setP I p) J b)) : Aw X pc L (.ref 64 :: S) (st9 (setP I p) J b) := r_getI C flX10_174 hd rfl rfl k
theorem p_at (C : Ok X RX10 cc nL d 91) {v : Int32} (hd : decode cc pc = .ok (.putfield 168, 3)) (k : Aw X (pc + 3) L S (st9 (setP I (v, p.2.1, p.2.2)) J b)) : Aw X pc L (.int v :: .ref 64 :: S) (st9 (setP I p) J b) := r_putI C flX10_168 hd rfl rfl rfl rfl rfl (by rw [sP_at]; exact k)
theorem p_fa (C : Ok X RX10 cc nL d 91) {v : Int32} (hd : decode cc pc = .ok (.putfield 177, 3)) (k : Aw X (pc + 3) L S (st9 (setP I (p.1, v, p.2.2)) J b)) : Aw X pc L (.int v :: .ref 64 :: S) (st9 (setP I p) J b) := r_putI C flX10_177 hd rfl rfl rfl rfl rfl (by rw [sP_fa]; exact k)
theorem p_op (C : Ok X RX10 cc nL d 91) {v : Int32} (hd : decode cc pc = .ok (.putfield 202, 3)) (k : Aw X (pc + 3) L S (st9 (setP I (p.1, p.2.1, v)) J b)) : Aw X pc L (.int v :: .ref 64 :: S) (st9 (setP I p) J b) := r_putI C flX10_202 hd rfl rfl rfl rfl rfl (by rw [sP_op]; exact k)
end RULES
set_option maxRecDepth 100000 in
theorem sX10_byteAt {g : Gb} {d : Nat} (hd : 0 ≤ d) (I : Is) (J : Js) (b : Bool) (p : PS) (hB : BE I) (hp : PO I p) : MC9 g d mX10_byteAt [.ref 64] (setP I p) J b (Qp (txM I p.1) (setP I p) J b) := by
  obtain ⟨hB1, hB2, hB3⟩ := hB
  obtain ⟨hp1, hp2⟩ := hp
  refine ent9 (own := RX10) rfl rfl rfl (fun X hg hx C Z => ?_)
  subst hg
  refine r_aload_n C dX10_byteAt_0 rfl ?_
  refine g_at C dX10_byteAt_1 ?_
  refine r_aload_n C dX10_byteAt_4 rfl ?_
  refine g_en C dX10_byteAt_5 ?_
  refine b_icge C (tgt := 47) rfl rfl dX10_byteAt_8 rfl (fun h8_1 => ?_) (fun h8_1 => ?_)
  · refine r_iconst C (v := 0) dX10_byteAt_47 (by decide) ?_
    exact rp C Z dX10_byteAt_48 (by unfold txM; exact (if_neg (by omega)).symm)
  · refine r_aload_n C dX10_byteAt_11 rfl ?_
    refine g_ba C dX10_byteAt_12 ?_
    refine b_ifge C (tgt := 30) dX10_byteAt_15 rfl (fun h15_2 => ?_) (fun h15_2 => ?_)
    · have z0 : I 64 15 = 0 := by
        rcases hB1 with e | e
        · have hh : 0 ≤ (I 64 15).toInt := by assumption
          rw [e] at hh; exact absurd hh (by decide)
        · exact e
      have z1 : (I 64 15 + p.1).toInt = p.1.toInt := by rw [z0, Int32.zero_add]
      refine r_aload_n C dX10_byteAt_30 rfl ?_
      refine r_getR C flX10_28 dX10_byteAt_31 rfl rfl rfl ?_
      refine r_aload_n C dX10_byteAt_34 rfl ?_
      refine g_ba C dX10_byteAt_35 ?_
      refine r_aload_n C dX10_byteAt_38 rfl ?_
      refine g_at C dX10_byteAt_39 ?_
      refine r_iadd C dX10_byteAt_42 ?_
      refine r_iald C rfl dX10_byteAt_43 (vin (show 0 ≤ (I 64 15 + p.1).toInt by omega) (show (I 64 15 + p.1).toInt < 120 by omega)) ?_
      refine r_goto C (tgt := 48) dX10_byteAt_44 rfl ?_
      exact rp C Z dX10_byteAt_48 (by unfold txM; exact ((if_pos (by assumption)).trans (if_neg (by omega))).symm)
    · refine r_aload_n C dX10_byteAt_18 rfl ?_
      refine r_getR C flX10_25 dX10_byteAt_19 rfl rfl rfl ?_
      refine r_aload_n C dX10_byteAt_22 rfl ?_
      refine g_at C dX10_byteAt_23 ?_
      refine r_iald C rfl dX10_byteAt_26 (vin hp1 (show p.1.toInt < 120 by omega)) ?_
      refine r_goto C (tgt := 48) dX10_byteAt_27 rfl ?_
      exact rp C Z dX10_byteAt_48 (by unfold txM; exact ((if_pos (by assumption)).trans (if_pos (by assumption))).symm)
set_option maxRecDepth 100000 in
theorem sX10_wrong {g : Gb} {d : Nat} (hd : 0 ≤ d) (I : Is) (J : Js) (b : Bool) (p : PS) : MC9 g d mX10_wrong [.ref 64] (setP I p) J b (Qi J b (fun v I' => v = 0 ∧ I' = setP I (wrP p))) := by
  refine ent9 (own := RX10) rfl rfl rfl (fun X hg hx C Z => ?_)
  subst hg
  refine r_aload_n C dX10_wrong_0 rfl ?_
  refine r_aload_n C dX10_wrong_1 rfl ?_
  refine g_fa C dX10_wrong_2 ?_
  refine b_ifge C (tgt := 15) dX10_wrong_5 rfl (fun h5_1 => ?_) (fun h5_1 => ?_)
  · refine r_aload_n C dX10_wrong_15 rfl ?_
    refine g_fa C dX10_wrong_16 ?_
    refine p_fa C dX10_wrong_19 ?_
    refine r_iconst C (v := 0) dX10_wrong_22 (by decide) ?_
    exact ri C Z dX10_wrong_23 ⟨rfl, by unfold wrP; rw [if_neg (by omega)]⟩
  · refine r_aload_n C dX10_wrong_8 rfl ?_
    refine g_at C dX10_wrong_9 ?_
    refine r_goto C (tgt := 19) dX10_wrong_12 rfl ?_
    refine p_fa C dX10_wrong_19 ?_
    refine r_iconst C (v := 0) dX10_wrong_22 (by decide) ?_
    exact ri C Z dX10_wrong_23 ⟨rfl, by unfold wrP; rw [if_pos (by assumption)]⟩
set_option maxRecDepth 100000 in
theorem sX10_takes {g : Gb} {d : Nat} (hd : 1 ≤ d) (c : Int32) (I : Is) (J : Js) (b : Bool) (p : PS) (hB : BE I) (hp : PO I p) : MC9 g d mX10_takes [.ref 64, .int c] (setP I p) J b (Qi J b (fun v I' => v = bI (tkQ (txM I) c p) ∧ I' = setP I (tkP (txM I) c p))) := by
  refine ent9 (own := RX10) rfl rfl rfl (fun X hg hx C Z => ?_)
  subst hg
  refine r_aload_n C dX10_takes_0 rfl ?_
  refine g_fa C dX10_takes_1 ?_
  refine b_ifge C (tgt := 15) dX10_takes_4 rfl (fun h4_1 => ?_) (fun h4_1 => ?_)
  · refine r_iconst C (v := 0) dX10_takes_15 (by decide) ?_
    exact riz C Z dX10_takes_16 rfl ⟨(bI_f (fun z => absurd z.1 (by omega))).symm, by unfold tkP; rw [if_neg (fun z : tkQ (txM I) c p => absurd z.1 (by omega))]⟩
  · refine r_aload_n C dX10_takes_7 rfl ?_
    refine cV (ci := 10) C hx (sX10_byteAt (d := d - 1) (by omega) I J b p hB hp) moX10_byteAt mlX10_180 miX10_byteAt msX10_byteAt dX10_takes_8 rfl rfl rfl rfl rfl (by omega) rfl rfl (kp ?_)
    refine r_iload_n C dX10_takes_11 rfl ?_
    refine r_iceq C (tgt := 17) dX10_takes_12 rfl (fun h12_3 => ?_) (fun h12_3 => ?_)
    · refine r_aload_n C dX10_takes_17 rfl ?_
      refine r_dup C dX10_takes_18 rfl ?_
      refine g_at C dX10_takes_19 ?_
      refine r_iconst C (v := 1) dX10_takes_22 (by decide) ?_
      refine r_iadd C dX10_takes_23 ?_
      refine p_at C dX10_takes_24 ?_
      refine r_iconst C (v := 1) dX10_takes_27 (by decide) ?_
      exact riz C Z dX10_takes_28 rfl ⟨(bI_t ⟨by assumption, by assumption⟩).symm, by unfold tkP; rw [if_pos (⟨by assumption, by assumption⟩ : tkQ (txM I) c p)]⟩
    · refine r_iconst C (v := 0) dX10_takes_15 (by decide) ?_
      exact riz C Z dX10_takes_16 rfl ⟨(bI_f (fun z => absurd z.2 (by assumption))).symm, by unfold tkP; rw [if_neg (fun z : tkQ (txM I) c p => absurd z.2 (by assumption))]⟩
set_option maxRecDepth 100000 in
theorem sX10_nameOf {g : Gb} {d : Nat} (hd : 0 ≤ d) (c : Int32) (I : Is) (J : Js) (b : Bool) : MC9 g d mX10_nameOf [.int c] I J b (Qp (nmgF c) I J b) := by
  refine ent9 (own := RX10) rfl rfl rfl (fun X hg hx C Z => ?_)
  subst hg
  refine r_iload_n C dX10_nameOf_0 rfl ?_
  by_cases c100 : c = 100
  · subst c100
    refine r_tabIn C (tgt := 104) dX10_nameOf_1 (by decide) (by decide) rfl rfl ?_
    refine r_iconst C (v := 4) dX10_nameOf_104 (by decide) ?_
    exact rp C Z dX10_nameOf_105 rfl
  have n100 := ne_int c100
  have m100 : (100 : Int32).toInt = 100 := rfl
  by_cases c101 : c = 101
  · subst c101
    refine r_tabIn C (tgt := 108) dX10_nameOf_1 (by decide) (by decide) rfl rfl ?_
    refine r_iconst C (v := -1) dX10_nameOf_108 (by decide) ?_
    exact rp C Z dX10_nameOf_109 rfl
  have n101 := ne_int c101
  have m101 : (101 : Int32).toInt = 101 := rfl
  by_cases c102 : c = 102
  · subst c102
    refine r_tabIn C (tgt := 108) dX10_nameOf_1 (by decide) (by decide) rfl rfl ?_
    refine r_iconst C (v := -1) dX10_nameOf_108 (by decide) ?_
    exact rp C Z dX10_nameOf_109 rfl
  have n102 := ne_int c102
  have m102 : (102 : Int32).toInt = 102 := rfl
  by_cases c103 : c = 103
  · subst c103
    refine r_tabIn C (tgt := 108) dX10_nameOf_1 (by decide) (by decide) rfl rfl ?_
    refine r_iconst C (v := -1) dX10_nameOf_108 (by decide) ?_
    exact rp C Z dX10_nameOf_109 rfl
  have n103 := ne_int c103
  have m103 : (103 : Int32).toInt = 103 := rfl
  by_cases c104 : c = 104
  · subst c104
    refine r_tabIn C (tgt := 108) dX10_nameOf_1 (by decide) (by decide) rfl rfl ?_
    refine r_iconst C (v := -1) dX10_nameOf_108 (by decide) ?_
    exact rp C Z dX10_nameOf_109 rfl
  have n104 := ne_int c104
  have m104 : (104 : Int32).toInt = 104 := rfl
  by_cases c105 : c = 105
  · subst c105
    refine r_tabIn C (tgt := 108) dX10_nameOf_1 (by decide) (by decide) rfl rfl ?_
    refine r_iconst C (v := -1) dX10_nameOf_108 (by decide) ?_
    exact rp C Z dX10_nameOf_109 rfl
  have n105 := ne_int c105
  have m105 : (105 : Int32).toInt = 105 := rfl
  by_cases c106 : c = 106
  · subst c106
    refine r_tabIn C (tgt := 108) dX10_nameOf_1 (by decide) (by decide) rfl rfl ?_
    refine r_iconst C (v := -1) dX10_nameOf_108 (by decide) ?_
    exact rp C Z dX10_nameOf_109 rfl
  have n106 := ne_int c106
  have m106 : (106 : Int32).toInt = 106 := rfl
  by_cases c107 : c = 107
  · subst c107
    refine r_tabIn C (tgt := 106) dX10_nameOf_1 (by decide) (by decide) rfl rfl ?_
    refine r_iconst C (v := 5) dX10_nameOf_106 (by decide) ?_
    exact rp C Z dX10_nameOf_107 rfl
  have n107 := ne_int c107
  have m107 : (107 : Int32).toInt = 107 := rfl
  by_cases c108 : c = 108
  · subst c108
    refine r_tabIn C (tgt := 102) dX10_nameOf_1 (by decide) (by decide) rfl rfl ?_
    refine r_iconst C (v := 3) dX10_nameOf_102 (by decide) ?_
    exact rp C Z dX10_nameOf_103 rfl
  have n108 := ne_int c108
  have m108 : (108 : Int32).toInt = 108 := rfl
  by_cases c109 : c = 109
  · subst c109
    refine r_tabIn C (tgt := 108) dX10_nameOf_1 (by decide) (by decide) rfl rfl ?_
    refine r_iconst C (v := -1) dX10_nameOf_108 (by decide) ?_
    exact rp C Z dX10_nameOf_109 rfl
  have n109 := ne_int c109
  have m109 : (109 : Int32).toInt = 109 := rfl
  by_cases c110 : c = 110
  · subst c110
    refine r_tabIn C (tgt := 108) dX10_nameOf_1 (by decide) (by decide) rfl rfl ?_
    refine r_iconst C (v := -1) dX10_nameOf_108 (by decide) ?_
    exact rp C Z dX10_nameOf_109 rfl
  have n110 := ne_int c110
  have m110 : (110 : Int32).toInt = 110 := rfl
  by_cases c111 : c = 111
  · subst c111
    refine r_tabIn C (tgt := 108) dX10_nameOf_1 (by decide) (by decide) rfl rfl ?_
    refine r_iconst C (v := -1) dX10_nameOf_108 (by decide) ?_
    exact rp C Z dX10_nameOf_109 rfl
  have n111 := ne_int c111
  have m111 : (111 : Int32).toInt = 111 := rfl
  by_cases c112 : c = 112
  · subst c112
    refine r_tabIn C (tgt := 96) dX10_nameOf_1 (by decide) (by decide) rfl rfl ?_
    refine r_iconst C (v := 0) dX10_nameOf_96 (by decide) ?_
    exact rp C Z dX10_nameOf_97 rfl
  have n112 := ne_int c112
  have m112 : (112 : Int32).toInt = 112 := rfl
  by_cases c113 : c = 113
  · subst c113
    refine r_tabIn C (tgt := 108) dX10_nameOf_1 (by decide) (by decide) rfl rfl ?_
    refine r_iconst C (v := -1) dX10_nameOf_108 (by decide) ?_
    exact rp C Z dX10_nameOf_109 rfl
  have n113 := ne_int c113
  have m113 : (113 : Int32).toInt = 113 := rfl
  by_cases c114 : c = 114
  · subst c114
    refine r_tabIn C (tgt := 108) dX10_nameOf_1 (by decide) (by decide) rfl rfl ?_
    refine r_iconst C (v := -1) dX10_nameOf_108 (by decide) ?_
    exact rp C Z dX10_nameOf_109 rfl
  have n114 := ne_int c114
  have m114 : (114 : Int32).toInt = 114 := rfl
  by_cases c115 : c = 115
  · subst c115
    refine r_tabIn C (tgt := 108) dX10_nameOf_1 (by decide) (by decide) rfl rfl ?_
    refine r_iconst C (v := -1) dX10_nameOf_108 (by decide) ?_
    exact rp C Z dX10_nameOf_109 rfl
  have n115 := ne_int c115
  have m115 : (115 : Int32).toInt = 115 := rfl
  by_cases c116 : c = 116
  · subst c116
    refine r_tabIn C (tgt := 100) dX10_nameOf_1 (by decide) (by decide) rfl rfl ?_
    refine r_iconst C (v := 2) dX10_nameOf_100 (by decide) ?_
    exact rp C Z dX10_nameOf_101 rfl
  have n116 := ne_int c116
  have m116 : (116 : Int32).toInt = 116 := rfl
  by_cases c117 : c = 117
  · subst c117
    refine r_tabIn C (tgt := 108) dX10_nameOf_1 (by decide) (by decide) rfl rfl ?_
    refine r_iconst C (v := -1) dX10_nameOf_108 (by decide) ?_
    exact rp C Z dX10_nameOf_109 rfl
  have n117 := ne_int c117
  have m117 : (117 : Int32).toInt = 117 := rfl
  by_cases c118 : c = 118
  · subst c118
    refine r_tabIn C (tgt := 108) dX10_nameOf_1 (by decide) (by decide) rfl rfl ?_
    refine r_iconst C (v := -1) dX10_nameOf_108 (by decide) ?_
    exact rp C Z dX10_nameOf_109 rfl
  have n118 := ne_int c118
  have m118 : (118 : Int32).toInt = 118 := rfl
  by_cases c119 : c = 119
  · subst c119
    refine r_tabIn C (tgt := 98) dX10_nameOf_1 (by decide) (by decide) rfl rfl ?_
    refine r_iconst C (v := 1) dX10_nameOf_98 (by decide) ?_
    exact rp C Z dX10_nameOf_99 rfl
  have n119 := ne_int c119
  have m119 : (119 : Int32).toInt = 119 := rfl
  refine r_tabOut C (tgt := 108) dX10_nameOf_1 (by omega) rfl ?_
  refine r_iconst C (v := -1) dX10_nameOf_108 (by decide) ?_
  exact rp C Z dX10_nameOf_109 (by unfold nmgF; rw [if_neg c112, if_neg c119, if_neg c116, if_neg c108, if_neg c100, if_neg c107])
