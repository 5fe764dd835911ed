/-- a part of a text: what it wants, whether it holds, where it ends -/
def linM (T : Int32 → Int32) (f : PS → Int32 × PS) (p : PS) : Int32 × Bool × PS :=
  if tkQ T 63 (f p).2 then ((f ((f p).2.1 + 1, (f p).2.2.1, (f p).2.2.2)).1, decide (¬ (f p).1 = 0), (f ((f p).2.1 + 1, (f p).2.2.1, (f p).2.2.2)).2) else ((f p).1, true, (f p).2)
def gsM (g : Bool) (gs : Int32) (r : Int32 × Bool × PS) : Int32 := if r.2.2.2.1.toInt < 0 ∧ r.2.1 = true ∧ g = false then r.1 else gs
def ggM (g : Bool) (r : Int32 × Bool × PS) : Bool := decide (g = true ∨ (r.2.2.2.1.toInt < 0 ∧ r.2.1 = true))
def nxM (T : Int32 → Int32) (k : Bool → Int32 → PS → Int32 × PS) (g : Bool) (gs : Int32) (r : Int32 × Bool × PS) : Int32 × PS :=
  if tkQ T 59 r.2.2 then k (ggM g r) (gsM g gs r) (r.2.2.1 + 1, r.2.2.2.1, r.2.2.2.2) else (gsM g gs r, r.2.2)
def lnM (T : Int32 → Int32) (f : PS → Int32 × PS) : Nat → Bool → Int32 → PS → Int32 × PS
  | 0 => fun _ gs p => (gs, p)
  | n + 1 => fun g gs p => nxM T (lnM T f n) g gs (linM T f p)
def finM (e : Int32) (r : Int32 × PS) : Int32 × PS := if r.2.2.1.toInt < 0 ∧ r.2.1.toInt < e.toInt then (0, wrP r.2) else r
/-- a text worked out -/
def woM (T : Int32 → Int32) (nm : Nat → Int32) (e : Int32) : Int32 × PS := finM e (lnM T (jnM T (oneM T nm 6) 5) 121 false 0 (0, -1, 0))
theorem ggM_t {g : Bool} {r : Int32 × Bool × PS} (h : g = true ∨ (r.2.2.2.1.toInt < 0 ∧ r.2.1 = true)) : ggM g r = true := decide_eq_true h
theorem ggM_f {g : Bool} {r : Int32 × Bool × PS} (h : ¬ (r.2.2.2.1.toInt < 0 ∧ r.2.1 = true)) : ggM g r = g := by
  unfold ggM
  cases g
  · exact decide_eq_false (fun z => z.elim (fun y => absurd y (by decide)) h)
  · exact decide_eq_true (Or.inl rfl)
theorem nil_iff {x : Int32} : ¬ x = 0 ↔ decide (¬ x = 0) = true := ⟨fun h => decide_eq_true h, fun h => of_decide_eq_true h⟩
set_option maxRecDepth 100000 in
set_option maxHeartbeats 400000 in
theorem sX10_loop {g : Gb} {I : Is} (hB : BE I) {f : PS → Int32 × PS} (sub : EvC g I 78 (6 : Nat) mX10_either f) {X : Cx} (hg : x_g X = g) (hx : x_n X = 91) {d : Nat} (C : Ok X RX10 mX10_workOut.2.1 mX10_workOut.2.2.1 d 91) (hd : 79 ≤ d) {J : Js} {b : Bool} {fr nn : Int32} {G : Int32 × PS} (Z : Rt X mX10_workOut.2.2.2 91 (Qi J b (fun v I' => v = G.1 ∧ I' = setP I G.2))) :
    ∀ (n : Nat) (gv : Bool) (gs : Int32) (p : PS) (x6 x7 : Option Value), PO I p → 121 ≤ (n : Int) + p.1.toInt → (p.2.1.toInt < 0 → p.2.2.toInt = 0) → finM (I 64 17) (lnM (txM I) f n gv gs p) = G → Aw X 33 [some (.ref 64), some (.int fr), some (.int nn), some (.int (bI (gv = true))), some (.int gs), some (.int 1), x6, x7] [] (st9 (setP I p) J b) := by
  subst hg
  have fin : ∀ (gv : Bool) (gs : Int32) (p : PS) (x6 x7 : Option Value), PO I p → finM (I 64 17) (gs, p) = G → Aw X 33 [some (.ref 64), some (.int fr), some (.int nn), some (.int (bI (gv = true))), some (.int gs), some (.int 0), x6, x7] [] (st9 (setP I p) J b) := by
    intro gv gs p x6 x7 hp hG
    refine r_iload C dX10_workOut_33 rfl ?_
    refine r_ifeq C (tgt := 107) dX10_workOut_35 rfl (fun h35_1 => ?_) (fun h35_1 => ?_)
    · refine r_aload_n C dX10_workOut_107 rfl ?_
      refine g_fa C dX10_workOut_108 ?_
      refine b_ifge C (tgt := 130) dX10_workOut_111 rfl (fun h111_2 => ?_) (fun h111_2 => ?_)
      · refine r_iload C dX10_workOut_130 rfl ?_
        exact ri C Z dX10_workOut_132 (show _ ∧ _ from by unfold finM at hG; rw [if_neg (fun z => by have z1 : p.2.1.toInt < 0 := z.1; have z2 : p.1.toInt < (I 64 17).toInt := z.2; omega)] at hG; rw [← hG]; exact ⟨rfl, rfl⟩)
      · refine r_aload_n C dX10_workOut_114 rfl ?_
        refine g_at C dX10_workOut_115 ?_
        refine r_aload_n C dX10_workOut_118 rfl ?_
        refine g_en C dX10_workOut_119 ?_
        refine b_icge C (tgt := 130) rfl rfl dX10_workOut_122 rfl (fun h122_3 => ?_) (fun h122_3 => ?_)
        · refine r_iload C dX10_workOut_130 rfl ?_
          exact ri C Z dX10_workOut_132 (show _ ∧ _ from by unfold finM at hG; rw [if_neg (fun z => by have z1 : p.2.1.toInt < 0 := z.1; have z2 : p.1.toInt < (I 64 17).toInt := z.2; omega)] at hG; rw [← hG]; exact ⟨rfl, rfl⟩)
        · refine r_aload_n C dX10_workOut_125 rfl ?_
          refine cV (ci := 10) C hx (sX10_wrong (d := d - 1) (by omega) I J b p) moX10_wrong mlX10_205 miX10_wrong msX10_wrong dX10_workOut_126 rfl rfl rfl rfl rfl (by omega) rfl rfl (ki (fun v_126_4 I_126_4 q_126_4 => ?_))
          obtain ⟨rfl, rfl⟩ := q_126_4
          exact ri C Z dX10_workOut_129 (show _ ∧ _ from by unfold finM at hG; rw [if_pos ⟨by assumption, by assumption⟩] at hG; rw [← hG]; exact ⟨rfl, rfl⟩)
    · exact absurd rfl (show ¬ (0 : Int32) = 0 by assumption)
  intro n
  induction n with
  | zero =>
    intro gv gs p x6 x7 hp hn hop hG
    have := hp.2
    have := hB.2.2
    exfalso; omega
  | succ n ih =>
    intro gv gs p x6 x7 hp hn hop hG
    have hst : lnM (txM I) f (n + 1) gv gs p = nxM (txM I) (lnM (txM I) f n) gv gs (linM (txM I) f p) := rfl
    rw [hst] at hG
    clear hst
    have join : ∀ (r : Int32 × Bool × PS) (hz : Int32), hz = bI (r.2.1 = true) → linM (txM I) f p = r → PG I p r.2.2 → Aw X 74 [some (.ref 64), some (.int fr), some (.int nn), some (.int (bI (gv = true))), some (.int gs), some (.int 1), some (.int r.1), some (.int hz)] [] (st9 (setP I r.2.2) J b) := by
      intro r hz hz0 hr hPG
      subst hz0
      rw [hr] at hG
      unfold nxM at hG
      obtain ⟨v, h, q⟩ := r
      have hPG : PG I p q := hPG
      refine r_aload_n C dX10_workOut_74 rfl ?_
      refine g_fa C dX10_workOut_75 ?_
      refine b_ifge C (tgt := 96) dX10_workOut_78 rfl (fun h78_1 => ?_) (fun h78_1 => ?_)
      · refine r_aload_n C dX10_workOut_96 rfl ?_
        refine r_bipush C (v := 59) dX10_workOut_97 (by decide) ?_
        refine cV (ci := 10) C hx (sX10_takes (d := d - 1) (by omega) 59 I J b q hB (PG.po hp hPG)) moX10_takes mlX10_187 miX10_takes msX10_takes dX10_workOut_99 rfl rfl rfl rfl rfl (by omega) rfl rfl (ki (fun v_99_2 I_99_2 q_99_2 => ?_))
        obtain ⟨rfl, rfl⟩ := q_99_2
        refine r_istore C dX10_workOut_102 rfl rfl ?_
        refine r_goto C (tgt := 33) dX10_workOut_104 rfl ?_
        have e1 : ggM gv (v, h, q) = gv := (ggM_f (fun z => absurd z.1 (show ¬ q.2.1.toInt < 0 by omega)))
        have e2 : gsM gv gs (v, h, q) = gs := (if_neg (fun z => absurd z.1 (show ¬ q.2.1.toInt < 0 by omega)))
        rw [e1, e2] at hG
        by_cases h59 : tkQ (txM I) 59 q
        · rw [bI_t h59, show tkP (txM I) 59 q = (q.1 + 1, q.2.1, q.2.2) from if_pos h59]
          rw [if_pos h59] at hG
          obtain ⟨hup, hui⟩ := PG.up hB (PG.po hp hPG) (fun e => absurd (h59.2.symm.trans e) (by decide))
          exact ih gv _ _ _ _ (PG.po (PG.po hp hPG) hup) (by have h9 := hPG.1; rw [hui]; omega) (fun z => by rw [(hPG.2.2 z).2]; exact hop (hPG.2.2 z).1) hG
        · rw [bI_f h59, show tkP (txM I) 59 q = q from if_neg h59]
          rw [if_neg h59] at hG
          exact fin gv _ _ _ _ (PG.po hp hPG) hG
      · refine r_iload C dX10_workOut_81 rfl ?_
        refine z_ifeq C (tgt := 96) dX10_workOut_83 rfl (fun h83_3 => ?_) (fun h83_3 => ?_)
        · refine r_aload_n C dX10_workOut_96 rfl ?_
          refine r_bipush C (v := 59) dX10_workOut_97 (by decide) ?_
          refine cV (ci := 10) C hx (sX10_takes (d := d - 1) (by omega) 59 I J b q hB (PG.po hp hPG)) moX10_takes mlX10_187 miX10_takes msX10_takes dX10_workOut_99 rfl rfl rfl rfl rfl (by omega) rfl rfl (ki (fun v_99_4 I_99_4 q_99_4 => ?_))
          obtain ⟨rfl, rfl⟩ := q_99_4
          refine r_istore C dX10_workOut_102 rfl rfl ?_
          refine r_goto C (tgt := 33) dX10_workOut_104 rfl ?_
          have e1 : ggM gv (v, h, q) = gv := (ggM_f (fun z => absurd z.2 (by assumption)))
          have e2 : gsM gv gs (v, h, q) = gs := (if_neg (fun z => absurd z.2.1 (by assumption)))
          rw [e1, e2] at hG
          by_cases h59 : tkQ (txM I) 59 q
          · rw [bI_t h59, show tkP (txM I) 59 q = (q.1 + 1, q.2.1, q.2.2) from if_pos h59]
            rw [if_pos h59] at hG
            obtain ⟨hup, hui⟩ := PG.up hB (PG.po hp hPG) (fun e => absurd (h59.2.symm.trans e) (by decide))
            exact ih gv _ _ _ _ (PG.po (PG.po hp hPG) hup) (by have h9 := hPG.1; rw [hui]; omega) (fun z => by rw [(hPG.2.2 z).2]; exact hop (hPG.2.2 z).1) hG
          · rw [bI_f h59, show tkP (txM I) 59 q = q from if_neg h59]
            rw [if_neg h59] at hG
            exact fin gv _ _ _ _ (PG.po hp hPG) hG
        · refine r_iload_n C dX10_workOut_86 rfl ?_
          refine z_ifne C (tgt := 96) dX10_workOut_87 rfl (fun h87_5 => ?_) (fun h87_5 => ?_)
          · refine r_aload_n C dX10_workOut_96 rfl ?_
            refine r_bipush C (v := 59) dX10_workOut_97 (by decide) ?_
            refine cV (ci := 10) C hx (sX10_takes (d := d - 1) (by omega) 59 I J b q hB (PG.po hp hPG)) moX10_takes mlX10_187 miX10_takes msX10_takes dX10_workOut_99 rfl rfl rfl rfl rfl (by omega) rfl rfl (ki (fun v_99_6 I_99_6 q_99_6 => ?_))
            obtain ⟨rfl, rfl⟩ := q_99_6
            refine r_istore C dX10_workOut_102 rfl rfl ?_
            refine r_goto C (tgt := 33) dX10_workOut_104 rfl ?_
            have e1 : ggM gv (v, h, q) = gv := ((ggM_t (Or.inl (by assumption))).trans (show true = gv from (show gv = true by assumption).symm))
            have e2 : gsM gv gs (v, h, q) = gs := (if_neg (fun z => absurd ((show gv = true by assumption).symm.trans z.2.2) (by decide)))
            rw [e1, e2] at hG
            by_cases h59 : tkQ (txM I) 59 q
            · rw [bI_t h59, show tkP (txM I) 59 q = (q.1 + 1, q.2.1, q.2.2) from if_pos h59]
              rw [if_pos h59] at hG
              obtain ⟨hup, hui⟩ := PG.up hB (PG.po hp hPG) (fun e => absurd (h59.2.symm.trans e) (by decide))
              exact ih gv _ _ _ _ (PG.po (PG.po hp hPG) hup) (by have h9 := hPG.1; rw [hui]; omega) (fun z => by rw [(hPG.2.2 z).2]; exact hop (hPG.2.2 z).1) hG
            · rw [bI_f h59, show tkP (txM I) 59 q = q from if_neg h59]
              rw [if_neg h59] at hG
              exact fin gv _ _ _ _ (PG.po hp hPG) hG
          · refine r_iconst C (v := 1) dX10_workOut_90 (by decide) ?_
            refine r_istore_n C dX10_workOut_91 rfl rfl ?_
            refine r_iload C dX10_workOut_92 rfl ?_
            refine r_istore C dX10_workOut_94 rfl rfl ?_
            refine r_aload_n C dX10_workOut_96 rfl ?_
            refine r_bipush C (v := 59) dX10_workOut_97 (by decide) ?_
            refine cV (ci := 10) C hx (sX10_takes (d := d - 1) (by omega) 59 I J b q hB (PG.po hp hPG)) moX10_takes mlX10_187 miX10_takes msX10_takes dX10_workOut_99 rfl rfl rfl rfl rfl (by omega) rfl rfl (ki (fun v_99_7 I_99_7 q_99_7 => ?_))
            obtain ⟨rfl, rfl⟩ := q_99_7
            refine r_istore C dX10_workOut_102 rfl rfl ?_
            refine r_goto C (tgt := 33) dX10_workOut_104 rfl ?_
            have e1 : ggM gv (v, h, q) = true := (ggM_t (Or.inr ⟨by assumption, by assumption⟩))
            have e2 : gsM gv gs (v, h, q) = v := (if_pos ⟨by assumption, by assumption, Bool.eq_false_iff.mpr (by assumption)⟩)
            rw [e1, e2] at hG
            by_cases h59 : tkQ (txM I) 59 q
            · rw [bI_t h59, show tkP (txM I) 59 q = (q.1 + 1, q.2.1, q.2.2) from if_pos h59]
              rw [if_pos h59] at hG
              obtain ⟨hup, hui⟩ := PG.up hB (PG.po hp hPG) (fun e => absurd (h59.2.symm.trans e) (by decide))
              exact ih true _ _ _ _ (PG.po (PG.po hp hPG) hup) (by have h9 := hPG.1; rw [hui]; omega) (fun z => by rw [(hPG.2.2 z).2]; exact hop (hPG.2.2 z).1) hG
            · rw [bI_f h59, show tkP (txM I) 59 q = q from if_neg h59]
              rw [if_neg h59] at hG
              exact fin true _ _ _ _ (PG.po hp hPG) hG
    refine r_iload C dX10_workOut_33 rfl ?_
    refine r_ifeq C (tgt := 107) dX10_workOut_35 rfl (fun h35_1 => ?_) (fun h35_1 => ?_)
    · exact absurd (show (1 : Int32) = 0 by assumption) (by decide)
    · refine r_aload_n C dX10_workOut_38 rfl ?_
      refine cV (ci := 10) C hx (sub (d - 1) (by omega) J b p hp (fun z => by have := hop z; omega)) moX10_either mlX10_208 miX10_either msX10_either dX10_workOut_39 rfl rfl rfl rfl rfl (by omega) rfl rfl (ki (fun v_39_2 I_39_2 q_39_2 => ?_))
      obtain ⟨rfl, rfl, hPG1⟩ := q_39_2
      refine r_istore C dX10_workOut_42 rfl rfl ?_
      refine r_iconst C (v := 1) dX10_workOut_44 (by decide) ?_
      refine r_istore C dX10_workOut_45 rfl rfl ?_
      refine r_aload_n C dX10_workOut_47 rfl ?_
      refine r_bipush C (v := 63) dX10_workOut_48 (by decide) ?_
      refine cV (ci := 10) C hx (sX10_takes (d := d - 1) (by omega) 63 I J b (f p).2 hB (PG.po hp hPG1)) moX10_takes mlX10_187 miX10_takes msX10_takes dX10_workOut_50 rfl rfl rfl rfl rfl (by omega) rfl rfl (ki (fun v_50_3 I_50_3 q_50_3 => ?_))
      obtain ⟨rfl, rfl⟩ := q_50_3
      refine z_ifeq C (tgt := 74) dX10_workOut_53 rfl (fun h53_4 => ?_) (fun h53_4 => ?_)
      · rw [show tkP (txM I) 63 (f p).2 = (f p).2 from if_neg (by assumption)]
        exact join ((f p).1, true, (f p).2) 1 (bI_t rfl).symm (if_neg (by assumption)) hPG1
      · have htk : tkQ (txM I) 63 (f p).2 := by assumption
        obtain ⟨hup, hui⟩ := PG.up hB (PG.po hp hPG1) (fun e => absurd (htk.2.symm.trans e) (by decide))
        rw [show tkP (txM I) 63 (f p).2 = ((f p).2.1 + 1, (f p).2.2.1, (f p).2.2.2) from if_pos htk]
        refine r_iload C dX10_workOut_56 rfl ?_
        refine r_ifeq C (tgt := 65) dX10_workOut_58 rfl (fun h58_5 => ?_) (fun h58_5 => ?_)
        · refine r_iconst C (v := 0) dX10_workOut_65 (by decide) ?_
          refine r_istore C dX10_workOut_66 rfl rfl ?_
          refine r_aload_n C dX10_workOut_68 rfl ?_
          refine cV (ci := 10) C hx (sub (d - 1) (by omega) J b ((f p).2.1 + 1, (f p).2.2.1, (f p).2.2.2) (PG.po (PG.po hp hPG1) hup) (fun z => by have z1 := (hPG1.2.2 z).1; have z2 := (hPG1.2.2 z).2; rw [z2]; have := hop z1; omega)) moX10_either mlX10_208 miX10_either msX10_either dX10_workOut_69 rfl rfl rfl rfl rfl (by omega) rfl rfl (ki (fun v_69_6 I_69_6 q_69_6 => ?_))
          obtain ⟨rfl, rfl, hPG2⟩ := q_69_6
          refine r_istore C dX10_workOut_72 rfl rfl ?_
          exact join ((f ((f p).2.1 + 1, (f p).2.2.1, (f p).2.2.2)).1, decide (¬ (f p).1 = 0), (f ((f p).2.1 + 1, (f p).2.2.1, (f p).2.2.2)).2) 0 (bI_f (fun z => nil_iff.mpr z (by assumption))).symm (if_pos htk) (hPG1.tr (hup.tr hPG2))
        · refine r_iconst C (v := 1) dX10_workOut_61 (by decide) ?_
          refine r_goto C (tgt := 66) dX10_workOut_62 rfl ?_
          refine r_istore C dX10_workOut_66 rfl rfl ?_
          refine r_aload_n C dX10_workOut_68 rfl ?_
          refine cV (ci := 10) C hx (sub (d - 1) (by omega) J b ((f p).2.1 + 1, (f p).2.2.1, (f p).2.2.2) (PG.po (PG.po hp hPG1) hup) (fun z => by have z1 := (hPG1.2.2 z).1; have z2 := (hPG1.2.2 z).2; rw [z2]; have := hop z1; omega)) moX10_either mlX10_208 miX10_either msX10_either dX10_workOut_69 rfl rfl rfl rfl rfl (by omega) rfl rfl (ki (fun v_69_7 I_69_7 q_69_7 => ?_))
          obtain ⟨rfl, rfl, hPG2⟩ := q_69_7
          refine r_istore C dX10_workOut_72 rfl rfl ?_
          exact join ((f ((f p).2.1 + 1, (f p).2.2.1, (f p).2.2.2)).1, decide (¬ (f p).1 = 0), (f ((f p).2.1 + 1, (f p).2.2.1, (f p).2.2.2)).2) 1 (bI_t (nil_iff.mp (by assumption))).symm (if_pos htk) (hPG1.tr (hup.tr hPG2))
/-- the reader set upon a text -/
def setB (I : Is) (fr n : Int32) : Is := u2 (u2 I 64 15 fr) 64 17 n
theorem sB_p (I : Is) (fr n a f q : Int32) : u2 (u2 (u2 (u2 (u2 I 64 15 fr) 64 16 a) 64 17 n) 64 18 f) 64 19 q = setP (setB I fr n) (a, f, q) := by
  funext t k
  rw [sP_ap]
  unfold setB u2
  by_cases h : t = 64
  · subst h
    by_cases e1 : k = 19
    · simp [e1]
    · by_cases e2 : k = 18
      · simp [e2]
      · by_cases e3 : k = 17
        · simp [e3]
        · by_cases e4 : k = 16
          · simp [e4]
          · simp [e1, e2, e3, e4]
  · simp [h]
set_option maxRecDepth 100000 in
set_option maxHeartbeats 400000 in
theorem sX10_workOut {g : Gb} {d : Nat} (hd : 79 ≤ d) (fr n : Int32) (I : Is) (J : Js) (b : Bool) (hf : fr = -1 ∨ fr = 0) (hn0 : 0 ≤ n.toInt) (hn1 : n.toInt ≤ 120) : MC9 g d mX10_workOut [.ref 64, .int fr, .int n] I J b (Qi J b (fun v I' => v = (woM (txM (setB I fr n)) (I 72) n).1 ∧ I' = setP (setB I fr n) (woM (txM (setB I fr n)) (I 72) n).2)) := by
  have hB : BE (setB I fr n) := ⟨hf, hn0, hn1⟩
  have sub1 : EvC g (setB I fr n) 68 (6 : Nat) mX10_one (oneM (txM (setB I fr n)) (I 72) 6) := sX10_one hB 6 (by decide)
  have sub : EvC g (setB I fr n) 78 (6 : Nat) mX10_either (jnM (txM (setB I fr n)) (oneM (txM (setB I fr n)) (I 72) 6) 5) := sX10_either hB (sX10_bothOf hB (sX10_compared hB (sX10_sums hB (sX10_product hB sub1))))
  unfold woM
  generalize jnM (txM (setB I fr n)) (oneM (txM (setB I fr n)) (I 72) 6) 5 = f at *
  obtain ⟨G, hG⟩ : ∃ G, finM n (lnM (txM (setB I fr n)) f 121 false 0 (0, -1, 0)) = G := ⟨_, rfl⟩
  rw [hG]
  refine ent9 (own := RX10) rfl rfl rfl (fun X hg hx C Z => ?_)
  subst hg
  refine r_aload_n C dX10_workOut_0 rfl ?_
  refine r_iload_n C dX10_workOut_1 rfl ?_
  refine r_putI C flX10_174 dX10_workOut_2 rfl rfl rfl rfl rfl ?_
  refine r_aload_n C dX10_workOut_5 rfl ?_
  refine r_iconst C (v := 0) dX10_workOut_6 (by decide) ?_
  refine r_putI C flX10_168 dX10_workOut_7 rfl rfl rfl rfl rfl ?_
  refine r_aload_n C dX10_workOut_10 rfl ?_
  refine r_iload_n C dX10_workOut_11 rfl ?_
  refine r_putI C flX10_171 dX10_workOut_12 rfl rfl rfl rfl rfl ?_
  refine r_aload_n C dX10_workOut_15 rfl ?_
  refine r_iconst C (v := -1) dX10_workOut_16 (by decide) ?_
  refine r_putI C flX10_177 dX10_workOut_17 rfl rfl rfl rfl rfl ?_
  refine r_aload_n C dX10_workOut_20 rfl ?_
  refine r_iconst C (v := 0) dX10_workOut_21 (by decide) ?_
  refine r_putI C flX10_202 dX10_workOut_22 rfl rfl rfl rfl rfl ?_
  refine r_iconst C (v := 0) dX10_workOut_25 (by decide) ?_
  refine r_istore_n C dX10_workOut_26 rfl rfl ?_
  refine r_iconst C (v := 0) dX10_workOut_27 (by decide) ?_
  refine r_istore C dX10_workOut_28 rfl rfl ?_
  refine r_iconst C (v := 1) dX10_workOut_30 (by decide) ?_
  refine r_istore C dX10_workOut_31 rfl rfl ?_
  rw [sB_p]
  exact sX10_loop hB sub rfl hx C hd Z 121 false 0 _ _ _ ⟨(by decide : (0 : Int) ≤ (0 : Int32).toInt), hn0⟩ (by decide) (fun _ => rfl) hG
