/-- the search of the best value of a number: (best, gain) -/
def bnF (val : Nat → Int32) (go : Nat → Int32 → Bool) : Nat → Nat → Int32 → Int32 → Int32 × Int32
  | 0, _, best, gain => (best, gain)
  | m + 1, k, best, gain => if go k gain = true then (if gain.toInt < (val k).toInt then bnF val go m (k + 1) (nI k) (val k) else bnF val go m (k + 1) best gain) else (best, gain)
/-- GOT or SWEET of straw j -/
def gsF (z : Int32) (v : GV) (j : Nat) : Int32 := if z = 0 then v.2.2.2.2.1 j else v.2.2.2.2.2.1 j
def bnGo (I : Is) (w : Nat) (z : Int32) (k : Nat) (gain : Int32) : Bool := decide (¬ w = 2 ∨ gain.toInt < (maF (I 2) (I 16 0) (I 16 1) (nI k) z).toInt)
set_option maxRecDepth 100000 in
set_option maxHeartbeats 400000 in
theorem sX8_bestNumber {g : Gb} {d : Nat} (hd : 8 ≤ d) (j w Mo N : Nat) (z : Int32) (hw : w = 0 ∨ w = 2) (hMo : (w = 0 → Mo ≤ 20) ∧ (w = 2 → Mo ≤ 999)) (hN : N < 100000) (I : Is) (J : Js) (b : Bool) (s : Nat) (hs : (I 1 1).toInt = (s : Int)) (hs3 : s ≤ 3) (hj : j < s) (hNW : NW (I 1 1) (I 2)) (hTW : TW I b) (hv : VOk (gv I 16)) : MC9 g d mX8_bestNumber [.ref 28, .int (nI j), .int (nI w), .int (nI Mo), .int (nI N), .int z] I J b (Qi J b (fun v I' => v = (bnF (fun k => gsF z (drW I b (8 * j + w) (nI k) s N) j) (bnGo I w z) (Mo + 1) 0 0 (-1)).1 ∧ I' 28 0 = (bnF (fun k => gsF z (drW I b (8 * j + w) (nI k) s N) j) (bnGo I w z) (Mo + 1) 0 0 (-1)).2 ∧ Fr (28 :: [32, 33, 34, 35, 36, 37, 14, 15]) I I')) := by
  refine ent9 (own := RX8) rfl rfl rfl (fun X hg hx C Z => ?_)
  subst hg
  have hw8 : w < 8 := by omega
  obtain ⟨p, hpl, hpi⟩ := pl_ex (w := w) hs hj hs3 hw8
  have hip : ix p = 8 * j + w := ix_of hpi
  have hpv : vp_in p 28 := vin (by omega) (by omega)
  have inw : (nI w).toInt = (w : Int) := nIint (by omega)
  have fin : ∀ (be : Int32) (x9 : Int32) (x10 : Option Value) (I' : Is), be = (bnF (fun k => gsF z (drW I b (8 * j + w) (nI k) s N) j) (bnGo I w z) (Mo + 1) 0 0 (-1)).1 → I' 28 0 = (bnF (fun k => gsF z (drW I b (8 * j + w) (nI k) s N) j) (bnGo I w z) (Mo + 1) 0 0 (-1)).2 → Fr (2 :: 28 :: [32, 33, 34, 35, 36, 37, 14, 15]) I I' → (∀ q, q ≠ 8 * j + w → I' 2 q = I 2 q) → Aw X 126 [some (.ref 28), some (.int (nI j)), some (.int (nI w)), some (.int (nI Mo)), some (.int (nI N)), some (.int z), some (.int p), some (.int (I 2 (8 * j + w))), some (.int be), some (.int x9), x10] [] (st9 I' J b) := by
    intro be x9 x10 I' hbe hga hF h2
    have hr2 : (u2 I' 2 (8 * j + w) (I 2 (8 * j + w))) 2 = I 2 := by
      rw [u2_2]
      funext k
      by_cases e : k = 8 * j + w
      · rw [if_pos e, e]
      · rw [if_neg e]; exact h2 k e
    refine r_aload_n C dX8_bestNumber_126 rfl ?_
    refine r_getR C flX8_21 dX8_bestNumber_127 rfl rfl rfl ?_
    refine r_getR C flX8_95 dX8_bestNumber_130 rfl rfl rfl ?_
    refine r_iload C dX8_bestNumber_133 rfl ?_
    refine r_iload C dX8_bestNumber_135 rfl ?_
    refine r_iast C rfl dX8_bestNumber_137 hpv ?_
    rw [hip]
    refine r_iload C dX8_bestNumber_138 rfl ?_
    exact ri C Z dX8_bestNumber_140 ⟨hbe, by rw [u2_row (by decide)]; exact hga, fun c hc => by
      by_cases e : c = 2
      · rw [e]; exact hr2
      · rw [u2_row e]; exact hF c (fun z => (List.mem_cons.mp z).elim e hc)⟩
  have loop : ∀ (m k : Nat) (be : Int32) (x10 : Option Value) (I' : Is), m + k = Mo + 1 → Fr (2 :: 28 :: [32, 33, 34, 35, 36, 37, 14, 15]) I I' → (∀ q, q ≠ 8 * j + w → I' 2 q = I 2 q) → bnF (fun k => gsF z (drW I b (8 * j + w) (nI k) s N) j) (bnGo I w z) m k be (I' 28 0) = bnF (fun k => gsF z (drW I b (8 * j + w) (nI k) s N) j) (bnGo I w z) (Mo + 1) 0 0 (-1) →
      Aw X 41 [some (.ref 28), some (.int (nI j)), some (.int (nI w)), some (.int (nI Mo)), some (.int (nI N)), some (.int z), some (.int p), some (.int (I 2 (8 * j + w))), some (.int be), some (.int (nI k)), x10] [] (st9 I' J b) := by
    intro m
    induction m with
    | zero =>
      intro k be x10 I' hm hF h2 hg
      have ink : (nI k).toInt = (k : Int) := nIint (by omega)
      have inM : (nI Mo).toInt = (Mo : Int) := nIint (by omega)
      refine r_iload C dX8_bestNumber_41 rfl ?_
      refine r_iload_n C dX8_bestNumber_43 rfl ?_
      refine b_icgt C (tgt := 126) rfl rfl dX8_bestNumber_44 rfl (fun h44_1 => ?_) (fun h44_1 => ?_)
      · exact fin _ _ _ _ (by rw [← hg]; rfl) (by rw [← hg]; rfl) hF h2
      · exfalso; omega
    | succ m ih =>
      intro k be x10 I' hm hF h2 hg
      have ink : (nI k).toInt = (k : Int) := nIint (by omega)
      have inM : (nI Mo).toInt = (Mo : Int) := nIint (by omega)
      have r16 : I' 16 = I 16 := hF 16 (by decide)
      have hstep : bnF (fun k => gsF z (drW I b (8 * j + w) (nI k) s N) j) (bnGo I w z) (m + 1) k be (I' 28 0) = if bnGo I w z k (I' 28 0) = true then (if (I' 28 0).toInt < (gsF z (drW I b (8 * j + w) (nI k) s N) j).toInt then bnF (fun k => gsF z (drW I b (8 * j + w) (nI k) s N) j) (bnGo I w z) m (k + 1) (nI k) (gsF z (drW I b (8 * j + w) (nI k) s N) j) else bnF (fun k => gsF z (drW I b (8 * j + w) (nI k) s N) j) (bnGo I w z) m (k + 1) be (I' 28 0)) else (be, I' 28 0) := rfl
      rw [hstep] at hg
      clear hstep
      have t26 : I' 2 26 = I 2 26 := h2 26 (by omega)
      have hma : maF (I' 2) (I' 16 0) (I' 16 1) (nI k) z = maF (I 2) (I 16 0) (I 16 1) (nI k) z := by unfold maF; rw [t26, r16]
      obtain ⟨I1, hI1⟩ : ∃ z, z = u2 I' 2 (8 * j + w) (nI k) := ⟨_, rfl⟩
      have f1 : ∀ c, c ≠ 2 → I1 c = I' c := fun c hc => by rw [hI1]; exact u2_row hc
      have hF1 : Fr (2 :: 28 :: [32, 33, 34, 35, 36, 37, 14, 15]) I I1 := by rw [hI1]; exact hF.st (by simp)
      have h21 : ∀ q, q ≠ 8 * j + w → I1 2 q = I 2 q := fun q hq => by rw [hI1, u2_ne _ _ _ _ (Or.inr hq)]; exact h2 q hq
      have row : I1 2 = (u2 I 2 (8 * j + w) (nI k)) 2 := by
        funext q
        rw [u2_2]
        by_cases e : q = 8 * j + w
        · rw [e]; show I1 2 _ = if _ then _ else _; rw [if_pos rfl, hI1, u2_same]
        · show I1 2 q = if _ then _ else _; rw [if_neg e]; exact h21 q e
      have hNW1 : NW (I1 1 1) (I1 2) := by
        rw [hF1 1 (by decide), row, u2_2]
        refine NW_upd hNW (by omega) ?_
        unfold rgW
        omega
      have hTW1 : TW I1 b := TW_rows (fun c hc => hF1 c (by revert hc; revert c; decide)) hTW
      have hg1 : gv I1 16 = gv I 16 := gv_rows (fun c hc => hF1 c (by revert hc; revert c; decide))
      have hen1 : en I1 b = en (u2 I 2 (8 * j + w) (nI k)) b := en_rows (fun c hc => by
        by_cases e : c = 2
        · rw [e]; exact row
        · rw [u2_row e]; exact hF1 c (fun z => (List.mem_cons.mp z).elim e ((by decide : ∀ c, c ∈ [1, 2, 5, 6, 7, 8, 10, 11, 12, 13] → c ∉ (28 :: [32, 33, 34, 35, 36, 37, 14, 15])) c hc)))
      refine r_iload C dX8_bestNumber_41 rfl ?_
      refine r_iload_n C dX8_bestNumber_43 rfl ?_
      refine b_icgt C (tgt := 126) rfl rfl dX8_bestNumber_44 rfl (fun h44_1 => ?_) (fun h44_1 => ?_)
      · exfalso; omega
      · refine r_iload_n C dX8_bestNumber_47 rfl ?_
        refine r_iconst C (v := 2) dX8_bestNumber_48 (by decide) ?_
        refine r_icne C (tgt := 67) dX8_bestNumber_49 rfl (fun h49_2 => ?_) (fun h49_2 => ?_)
        · refine r_aload_n C dX8_bestNumber_67 rfl ?_
          refine r_getR C flX8_21 dX8_bestNumber_68 rfl rfl rfl ?_
          refine r_getR C flX8_95 dX8_bestNumber_71 rfl rfl rfl ?_
          refine r_iload C dX8_bestNumber_74 rfl ?_
          refine r_iload C dX8_bestNumber_76 rfl ?_
          refine r_iast C rfl dX8_bestNumber_78 hpv ?_
          rw [hip, ← hI1]
          refine r_aload_n C dX8_bestNumber_79 rfl ?_
          refine r_iload C dX8_bestNumber_80 rfl ?_
          refine cV (ci := 8) C hx (sX8_drunk (d := d - 1) (by omega) N hN I1 J b s (by rw [hF1 1 (by decide)]; exact hs) hs3 hNW1 hTW1 (by rw [hg1]; exact hv)) moX8_drunk mlX8_102 miX8_drunk msX8_drunk dX8_bestNumber_82 rfl rfl rfl rfl rfl (by omega) rfl rfl (kr (fun t_82_3 I_82_3 q_82_3 => ?_))
          obtain ⟨rfl, hE, hFd⟩ := q_82_3
          rw [hg1, hen1, row] at hE
          have hE : EqV (gv I_82_3 32) (drW I b (8 * j + w) (nI k) s N) := hE
          have hF2 : Fr (2 :: 28 :: [32, 33, 34, 35, 36, 37, 14, 15]) I I_82_3 := hF1.tr hFd (fun _ h => h) (fun _ h => List.mem_cons_of_mem _ (List.mem_cons_of_mem _ h))
          have h22 : ∀ q, q ≠ 8 * j + w → I_82_3 2 q = I 2 q := fun q hqq => by rw [hFd 2 (by decide)]; exact h21 q hqq
          have h28 : I_82_3 28 0 = I' 28 0 := by rw [hFd 28 (by decide), f1 28 (by decide)]
          generalize I_82_3 = I2 at hE hF2 h22 h28 ⊢
          refine r_iload_n C dX8_bestNumber_85 rfl ?_
          refine r_iload C dX8_bestNumber_86 rfl ?_
          refine r_ifeq C (tgt := 95) dX8_bestNumber_88 rfl (fun h88_4 => ?_) (fun h88_4 => ?_)
          · refine r_iconst C (v := 0) dX8_bestNumber_95 (by decide) ?_
            refine cV (ci := 1) C hx (sX1_tells_32 (d := d - 1) (by omega) j (by omega) _ I2 J b) moX1_tells mlX8_106 miX1_tells msX1_tells dX8_bestNumber_96 rfl rfl rfl rfl rfl (by omega) rfl rfl (kp ?_)
            refine r_istore C dX8_bestNumber_99 rfl rfl ?_
            refine r_iload C dX8_bestNumber_101 rfl ?_
            refine r_aload_n C dX8_bestNumber_103 rfl ?_
            refine r_getI C flX8_92 dX8_bestNumber_104 rfl rfl ?_
            refine b_icle C (tgt := 120) rfl rfl dX8_bestNumber_107 rfl (fun h107_6 => ?_) (fun h107_6 => ?_)
            · refine r_iinc C (v := 1) dX8_bestNumber_120 rfl (by decide) rfl ?_
              refine r_goto C (tgt := 41) dX8_bestNumber_123 rfl ?_
              have hval : gsF z (drW I b (8 * j + w) (nI k) s N) j = I2 34 j := (if_pos ‹z = 0›).trans (hE.2.2.2.2.1 j (by omega)).symm
              have hgo : bnGo I w z k (I' 28 0) = true := decide_eq_true (Or.inl (fun e => ‹¬ nI w = 2› (by rw [e]; rfl)))
              rw [if_pos hgo, hval] at hg
              have hh := ‹(if _ then _ else _ : Int32).toInt ≤ (I2 28 0).toInt›
              rw [if_pos rfl, h28] at hh
              rw [if_neg (Int.not_lt.mpr hh), ← h28] at hg
              rw [nI_s]
              exact ih (k + 1) _ _ _ (by omega) hF2 h22 hg
            · refine r_aload_n C dX8_bestNumber_110 rfl ?_
              refine r_iload C dX8_bestNumber_111 rfl ?_
              refine r_putI C flX8_92 dX8_bestNumber_113 rfl rfl rfl rfl rfl ?_
              refine r_iload C dX8_bestNumber_116 rfl ?_
              refine r_istore C dX8_bestNumber_118 rfl rfl ?_
              refine r_iinc C (v := 1) dX8_bestNumber_120 rfl (by decide) rfl ?_
              refine r_goto C (tgt := 41) dX8_bestNumber_123 rfl ?_
              have hval : gsF z (drW I b (8 * j + w) (nI k) s N) j = I2 34 j := (if_pos ‹z = 0›).trans (hE.2.2.2.2.1 j (by omega)).symm
              have hgo : bnGo I w z k (I' 28 0) = true := decide_eq_true (Or.inl (fun e => ‹¬ nI w = 2› (by rw [e]; rfl)))
              rw [if_pos hgo, hval] at hg
              have hh := ‹(I2 28 0).toInt < (if _ then _ else _ : Int32).toInt›
              rw [if_pos rfl, h28] at hh
              rw [if_pos hh] at hg
              rw [nI_s, if_pos rfl]
              exact ih (k + 1) _ _ _ (by omega) (hF2.st (by simp)) (fun q hqq => by rw [u2_row (by decide)]; exact h22 q hqq) (by rw [u2_same]; exact hg)
          · refine r_iconst C (v := 1) dX8_bestNumber_91 (by decide) ?_
            refine r_goto C (tgt := 96) dX8_bestNumber_92 rfl ?_
            refine cV (ci := 1) C hx (sX1_tells_32 (d := d - 1) (by omega) j (by omega) _ I2 J b) moX1_tells mlX8_106 miX1_tells msX1_tells dX8_bestNumber_96 rfl rfl rfl rfl rfl (by omega) rfl rfl (kp ?_)
            refine r_istore C dX8_bestNumber_99 rfl rfl ?_
            refine r_iload C dX8_bestNumber_101 rfl ?_
            refine r_aload_n C dX8_bestNumber_103 rfl ?_
            refine r_getI C flX8_92 dX8_bestNumber_104 rfl rfl ?_
            refine b_icle C (tgt := 120) rfl rfl dX8_bestNumber_107 rfl (fun h107_8 => ?_) (fun h107_8 => ?_)
            · refine r_iinc C (v := 1) dX8_bestNumber_120 rfl (by decide) rfl ?_
              refine r_goto C (tgt := 41) dX8_bestNumber_123 rfl ?_
              have hval : gsF z (drW I b (8 * j + w) (nI k) s N) j = I2 35 j := (if_neg ‹¬ z = 0›).trans (hE.2.2.2.2.2.1 j (by omega)).symm
              have hgo : bnGo I w z k (I' 28 0) = true := decide_eq_true (Or.inl (fun e => ‹¬ nI w = 2› (by rw [e]; rfl)))
              rw [if_pos hgo, hval] at hg
              have hh := ‹(if _ then _ else _ : Int32).toInt ≤ (I2 28 0).toInt›
              rw [if_neg (by decide), if_pos rfl, h28] at hh
              rw [if_neg (Int.not_lt.mpr hh), ← h28] at hg
              rw [nI_s]
              exact ih (k + 1) _ _ _ (by omega) hF2 h22 hg
            · refine r_aload_n C dX8_bestNumber_110 rfl ?_
              refine r_iload C dX8_bestNumber_111 rfl ?_
              refine r_putI C flX8_92 dX8_bestNumber_113 rfl rfl rfl rfl rfl ?_
              refine r_iload C dX8_bestNumber_116 rfl ?_
              refine r_istore C dX8_bestNumber_118 rfl rfl ?_
              refine r_iinc C (v := 1) dX8_bestNumber_120 rfl (by decide) rfl ?_
              refine r_goto C (tgt := 41) dX8_bestNumber_123 rfl ?_
              have hval : gsF z (drW I b (8 * j + w) (nI k) s N) j = I2 35 j := (if_neg ‹¬ z = 0›).trans (hE.2.2.2.2.2.1 j (by omega)).symm
              have hgo : bnGo I w z k (I' 28 0) = true := decide_eq_true (Or.inl (fun e => ‹¬ nI w = 2› (by rw [e]; rfl)))
              rw [if_pos hgo, hval] at hg
              have hh := ‹(I2 28 0).toInt < (if _ then _ else _ : Int32).toInt›
              rw [if_neg (by decide), if_pos rfl, h28] at hh
              rw [if_pos hh] at hg
              rw [nI_s, if_neg (by decide), if_pos rfl]
              exact ih (k + 1) _ _ _ (by omega) (hF2.st (by simp)) (fun q hqq => by rw [u2_row (by decide)]; exact h22 q hqq) (by rw [u2_same]; exact hg)
        · refine r_aload_n C dX8_bestNumber_52 rfl ?_
          refine r_getI C flX8_92 dX8_bestNumber_53 rfl rfl ?_
          refine r_aload_n C dX8_bestNumber_56 rfl ?_
          refine r_iload C dX8_bestNumber_57 rfl ?_
          refine r_iload C dX8_bestNumber_59 rfl ?_
          refine cV (ci := 8) C hx (sX8_mostAbove (d := d - 1) (by omega) _ _ I' J b) moX8_mostAbove mlX8_98 miX8_mostAbove msX8_mostAbove dX8_bestNumber_61 rfl rfl rfl rfl rfl (by omega) rfl rfl (kp ?_)
          refine b_icge C (tgt := 126) rfl rfl dX8_bestNumber_64 rfl (fun h64_10 => ?_) (fun h64_10 => ?_)
          · have hw2 : w = 2 := by have := congrArg Int32.toInt ‹nI w = 2›; rw [inw] at this; have e2 : (2 : Int32).toInt = 2 := rfl; omega
            have hgo : ¬ bnGo I w z k (I' 28 0) = true := fun q => (of_decide_eq_true q).elim (fun a => a hw2) (fun a => by rw [← hma] at a; omega)
            rw [if_neg hgo] at hg
            exact fin _ _ _ _ (by rw [← hg]) (by rw [← hg]) hF h2
          · refine r_aload_n C dX8_bestNumber_67 rfl ?_
            refine r_getR C flX8_21 dX8_bestNumber_68 rfl rfl rfl ?_
            refine r_getR C flX8_95 dX8_bestNumber_71 rfl rfl rfl ?_
            refine r_iload C dX8_bestNumber_74 rfl ?_
            refine r_iload C dX8_bestNumber_76 rfl ?_
            refine r_iast C rfl dX8_bestNumber_78 hpv ?_
            rw [hip, ← hI1]
            refine r_aload_n C dX8_bestNumber_79 rfl ?_
            refine r_iload C dX8_bestNumber_80 rfl ?_
            refine cV (ci := 8) C hx (sX8_drunk (d := d - 1) (by omega) N hN I1 J b s (by rw [hF1 1 (by decide)]; exact hs) hs3 hNW1 hTW1 (by rw [hg1]; exact hv)) moX8_drunk mlX8_102 miX8_drunk msX8_drunk dX8_bestNumber_82 rfl rfl rfl rfl rfl (by omega) rfl rfl (kr (fun t_82_11 I_82_11 q_82_11 => ?_))
            obtain ⟨rfl, hE, hFd⟩ := q_82_11
            rw [hg1, hen1, row] at hE
            have hE : EqV (gv I_82_11 32) (drW I b (8 * j + w) (nI k) s N) := hE
            have hF2 : Fr (2 :: 28 :: [32, 33, 34, 35, 36, 37, 14, 15]) I I_82_11 := hF1.tr hFd (fun _ h => h) (fun _ h => List.mem_cons_of_mem _ (List.mem_cons_of_mem _ h))
            have h22 : ∀ q, q ≠ 8 * j + w → I_82_11 2 q = I 2 q := fun q hqq => by rw [hFd 2 (by decide)]; exact h21 q hqq
            have h28 : I_82_11 28 0 = I' 28 0 := by rw [hFd 28 (by decide), f1 28 (by decide)]
            generalize I_82_11 = I2 at hE hF2 h22 h28 ⊢
            refine r_iload_n C dX8_bestNumber_85 rfl ?_
            refine r_iload C dX8_bestNumber_86 rfl ?_
            refine r_ifeq C (tgt := 95) dX8_bestNumber_88 rfl (fun h88_12 => ?_) (fun h88_12 => ?_)
            · refine r_iconst C (v := 0) dX8_bestNumber_95 (by decide) ?_
              refine cV (ci := 1) C hx (sX1_tells_32 (d := d - 1) (by omega) j (by omega) _ I2 J b) moX1_tells mlX8_106 miX1_tells msX1_tells dX8_bestNumber_96 rfl rfl rfl rfl rfl (by omega) rfl rfl (kp ?_)
              refine r_istore C dX8_bestNumber_99 rfl rfl ?_
              refine r_iload C dX8_bestNumber_101 rfl ?_
              refine r_aload_n C dX8_bestNumber_103 rfl ?_
              refine r_getI C flX8_92 dX8_bestNumber_104 rfl rfl ?_
              refine b_icle C (tgt := 120) rfl rfl dX8_bestNumber_107 rfl (fun h107_14 => ?_) (fun h107_14 => ?_)
              · refine r_iinc C (v := 1) dX8_bestNumber_120 rfl (by decide) rfl ?_
                refine r_goto C (tgt := 41) dX8_bestNumber_123 rfl ?_
                have hval : gsF z (drW I b (8 * j + w) (nI k) s N) j = I2 34 j := (if_pos ‹z = 0›).trans (hE.2.2.2.2.1 j (by omega)).symm
                have hgo : bnGo I w z k (I' 28 0) = true := decide_eq_true (Or.inr (by rw [← hma]; assumption))
                rw [if_pos hgo, hval] at hg
                have hh := ‹(if _ then _ else _ : Int32).toInt ≤ (I2 28 0).toInt›
                rw [if_pos rfl, h28] at hh
                rw [if_neg (Int.not_lt.mpr hh), ← h28] at hg
                rw [nI_s]
                exact ih (k + 1) _ _ _ (by omega) hF2 h22 hg
              · refine r_aload_n C dX8_bestNumber_110 rfl ?_
                refine r_iload C dX8_bestNumber_111 rfl ?_
                refine r_putI C flX8_92 dX8_bestNumber_113 rfl rfl rfl rfl rfl ?_
                refine r_iload C dX8_bestNumber_116 rfl ?_
                refine r_istore C dX8_bestNumber_118 rfl rfl ?_
                refine r_iinc C (v := 1) dX8_bestNumber_120 rfl (by decide) rfl ?_
                refine r_goto C (tgt := 41) dX8_bestNumber_123 rfl ?_
                have hval : gsF z (drW I b (8 * j + w) (nI k) s N) j = I2 34 j := (if_pos ‹z = 0›).trans (hE.2.2.2.2.1 j (by omega)).symm
                have hgo : bnGo I w z k (I' 28 0) = true := decide_eq_true (Or.inr (by rw [← hma]; assumption))
                rw [if_pos hgo, hval] at hg
                have hh := ‹(I2 28 0).toInt < (if _ then _ else _ : Int32).toInt›
                rw [if_pos rfl, h28] at hh
                rw [if_pos hh] at hg
                rw [nI_s, if_pos rfl]
                exact ih (k + 1) _ _ _ (by omega) (hF2.st (by simp)) (fun q hqq => by rw [u2_row (by decide)]; exact h22 q hqq) (by rw [u2_same]; exact hg)
            · refine r_iconst C (v := 1) dX8_bestNumber_91 (by decide) ?_
              refine r_goto C (tgt := 96) dX8_bestNumber_92 rfl ?_
              refine cV (ci := 1) C hx (sX1_tells_32 (d := d - 1) (by omega) j (by omega) _ I2 J b) moX1_tells mlX8_106 miX1_tells msX1_tells dX8_bestNumber_96 rfl rfl rfl rfl rfl (by omega) rfl rfl (kp ?_)
              refine r_istore C dX8_bestNumber_99 rfl rfl ?_
              refine r_iload C dX8_bestNumber_101 rfl ?_
              refine r_aload_n C dX8_bestNumber_103 rfl ?_
              refine r_getI C flX8_92 dX8_bestNumber_104 rfl rfl ?_
              refine b_icle C (tgt := 120) rfl rfl dX8_bestNumber_107 rfl (fun h107_16 => ?_) (fun h107_16 => ?_)
              · refine r_iinc C (v := 1) dX8_bestNumber_120 rfl (by decide) rfl ?_
                refine r_goto C (tgt := 41) dX8_bestNumber_123 rfl ?_
                have hval : gsF z (drW I b (8 * j + w) (nI k) s N) j = I2 35 j := (if_neg ‹¬ z = 0›).trans (hE.2.2.2.2.2.1 j (by omega)).symm
                have hgo : bnGo I w z k (I' 28 0) = true := decide_eq_true (Or.inr (by rw [← hma]; assumption))
                rw [if_pos hgo, hval] at hg
                have hh := ‹(if _ then _ else _ : Int32).toInt ≤ (I2 28 0).toInt›
                rw [if_neg (by decide), if_pos rfl, h28] at hh
                rw [if_neg (Int.not_lt.mpr hh), ← h28] at hg
                rw [nI_s]
                exact ih (k + 1) _ _ _ (by omega) hF2 h22 hg
              · refine r_aload_n C dX8_bestNumber_110 rfl ?_
                refine r_iload C dX8_bestNumber_111 rfl ?_
                refine r_putI C flX8_92 dX8_bestNumber_113 rfl rfl rfl rfl rfl ?_
                refine r_iload C dX8_bestNumber_116 rfl ?_
                refine r_istore C dX8_bestNumber_118 rfl rfl ?_
                refine r_iinc C (v := 1) dX8_bestNumber_120 rfl (by decide) rfl ?_
                refine r_goto C (tgt := 41) dX8_bestNumber_123 rfl ?_
                have hval : gsF z (drW I b (8 * j + w) (nI k) s N) j = I2 35 j := (if_neg ‹¬ z = 0›).trans (hE.2.2.2.2.2.1 j (by omega)).symm
                have hgo : bnGo I w z k (I' 28 0) = true := decide_eq_true (Or.inr (by rw [← hma]; assumption))
                rw [if_pos hgo, hval] at hg
                have hh := ‹(I2 28 0).toInt < (if _ then _ else _ : Int32).toInt›
                rw [if_neg (by decide), if_pos rfl, h28] at hh
                rw [if_pos hh] at hg
                rw [nI_s, if_neg (by decide), if_pos rfl]
                exact ih (k + 1) _ _ _ (by omega) (hF2.st (by simp)) (fun q hqq => by rw [u2_row (by decide)]; exact h22 q hqq) (by rw [u2_same]; exact hg)
  refine r_aload_n C dX8_bestNumber_0 rfl ?_
  refine r_getR C flX8_21 dX8_bestNumber_1 rfl rfl rfl ?_
  refine r_iload_n C dX8_bestNumber_4 rfl ?_
  refine r_iload_n C dX8_bestNumber_5 rfl ?_
  refine cV (ci := 3) C hx (sX3_place (d := d - 1) (by omega) _ _ I J b) moX3_place mlX8_89 miX3_place msX3_place dX8_bestNumber_6 rfl rfl rfl rfl rfl (by omega) rfl rfl (kp ?_)
  rw [hpl]
  refine r_istore C dX8_bestNumber_9 rfl rfl ?_
  refine r_aload_n C dX8_bestNumber_11 rfl ?_
  refine r_iconst C (v := -1) dX8_bestNumber_12 (by decide) ?_
  refine r_putI C flX8_92 dX8_bestNumber_13 rfl rfl rfl rfl rfl ?_
  refine r_iload C dX8_bestNumber_16 rfl ?_
  refine b_ifge C (tgt := 23) dX8_bestNumber_18 rfl (fun h18_2 => ?_) (fun h18_2 => ?_)
  · refine r_aload_n C dX8_bestNumber_23 rfl ?_
    refine r_getR C flX8_21 dX8_bestNumber_24 rfl rfl rfl ?_
    refine r_getR C flX8_95 dX8_bestNumber_27 rfl rfl rfl ?_
    refine r_iload C dX8_bestNumber_30 rfl ?_
    refine r_iald C rfl dX8_bestNumber_32 hpv ?_
    rw [hip, u2_ne _ _ _ _ (Or.inl (by decide))]
    refine r_istore C dX8_bestNumber_33 rfl rfl ?_
    refine r_iconst C (v := 0) dX8_bestNumber_35 (by decide) ?_
    refine r_istore C dX8_bestNumber_36 rfl rfl ?_
    refine r_iconst C (v := 0) dX8_bestNumber_38 (by decide) ?_
    refine r_istore C dX8_bestNumber_39 rfl rfl ?_
    exact loop (Mo + 1) 0 0 none _ rfl (Fr.rf.st (by simp)) (fun q _ => by rw [u2_row (by decide)]) (by rw [u2_same])
  · exfalso; omega
