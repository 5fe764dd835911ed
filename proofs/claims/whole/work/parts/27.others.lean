/-- a value that one of a straw's numbers may have -/
def rgW (w : Nat) (v : Int32) : Prop := (w = 0 ∧ 0 ≤ v.toInt ∧ v.toInt ≤ 20) ∨ (w = 2 ∧ 0 ≤ v.toInt ∧ v.toInt ≤ 999) ∨ (w = 6 ∧ -1 ≤ v.toInt ∧ v.toInt ≤ 999) ∨ (w = 7 ∧ 0 ≤ v.toInt ∧ v.toInt ≤ 5000)
theorem upd1 {T : Nat → Int32} {p q : Nat} {v : Int32} {lo hi : Int} (h : lo ≤ (T q).toInt ∧ (T q).toInt ≤ hi) (hv : q = p → lo ≤ v.toInt ∧ v.toInt ≤ hi) : lo ≤ (if q = p then v else T q).toInt ∧ (if q = p then v else T q).toInt ≤ hi := by
  by_cases e : q = p
  · rw [if_pos e]; exact hv e
  · rw [if_neg e]; exact h
theorem NW_upd {s : Int32} {T : Nat → Int32} (h : NW s T) {j w : Nat} {v : Int32} (hj : (j : Int) < s.toInt) (hw : rgW w v) : NW s (fun k => if k = 8 * j + w then v else T k) := by
  obtain ⟨h0, h3, hs, g1, g2, g3, g4⟩ := h
  have hj3 : j < 3 := by omega
  have hw8 : w < 8 := by unfold rgW at hw; omega
  unfold rgW at hw
  refine ⟨h0, h3, fun i hi => ?_, ?_, ?_, ?_, ?_⟩
  · obtain ⟨a0, a1, a2, a3, a4, a5, a6, a7⟩ := hs i hi
    refine ⟨upd1 a0 (fun e => by omega), upd1 a1 (fun e => by omega), upd1 a2 (fun e => by omega), upd1 a3 (fun e => by omega), upd1 a4 (fun e => by omega), upd1 a5 (fun e => by omega), upd1 a6 (fun e => by omega), upd1 a7 (fun e => by omega)⟩
  · exact upd1 g1 (fun e => by omega)
  · exact upd1 g2 (fun e => by omega)
  · exact upd1 g3 (fun e => by omega)
  · exact upd1 g4 (fun e => by omega)
theorem u2_2 (I : Is) (p : Nat) (v : Int32) : (u2 I 2 p v) 2 = fun k => if k = p then v else I 2 k := by
  funext k
  unfold u2
  rw [if_pos rfl]
theorem pl_ex {x : Int32} {s j w : Nat} (hs : x.toInt = (s : Int)) (hj : j < s) (hs3 : s ≤ 3) (hw : w < 8) : ∃ p, plF x (nI j) (nI w) = p ∧ p.toInt = ((8 * j + w : Nat) : Int) := by
  have ij : (nI j).toInt = (j : Int) := nIint (by omega)
  have iw : (nI w).toInt = (w : Int) := nIint (by omega)
  refine ⟨nI j * 8 + nI w, ?_, ?_⟩
  · unfold plF
    rw [if_neg (by omega), if_neg (by omega), if_pos (by omega)]
  · have key : ∀ j, j < 3 → ∀ w, w < 8 → (nI j * 8 + nI w).toInt = ((8 * j + w : Nat) : Int) := by decide +kernel
    exact key j (by omega) w hw
/-- what the others got -/
def otF (f : Nat → Int32) (j : Nat) : Nat → Int32
  | 0 => 0
  | k + 1 => if k = j then otF f j k else otF f j k + f k
/-- drunk in thought for n seconds, with one number of straw j told otherwise -/
def drW (I : Is) (b : Bool) (p : Nat) (v : Int32) (s n : Nat) : GV := whF (drT (lrF ((u2 I 2 p v) 2) s)) (en (u2 I 2 p v) b) (bit 7) (bit 0) (bit 0) n (bgF (gv I 16))
set_option maxRecDepth 100000 in
set_option maxHeartbeats 400000 in
theorem sX8_othersGot {g : Gb} {d : Nat} (hd : 8 ≤ d) (j N : Nat) (h : Int32) (hN : N < 100000) (hh : -1 ≤ h.toInt ∧ h.toInt ≤ 999) (I : Is) (J : Js) (b : Bool) (s : Nat) (hs : (I 1 1).toInt = (s : Int)) (hs3 : s ≤ 3) (hj : j < s) (hNW : NW (I 1 1) (I 2)) (hTW : TW I b) (hv : VOk (gv I 16)) : MC9 g d mX8_othersGot [.ref 28, .int (nI j), .int h, .int (nI N)] I J b (Qi J b (fun v I' => v = otF (drW I b (8 * j + 6) h s N).2.2.2.2.1 j s ∧ Fr [32, 33, 34, 35, 36, 37, 14, 15] I I')) := by
  refine ent9 (own := RX8) rfl rfl rfl (fun X hg hx C Z => ?_)
  subst hg
  obtain ⟨p, hpl, hpi⟩ := pl_ex (w := 6) hs hj hs3 (by omega)
  have hpl : plF (I 1 1) (nI j) 6 = p := hpl
  have hip : ix p = 8 * j + 6 := ix_of hpi
  have hpv : vp_in p 28 := vin (by omega) (by omega)
  obtain ⟨I1, hI1⟩ : ∃ z, z = u2 I 2 (8 * j + 6) h := ⟨_, rfl⟩
  have f1 : ∀ c, c ≠ 2 → I1 c = I c := fun c hc => by rw [hI1]; exact u2_row hc
  have hNW1 : NW (I1 1 1) (I1 2) := by
    rw [f1 1 (by decide), hI1, u2_2]
    exact NW_upd hNW (by omega) (Or.inr (Or.inr (Or.inl ⟨rfl, hh⟩)))
  have hTW1 : TW I1 b := TW_rows (fun c hc => f1 c (by revert hc; revert c; decide)) hTW
  have hg1 : gv I1 16 = gv I 16 := gv_rows (fun c hc => f1 c (by revert hc; revert c; decide))
  have loop : ∀ (m i : Nat) (I3 : Is), m + i = s → (∀ k, k < 3 → I3 34 k = (drW I b (8 * j + 6) h s N).2.2.2.2.1 k) → Fr [32, 33, 34, 35, 36, 37, 14, 15] I I3 → Aw X 66 [some (.ref 28), some (.int (nI j)), some (.int h), some (.int (nI N)), some (.int p), some (.int (I 2 (8 * j + 6))), some (.int (otF (drW I b (8 * j + 6) h s N).2.2.2.2.1 j i)), some (.int (nI i))] [] (st9 I3 J b) := by
    intro m
    induction m with
    | zero =>
      intro i I3 hm hE hF
      have r1 : I3 1 = I 1 := hF 1 (by decide)
      have ini : (nI i).toInt = (i : Int) := nIint (by omega)
      have hi : i = s := by omega
      subst hi
      refine r_iload C dX8_othersGot_66 rfl ?_
      refine r_aload_n C dX8_othersGot_68 rfl ?_
      refine r_getR C flX8_21 dX8_othersGot_69 rfl rfl rfl ?_
      refine r_getI C flX8_65 dX8_othersGot_72 rfl rfl ?_
      rw [r1]
      refine b_icge C (tgt := 105) rfl rfl dX8_othersGot_75 rfl (fun h75_1 => ?_) (fun h75_1 => ?_)
      · refine r_iload C dX8_othersGot_105 rfl ?_
        exact ri C Z dX8_othersGot_107 ⟨rfl, hF⟩
      · exfalso; omega
    | succ m ih =>
      intro i I3 hm hE hF
      have r1 : I3 1 = I 1 := hF 1 (by decide)
      have ini : (nI i).toInt = (i : Int) := nIint (by omega)
      have inj : (nI j).toInt = (j : Int) := nIint (by omega)
      have ii : ix (nI i) = i := nIix (by omega)
      refine r_iload C dX8_othersGot_66 rfl ?_
      refine r_aload_n C dX8_othersGot_68 rfl ?_
      refine r_getR C flX8_21 dX8_othersGot_69 rfl rfl rfl ?_
      refine r_getI C flX8_65 dX8_othersGot_72 rfl rfl ?_
      rw [r1]
      refine b_icge C (tgt := 105) rfl rfl dX8_othersGot_75 rfl (fun h75_1 => ?_) (fun h75_1 => ?_)
      · exfalso; omega
      · refine r_iload C dX8_othersGot_78 rfl ?_
        refine r_iload_n C dX8_othersGot_80 rfl ?_
        refine r_iceq C (tgt := 99) dX8_othersGot_81 rfl (fun h81_2 => ?_) (fun h81_2 => ?_)
        · refine r_iinc C (v := 1) dX8_othersGot_99 rfl (by decide) rfl ?_
          refine r_goto C (tgt := 66) dX8_othersGot_102 rfl ?_
          have e : i = j := by have := congrArg Int32.toInt ‹nI i = nI j›; omega
          have hst : otF (drW I b (8 * j + 6) h s N).2.2.2.2.1 j (i + 1) = otF (drW I b (8 * j + 6) h s N).2.2.2.2.1 j i := if_pos e
          rw [nI_s, ← hst]
          exact ih (i + 1) _ (by omega) hE hF
        · refine r_iload C dX8_othersGot_84 rfl ?_
          refine r_aload_n C dX8_othersGot_86 rfl ?_
          refine r_getR C flX8_34 dX8_othersGot_87 rfl rfl rfl ?_
          refine r_getR C flX8_68 dX8_othersGot_90 rfl rfl rfl ?_
          refine r_iload C dX8_othersGot_93 rfl ?_
          refine r_iald C rfl dX8_othersGot_95 (nIin (n := 3) (by omega) (by decide)) ?_
          refine r_iadd C dX8_othersGot_96 ?_
          refine r_istore C dX8_othersGot_97 rfl rfl ?_
          refine r_iinc C (v := 1) dX8_othersGot_99 rfl (by decide) rfl ?_
          refine r_goto C (tgt := 66) dX8_othersGot_102 rfl ?_
          have e : ¬ i = j := fun z => ‹¬ nI i = nI j› (by rw [z])
          have hst : otF (drW I b (8 * j + 6) h s N).2.2.2.2.1 j (i + 1) = otF (drW I b (8 * j + 6) h s N).2.2.2.2.1 j i + (drW I b (8 * j + 6) h s N).2.2.2.2.1 i := if_neg e
          rw [nI_s, ii, hE i (by omega), ← hst]
          exact ih (i + 1) _ (by omega) hE hF
  refine r_aload_n C dX8_othersGot_0 rfl ?_
  refine r_getR C flX8_21 dX8_othersGot_1 rfl rfl rfl ?_
  refine r_iload_n C dX8_othersGot_4 rfl ?_
  refine r_bipush C (v := 6) dX8_othersGot_5 (by decide) ?_
  refine cV (ci := 3) C hx (sX3_place (d := d - 1) (by omega) _ _ I J b) moX3_place mlX8_89 miX3_place msX3_place dX8_othersGot_7 rfl rfl rfl rfl rfl (by omega) rfl rfl (kp ?_)
  rw [hpl]
  refine r_istore C dX8_othersGot_10 rfl rfl ?_
  refine r_iload C dX8_othersGot_12 rfl ?_
  refine b_ifge C (tgt := 19) dX8_othersGot_14 rfl (fun h14_2 => ?_) (fun h14_2 => ?_)
  · refine r_aload_n C dX8_othersGot_19 rfl ?_
    refine r_getR C flX8_21 dX8_othersGot_20 rfl rfl rfl ?_
    refine r_getR C flX8_95 dX8_othersGot_23 rfl rfl rfl ?_
    refine r_iload C dX8_othersGot_26 rfl ?_
    refine r_iald C rfl dX8_othersGot_28 hpv ?_
    rw [hip]
    refine r_istore C dX8_othersGot_29 rfl rfl ?_
    refine r_aload_n C dX8_othersGot_31 rfl ?_
    refine r_getR C flX8_21 dX8_othersGot_32 rfl rfl rfl ?_
    refine r_getR C flX8_95 dX8_othersGot_35 rfl rfl rfl ?_
    refine r_iload C dX8_othersGot_38 rfl ?_
    refine r_iload_n C dX8_othersGot_40 rfl ?_
    refine r_iast C rfl dX8_othersGot_41 hpv ?_
    rw [hip, ← hI1]
    refine r_aload_n C dX8_othersGot_42 rfl ?_
    refine r_iload_n C dX8_othersGot_43 rfl ?_
    refine cV (ci := 8) C hx (sX8_drunk (d := d - 1) (by omega) N hN I1 J b s (by rw [f1 1 (by decide)]; exact hs) hs3 hNW1 hTW1 (by rw [hg1]; exact hv)) moX8_drunk mlX8_102 miX8_drunk msX8_drunk dX8_othersGot_44 rfl rfl rfl rfl rfl (by omega) rfl rfl (kr (fun t_44_3 I_44_3 q_44_3 => ?_))
    obtain ⟨rfl, hE, hF⟩ := q_44_3
    rw [hg1] at hE
    generalize I_44_3 = I2 at hE hF ⊢
    refine r_pop C dX8_othersGot_47 rfl ?_
    refine r_aload_n C dX8_othersGot_48 rfl ?_
    refine r_getR C flX8_21 dX8_othersGot_49 rfl rfl rfl ?_
    refine r_getR C flX8_95 dX8_othersGot_52 rfl rfl rfl ?_
    refine r_iload C dX8_othersGot_55 rfl ?_
    refine r_iload C dX8_othersGot_57 rfl ?_
    refine r_iast C rfl dX8_othersGot_59 hpv ?_
    rw [hip]
    refine r_iconst C (v := 0) dX8_othersGot_60 (by decide) ?_
    refine r_istore C dX8_othersGot_61 rfl rfl ?_
    refine r_iconst C (v := 0) dX8_othersGot_63 (by decide) ?_
    refine r_istore C dX8_othersGot_64 rfl rfl ?_
    have hr2 : (u2 I2 2 (8 * j + 6) (I 2 (8 * j + 6))) 2 = I 2 := by
      rw [u2_2, hF 2 (by decide), hI1, u2_2]
      funext k
      by_cases e : k = 8 * j + 6
      · rw [if_pos e, e]
      · rw [if_neg e]; exact if_neg e
    refine loop s 0 _ rfl (fun k hk => ?_) (fun c hc => ?_)
    · rw [u2_row (by decide)]
      rw [hI1] at hE
      exact hE.2.2.2.2.1 k hk
    · by_cases e : c = 2
      · rw [e]; exact hr2
      · rw [u2_row e, hF c hc, f1 c e]
  · exfalso; omega
def sbkF (u : Nat → Int32) : Nat → Nat → Int32
  | 0, _ => -2
  | m + 1, k => if u k = -2 then nI k else sbkF u m (k + 1)
/-- the first ring that is not so, if straw j stopped behind k seconds from now -/
def stpF (I : Is) (J : Js) (b : Bool) (t n j k : Nat) : Int32 := fuF (J (t + 1)) (fun q => (goF (en (u2 I 2 (8 * j + 7) (I 16 2 + nI k)) b) (bit 7) (bit 0) (bit 0) (q + 1) (bgF (gv I 16))).1) n 0
theorem m2_ne (k : Nat) (h : k < 1000000) : ¬ nI k = -2 := fun e => by
  have := congrArg Int32.toInt e
  rw [nIint h] at this
  have e2 : (-2 : Int32).toInt = -2 := rfl
  omega
set_option maxRecDepth 100000 in
set_option maxHeartbeats 400000 in
theorem sX8_stoppedBehind {g : Gb} {d : Nat} (hd : 8 ≤ d) (t : Nat) (ht : isSh t) (n j : Nat) (I : Is) (J : Js) (b : Bool) (hn : (I t 1).toInt = (n : Int)) (hn9 : n ≤ 60) (hsec : 0 ≤ (I 16 2).toInt ∧ (I 16 2).toInt ≤ 999) (s : Nat) (hs : (I 1 1).toInt = (s : Int)) (hs3 : s ≤ 3) (hj : j < s) (hNW : NW (I 1 1) (I 2)) (hTW : TW I b) (hv : VOk (gv I 16)) : MC9 g d mX8_stoppedBehind [.ref 28, .ref t, .int (nI j)] I J b (Qi J b (fun v I' => v = sbkF (stpF I J b t n j) (n + 1) 0 ∧ Fr [32, 33, 34, 35, 36, 37, 14, 15] I I')) := by
  refine ent9 (own := RX8) rfl rfl rfl (fun X hg hx C Z => ?_)
  subst hg
  obtain ⟨hc4, hr3, hc21, hl60⟩ := sh_all ht b
  have htT : t ∉ [32, 33, 34, 35, 36, 37, 14, 15] := by rcases ht with rfl | rfl | rfl | rfl | rfl | rfl <;> decide
  have ht2 : t ≠ 2 := by rcases ht with rfl | rfl | rfl | rfl | rfl | rfl <;> decide
  obtain ⟨p, hpl, hpi⟩ := pl_ex (w := 7) hs hj hs3 (by omega)
  have hpl : plF (I 1 1) (nI j) 7 = p := hpl
  have hip : ix p = 8 * j + 7 := ix_of hpi
  have hpv : vp_in p 28 := vin (by omega) (by omega)
  have fin : ∀ (fd : Int32) (x6 : Int32) (I' : Is), fd = sbkF (stpF I J b t n j) (n + 1) 0 → Fr (2 :: [32, 33, 34, 35, 36, 37, 14, 15]) I I' → (∀ k, k ≠ 8 * j + 7 → I' 2 k = I 2 k) → Aw X 93 [some (.ref 28), some (.ref t), some (.int (nI j)), some (.int p), some (.int (I 2 (8 * j + 7))), some (.int fd), some (.int x6)] [] (st9 I' J b) := by
    intro fd x6 I' hfd hF h2
    have hr2 : (u2 I' 2 (8 * j + 7) (I 2 (8 * j + 7))) 2 = I 2 := by
      rw [u2_2]
      funext k
      by_cases e : k = 8 * j + 7
      · rw [if_pos e, e]
      · rw [if_neg e]; exact h2 k e
    refine r_aload_n C dX8_stoppedBehind_93 rfl ?_
    refine r_getR C flX8_21 dX8_stoppedBehind_94 rfl rfl rfl ?_
    refine r_getR C flX8_95 dX8_stoppedBehind_97 rfl rfl rfl ?_
    refine r_iload_n C dX8_stoppedBehind_100 rfl ?_
    refine r_iload C dX8_stoppedBehind_101 rfl ?_
    refine r_iast C rfl dX8_stoppedBehind_103 hpv ?_
    rw [hip]
    refine r_iload C dX8_stoppedBehind_104 rfl ?_
    exact ri C Z dX8_stoppedBehind_106 ⟨hfd, fun c hc => by
      by_cases e : c = 2
      · rw [e]; exact hr2
      · rw [u2_row e]; exact hF c (fun z => (List.mem_cons.mp z).elim e hc)⟩
  have loop : ∀ (m k : Nat) (I' : Is), m + k = n + 1 → Fr (2 :: [32, 33, 34, 35, 36, 37, 14, 15]) I I' → (∀ q, q ≠ 8 * j + 7 → I' 2 q = I 2 q) → sbkF (stpF I J b t n j) m k = sbkF (stpF I J b t n j) (n + 1) 0 →
      Aw X 36 [some (.ref 28), some (.ref t), some (.int (nI j)), some (.int p), some (.int (I 2 (8 * j + 7))), some (.int (-2)), some (.int (nI k))] [] (st9 I' J b) := by
    intro m
    induction m with
    | zero =>
      intro k I' hm hF h2 hg
      have rt : I' t = I t := hF t (fun z => (List.mem_cons.mp z).elim ht2 htT)
      have ink : (nI k).toInt = (k : Int) := nIint (by omega)
      refine r_iload C dX8_stoppedBehind_36 rfl ?_
      refine r_aload_n C dX8_stoppedBehind_38 rfl ?_
      refine r_getI C flX8_127 dX8_stoppedBehind_39 hc4 rfl ?_
      rw [rt]
      refine b_icgt C (tgt := 93) rfl rfl dX8_stoppedBehind_42 rfl (fun h42_1 => ?_) (fun h42_1 => ?_)
      · exact fin _ _ _ hg hF h2
      · exfalso; omega
    | succ m ih =>
      intro k I' hm hF h2 hg
      have rt : I' t = I t := hF t (fun z => (List.mem_cons.mp z).elim ht2 htT)
      have r16 : I' 16 = I 16 := hF 16 (by decide)
      have ink : (nI k).toInt = (k : Int) := nIint (by omega)
      have e1 : (I 16 2 + nI k).toInt = (I 16 2).toInt + k := by rw [tI_add (by omega) (by omega), ink]
      obtain ⟨I1, hI1⟩ : ∃ z, z = u2 I' 2 (8 * j + 7) (I 16 2 + nI k) := ⟨_, rfl⟩
      have f1 : ∀ c, c ≠ 2 → I1 c = I' c := fun c hc => by rw [hI1]; exact u2_row hc
      have hF1 : Fr (2 :: [32, 33, 34, 35, 36, 37, 14, 15]) I I1 := by rw [hI1]; exact hF.st (by simp)
      have h21 : ∀ q, q ≠ 8 * j + 7 → I1 2 q = I 2 q := fun q hq => by rw [hI1, u2_ne _ _ _ _ (Or.inr hq)]; exact h2 q hq
      have row : I1 2 = (u2 I 2 (8 * j + 7) (I 16 2 + nI k)) 2 := by
        funext q
        rw [u2_2]
        by_cases e : q = 8 * j + 7
        · rw [e]; show I1 2 _ = if _ then _ else _; rw [if_pos rfl, hI1, u2_same]
        · show I1 2 q = if _ then _ else _; rw [if_neg e]; exact h21 q e
      have hNW1 : NW (I1 1 1) (I1 2) := by
        rw [hF1 1 (by decide), row, u2_2]
        exact NW_upd hNW (by omega) (Or.inr (Or.inr (Or.inr ⟨rfl, by omega, by omega⟩)))
      have hTW1 : TW I1 b := TW_rows (fun c hc => hF1 c (by revert hc; revert c; decide)) hTW
      have hg1 : gv I1 16 = gv I 16 := gv_rows (fun c hc => hF1 c (by revert hc; revert c; decide))
      have hen1 : en I1 b = en (u2 I 2 (8 * j + 7) (I 16 2 + nI k)) b := en_rows (fun c hc => by
        by_cases e : c = 2
        · rw [e]; exact row
        · rw [u2_row e]; exact hF1 c (fun z => (List.mem_cons.mp z).elim e ((by decide : ∀ c, c ∈ [1, 2, 5, 6, 7, 8, 10, 11, 12, 13] → c ∉ [32, 33, 34, 35, 36, 37, 14, 15]) c hc)))
      have out : ∀ (x6 : Int32) (I2 : Is), Fr (2 :: [32, 33, 34, 35, 36, 37, 14, 15]) I I2 → (∀ q, q ≠ 8 * j + 7 → I2 2 q = I 2 q) → True → nI k = sbkF (stpF I J b t n j) (n + 1) 0 → Aw X 36 [some (.ref 28), some (.ref t), some (.int (nI j)), some (.int p), some (.int (I 2 (8 * j + 7))), some (.int (nI k)), some (.int x6)] [] (st9 I2 J b) := by
        intro x6 I2 hF2 h22 _ hg2
        refine r_iload C dX8_stoppedBehind_36 rfl ?_
        refine r_aload_n C dX8_stoppedBehind_38 rfl ?_
        refine r_getI C flX8_127 dX8_stoppedBehind_39 hc4 rfl ?_
        refine b_icgt C (tgt := 93) rfl rfl dX8_stoppedBehind_42 rfl (fun h42_1 => ?_) (fun h42_1 => ?_)
        · exact fin _ _ _ hg2 hF2 h22
        · refine r_iload C dX8_stoppedBehind_45 rfl ?_
          refine r_bipush C (v := -2) dX8_stoppedBehind_47 (by decide) ?_
          refine r_icne C (tgt := 93) dX8_stoppedBehind_49 rfl (fun h49_2 => ?_) (fun h49_2 => ?_)
          · exact fin _ _ _ hg2 hF2 h22
          · exfalso; exact m2_ne k (by omega) (by assumption)
      refine r_iload C dX8_stoppedBehind_36 rfl ?_
      refine r_aload_n C dX8_stoppedBehind_38 rfl ?_
      refine r_getI C flX8_127 dX8_stoppedBehind_39 hc4 rfl ?_
      rw [rt]
      refine b_icgt C (tgt := 93) rfl rfl dX8_stoppedBehind_42 rfl (fun h42_1 => ?_) (fun h42_1 => ?_)
      · exfalso; omega
      · refine r_iload C dX8_stoppedBehind_45 rfl ?_
        refine r_bipush C (v := -2) dX8_stoppedBehind_47 (by decide) ?_
        refine r_icne C (tgt := 93) dX8_stoppedBehind_49 rfl (fun h49_2 => ?_) (fun h49_2 => ?_)
        · exfalso; first | omega | (exact (by assumption : ¬ (-2 : Int32) = -2) rfl)
        · refine r_aload_n C dX8_stoppedBehind_52 rfl ?_
          refine r_getR C flX8_21 dX8_stoppedBehind_53 rfl rfl rfl ?_
          refine r_getR C flX8_95 dX8_stoppedBehind_56 rfl rfl rfl ?_
          refine r_iload_n C dX8_stoppedBehind_59 rfl ?_
          refine r_aload_n C dX8_stoppedBehind_60 rfl ?_
          refine r_getR C flX8_25 dX8_stoppedBehind_61 rfl rfl rfl ?_
          refine r_getI C flX8_124 dX8_stoppedBehind_64 rfl rfl ?_
          refine r_iload C dX8_stoppedBehind_67 rfl ?_
          rw [r16]
          refine r_iadd C dX8_stoppedBehind_69 ?_
          refine r_iast C rfl dX8_stoppedBehind_70 hpv ?_
          rw [hip, ← hI1]
          refine r_aload_n C dX8_stoppedBehind_71 rfl ?_
          refine r_aload_n C dX8_stoppedBehind_72 rfl ?_
          refine r_bipush C (v := 7) dX8_stoppedBehind_73 (by decide) ?_
          refine cV (ci := 8) C hx (sX8_firstUnlike (d := d - 1) (by omega) t ht 7 n I1 J b (by rw [hF1 t (fun z => (List.mem_cons.mp z).elim ht2 htT)]; exact hn) hn9 hNW1 hTW1 (by rw [hg1]; exact hv)) moX8_firstUnlike mlX8_136 miX8_firstUnlike msX8_firstUnlike dX8_stoppedBehind_75 rfl rfl rfl rfl rfl (by omega) rfl rfl (ki (fun v_75_3 I_75_3 q_75_3 => ?_))
          have hq := q_75_3
          rw [hen1, hg1] at hq
          have hu : v_75_3 = stpF I J b t n j k := hq.1
          rw [hu]
          have hF2 : Fr (2 :: [32, 33, 34, 35, 36, 37, 14, 15]) I I_75_3 := hF1.tr hq.2 (fun _ h => h) (fun _ h => List.mem_cons_of_mem _ h)
          have h22 : ∀ q, q ≠ 8 * j + 7 → I_75_3 2 q = I 2 q := fun q hqq => by rw [hq.2 2 (by decide)]; exact h21 q hqq
          refine r_bipush C (v := -2) dX8_stoppedBehind_78 (by decide) ?_
          refine r_icne C (tgt := 87) dX8_stoppedBehind_80 rfl (fun h80_4 => ?_) (fun h80_4 => ?_)
          · refine r_iinc C (v := 1) dX8_stoppedBehind_87 rfl (by decide) rfl ?_
            refine r_goto C (tgt := 36) dX8_stoppedBehind_90 rfl ?_
            rw [show sbkF (stpF I J b t n j) (m + 1) k = sbkF (stpF I J b t n j) m (k + 1) from if_neg (by assumption)] at hg
            rw [nI_s]
            exact ih (k + 1) _ (by omega) hF2 h22 hg
          · refine r_iload C dX8_stoppedBehind_83 rfl ?_
            refine r_istore C dX8_stoppedBehind_85 rfl rfl ?_
            refine r_iinc C (v := 1) dX8_stoppedBehind_87 rfl (by decide) rfl ?_
            refine r_goto C (tgt := 36) dX8_stoppedBehind_90 rfl ?_
            rw [show sbkF (stpF I J b t n j) (m + 1) k = nI k from if_pos (by assumption)] at hg
            rw [nI_s]
            exact out (nI (k + 1)) _ hF2 h22 trivial hg
  refine r_aload_n C dX8_stoppedBehind_0 rfl ?_
  refine r_getR C flX8_21 dX8_stoppedBehind_1 rfl rfl rfl ?_
  refine r_iload_n C dX8_stoppedBehind_4 rfl ?_
  refine r_bipush C (v := 7) dX8_stoppedBehind_5 (by decide) ?_
  refine cV (ci := 3) C hx (sX3_place (d := d - 1) (by omega) _ _ I J b) moX3_place mlX8_89 miX3_place msX3_place dX8_stoppedBehind_7 rfl rfl rfl rfl rfl (by omega) rfl rfl (kp ?_)
  rw [hpl]
  refine r_istore_n C dX8_stoppedBehind_10 rfl rfl ?_
  refine r_iload_n C dX8_stoppedBehind_11 rfl ?_
  refine b_ifge C (tgt := 18) dX8_stoppedBehind_12 rfl (fun h12_2 => ?_) (fun h12_2 => ?_)
  · refine r_aload_n C dX8_stoppedBehind_18 rfl ?_
    refine r_getR C flX8_21 dX8_stoppedBehind_19 rfl rfl rfl ?_
    refine r_getR C flX8_95 dX8_stoppedBehind_22 rfl rfl rfl ?_
    refine r_iload_n C dX8_stoppedBehind_25 rfl ?_
    refine r_iald C rfl dX8_stoppedBehind_26 hpv ?_
    rw [hip]
    refine r_istore C dX8_stoppedBehind_27 rfl rfl ?_
    refine r_bipush C (v := -2) dX8_stoppedBehind_29 (by decide) ?_
    refine r_istore C dX8_stoppedBehind_31 rfl rfl ?_
    refine r_iconst C (v := 0) dX8_stoppedBehind_33 (by decide) ?_
    refine r_istore C dX8_stoppedBehind_34 rfl rfl ?_
    exact loop (n + 1) 0 I rfl Fr.rf (fun _ _ => rfl) rfl
  · exfalso; omega
