theorem TP_end {u : Nat} (hu : u = 5 ∨ u = 10) {I : Is} (q : Int32) (h : TP u I) : TP u (endF u I q) := by
  unfold endF
  split
  · have e1 : u2 (u2 (u2 I (u + 2) (ix (I u 4)) (I u 3)) (u + 3) (ix (I u 4)) q) u 4 (I u 4 + 1) 3 = I 3 := by rw [u2_row (by omega), u2_row (by omega), u2_row (by omega)]
    have e2 : u2 (u2 (u2 I (u + 2) (ix (I u 4)) (I u 3)) (u + 3) (ix (I u 4)) q) u 4 (I u 4 + 1) u 4 = I u 4 + 1 := u2_same ..
    have e3 : u2 (u2 (u2 I (u + 2) (ix (I u 4)) (I u 3)) (u + 3) (ix (I u 4)) q) u 4 (I u 4 + 1) u 3 = I u 3 := by rw [u2_ne _ _ _ _ (Or.inr (by decide)), u2_row (by omega), u2_row (by omega)]
    have e4 : (I u 4 + 1).toInt = (I u 4).toInt + 1 := by
      have := h.2.2
      rw [tI_add (by rw [one_int]; omega) (by rw [one_int]; omega), one_int]
    unfold TP
    rw [e1, e2, e3, e4]
    obtain ⟨a, b, c, d⟩ := h
    exact ⟨a, b, by omega, by omega⟩
  · exact h
/-- a line: what is asked, if it is, and what is wanted -/
def lineF (u : Nat) (I : Is) : Bool × Is :=
  if (jnF u (oneF u 6) 5 I).1 = true then
    (if nxF (jnF u (oneF u 6) 5 I).2 = 63 then
      (if (jnF u (oneF u 6) 5 (endF u (goP (jnF u (oneF u 6) 5 I).2) 1)).1 = true then (true, endF u (jnF u (oneF u 6) 5 (endF u (goP (jnF u (oneF u 6) 5 I).2) 1)).2 0) else (false, (jnF u (oneF u 6) 5 (endF u (goP (jnF u (oneF u 6) 5 I).2) 1)).2))
    else (true, endF u (jnF u (oneF u 6) 5 I).2 0))
  else (false, (jnF u (oneF u 6) 5 I).2)
/-- lines till the tape's end: the place of the fault or -1 -/
def rdF (u : Nat) : Nat → Is → Int32 × Is
  | 0, I => (I 3 3, I)
  | n + 1, I => if (lineF u I).1 = true then (if ((lineF u I).2 3 1).toInt ≤ ((lineF u I).2 3 3).toInt then (-1, (lineF u I).2) else if nxF (lineF u I).2 = 59 then rdF u n (goP (lineF u I).2) else ((lineF u I).2 3 3, (lineF u I).2)) else ((lineF u I).2 3 3, (lineF u I).2)
set_option maxRecDepth 100000 in
set_option maxHeartbeats 400000 in
theorem sX6_readLine_5 {g : Gb} {d : Nat} (hd : 58 ≤ d) (I : Is) (J : Js) (hT : TP 5 I) : MC9 g d mX6_readLine [.ref 3] I J false (Qi J false (fun v I' => v = bI ((lineF 5 I).1 = true) ∧ I' = (lineF 5 I).2 ∧ TP 5 I')) := by
  refine ent9 (own := RX6) rfl rfl rfl (fun X hg hx C Z => ?_)
  subst hg
  obtain ⟨l, hl⟩ : ∃ l, lineF 5 I = l := ⟨_, rfl⟩
  rw [hl] at Z
  unfold lineF at hl
  obtain ⟨r, hr⟩ : ∃ r, jnF 5 (oneF 5 6) 5 I = r := ⟨_, rfl⟩
  rw [hr] at hl
  obtain ⟨s, hs⟩ : ∃ s, jnF 5 (oneF 5 6) 5 (endF 5 (goP r.2) 1) = s := ⟨_, rfl⟩
  rw [hs] at hl
  refine r_aload_n C dX6_readLine_0 rfl ?_
  refine r_iconst C (v := 0) dX6_readLine_1 (by decide) ?_
  refine r_iconst C (v := 0) dX6_readLine_2 (by decide) ?_
  refine cV (ci := 6) C hx (sX6_readJoined_5 6 (sX6_readOne_5 6 (by decide)) 5 (by decide) (d - 1) (by omega) 0 0 (by decide) (by decide) I J hT) moX6_readJoined mlX6_42 miX6_readJoined msX6_readJoined dX6_readLine_3 rfl rfl rfl rfl rfl (by omega) rfl rfl (ki (fun v_3_1 I_3_1 q_3_1 => ?_))
  rw [hr] at q_3_1
  obtain ⟨rfl, rfl, hT2⟩ := q_3_1
  refine z_ifne C (tgt := 11) dX6_readLine_6 rfl (fun h6_2 => ?_) (fun h6_2 => ?_)
  · refine r_aload_n C dX6_readLine_11 rfl ?_
    refine r_bipush C (v := 63) dX6_readLine_12 (by decide) ?_
    refine cV (ci := 6) C hx (sX6_passes (d := d - 1) (by omega) 63 r.2 J false hT2.1.1 hT2.1.2.2) moX6_passes mlX6_34 miX6_passes msX6_passes dX6_readLine_14 rfl rfl rfl rfl rfl (by omega) rfl rfl (ki (fun v_14_3 I_14_3 q_14_3 => ?_))
    obtain ⟨rfl, rfl⟩ := q_14_3
    refine z_ifne C (tgt := 30) dX6_readLine_17 rfl (fun h17_4 => ?_) (fun h17_4 => ?_)
    · rw [if_pos (‹nxF r.2 = 63›)]
      refine r_aload_n C dX6_readLine_30 rfl ?_
      refine r_getR C flX6_16 dX6_readLine_31 rfl rfl rfl ?_
      refine r_iconst C (v := 1) dX6_readLine_34 (by decide) ?_
      refine cV (ci := 7) C hx (sX7_endPart_5_1 (d := d - 1) (by omega) (goP r.2) J false (TP_go (by decide : (5 : Nat) = 5 ∨ (5 : Nat) = 10) hT2 (nx_lt (fun e => absurd (e.symm.trans (‹nxF r.2 = 63›)) (by decide)))).2.2.1) moX7_endPart mlX6_46 miX7_endPart msX7_endPart dX6_readLine_35 rfl rfl rfl rfl rfl (by omega) rfl rfl (kv (fun I_35_5 q_35_5 => ?_))
      obtain rfl := q_35_5
      have hT3 := TP_end (by decide : (5 : Nat) = 5 ∨ (5 : Nat) = 10) 1 (TP_go (by decide : (5 : Nat) = 5 ∨ (5 : Nat) = 10) hT2 (nx_lt (fun e => absurd (e.symm.trans (‹nxF r.2 = 63›)) (by decide))))
      refine r_aload_n C dX6_readLine_38 rfl ?_
      refine r_iconst C (v := 0) dX6_readLine_39 (by decide) ?_
      refine r_iconst C (v := 0) dX6_readLine_40 (by decide) ?_
      refine cV (ci := 6) C hx (sX6_readJoined_5 6 (sX6_readOne_5 6 (by decide)) 5 (by decide) (d - 1) (by omega) 0 0 (by decide) (by decide) (endF 5 (goP r.2) 1) J hT3) moX6_readJoined mlX6_42 miX6_readJoined msX6_readJoined dX6_readLine_41 rfl rfl rfl rfl rfl (by omega) rfl rfl (ki (fun v_41_6 I_41_6 q_41_6 => ?_))
      rw [hs] at q_41_6
      obtain ⟨rfl, rfl, hT4⟩ := q_41_6
      refine z_ifne C (tgt := 49) dX6_readLine_44 rfl (fun h44_7 => ?_) (fun h44_7 => ?_)
      · refine r_aload_n C dX6_readLine_49 rfl ?_
        refine r_getR C flX6_16 dX6_readLine_50 rfl rfl rfl ?_
        refine r_iconst C (v := 0) dX6_readLine_53 (by decide) ?_
        refine cV (ci := 7) C hx (sX7_endPart_5_0 (d := d - 1) (by omega) s.2 J false hT4.2.2.1) moX7_endPart mlX6_46 miX7_endPart msX7_endPart dX6_readLine_54 rfl rfl rfl rfl rfl (by omega) rfl rfl (kv (fun I_54_8 q_54_8 => ?_))
        obtain rfl := q_54_8
        refine r_iconst C (v := 1) dX6_readLine_57 (by decide) ?_
        exact riz C Z dX6_readLine_58 rfl ⟨by rw [← hl, if_pos (‹r.1 = true›), if_pos (‹nxF r.2 = 63›), if_pos (‹s.1 = true›)]; exact (bI_t rfl).symm, by rw [← hl, if_pos (‹r.1 = true›), if_pos (‹nxF r.2 = 63›), if_pos (‹s.1 = true›)], TP_end (by decide : (5 : Nat) = 5 ∨ (5 : Nat) = 10) 0 hT4⟩
      · refine r_iconst C (v := 0) dX6_readLine_47 (by decide) ?_
        exact riz C Z dX6_readLine_48 rfl ⟨by rw [← hl, if_pos (‹r.1 = true›), if_pos (‹nxF r.2 = 63›), if_neg (‹¬ s.1 = true›)]; exact (bI_f Bool.false_ne_true).symm, by rw [← hl, if_pos (‹r.1 = true›), if_pos (‹nxF r.2 = 63›), if_neg (‹¬ s.1 = true›)], hT4⟩
    · rw [if_neg (‹¬ nxF r.2 = 63›)]
      refine r_aload_n C dX6_readLine_20 rfl ?_
      refine r_getR C flX6_16 dX6_readLine_21 rfl rfl rfl ?_
      refine r_iconst C (v := 0) dX6_readLine_24 (by decide) ?_
      refine cV (ci := 7) C hx (sX7_endPart_5_0 (d := d - 1) (by omega) r.2 J false hT2.2.2.1) moX7_endPart mlX6_46 miX7_endPart msX7_endPart dX6_readLine_25 rfl rfl rfl rfl rfl (by omega) rfl rfl (kv (fun I_25_9 q_25_9 => ?_))
      obtain rfl := q_25_9
      refine r_iconst C (v := 1) dX6_readLine_28 (by decide) ?_
      exact riz C Z dX6_readLine_29 rfl ⟨by rw [← hl, if_pos (by assumption), if_neg (‹¬ nxF r.2 = 63›)]; exact (bI_t rfl).symm, by rw [← hl, if_pos (by assumption), if_neg (‹¬ nxF r.2 = 63›)], TP_end (by decide : (5 : Nat) = 5 ∨ (5 : Nat) = 10) 0 hT2⟩
  · refine r_iconst C (v := 0) dX6_readLine_9 (by decide) ?_
    exact riz C Z dX6_readLine_10 rfl ⟨by rw [← hl, if_neg (by assumption)]; exact (bI_f Bool.false_ne_true).symm, by rw [← hl, if_neg (by assumption)], hT2⟩
set_option maxRecDepth 100000 in
set_option maxHeartbeats 400000 in
theorem sX6_read_5 {g : Gb} {d : Nat} (hd : 59 ≤ d) (I : Is) (J : Js) (hL : 0 ≤ (I 3 1).toInt ∧ (I 3 1).toInt ≤ 120) : MC9 g d mX6_read [.ref 3] I J false (Qi J false (fun v I' => v = (rdF 5 121 (clrF 5 (u2 I 3 3 0))).1 ∧ I' = (rdF 5 121 (clrF 5 (u2 I 3 3 0))).2 ∧ TP 5 I')) := by
  refine ent9 (own := RX6) rfl rfl rfl (fun X hg hx C Z => ?_)
  subst hg
  obtain ⟨l, hl⟩ : ∃ l, rdF 5 121 (clrF 5 (u2 I 3 3 0)) = l := ⟨_, rfl⟩
  rw [hl] at Z
  have loop : ∀ (n i : Nat) (I0 : Is), n + i = 121 → rdF 5 n I0 = l → TP 5 I0 → Aw X 14 [some (.ref 3), some (.int (nI i))] [] (st9 I0 J false) := by
    intro n
    induction n with
    | zero =>
      intro i I0 hm hg hT0
      have ini : (nI i).toInt = (i : Int) := nIint (by omega)
      refine r_iload_n C dX6_read_14 rfl ?_
      refine r_bipush C (v := 120) dX6_read_15 (by decide) ?_
      refine b_icgt C (tgt := 65) (my := 120) rfl rfl dX6_read_17 rfl (fun h17_1 => ?_) (fun h17_1 => ?_)
      · refine r_aload_n C dX6_read_65 rfl ?_
        refine r_getI C flX6_24 dX6_read_66 rfl rfl ?_
        exact ri C Z dX6_read_69 ⟨by rw [← hg]; rfl, by rw [← hg]; rfl, hT0⟩
      · exfalso; omega
    | succ n ih =>
      intro i I0 hm hg hT0
      have ini : (nI i).toInt = (i : Int) := nIint (by omega)
      have hst : rdF 5 (n + 1) I0 = if (lineF 5 I0).1 = true then (if ((lineF 5 I0).2 3 1).toInt ≤ ((lineF 5 I0).2 3 3).toInt then (-1, (lineF 5 I0).2) else if nxF (lineF 5 I0).2 = 59 then rdF 5 n (goP (lineF 5 I0).2) else ((lineF 5 I0).2 3 3, (lineF 5 I0).2)) else ((lineF 5 I0).2 3 3, (lineF 5 I0).2) := rfl
      rw [hst] at hg
      clear hst
      obtain ⟨r, hr⟩ : ∃ r, lineF 5 I0 = r := ⟨_, rfl⟩
      rw [hr] at hg
      refine r_iload_n C dX6_read_14 rfl ?_
      refine r_bipush C (v := 120) dX6_read_15 (by decide) ?_
      refine b_icgt C (tgt := 65) (my := 120) rfl rfl dX6_read_17 rfl (fun h17_1 => ?_) (fun h17_1 => ?_)
      · exfalso; omega
      · refine r_aload_n C dX6_read_20 rfl ?_
        refine cV (ci := 6) C hx (sX6_readLine_5 (d := d - 1) (by omega) I0 J hT0) moX6_readLine mlX6_30 miX6_readLine msX6_readLine dX6_read_21 rfl rfl rfl rfl rfl (by omega) rfl rfl (ki (fun v_21_2 I_21_2 q_21_2 => ?_))
        rw [hr] at q_21_2
        obtain ⟨rfl, rfl, hT2⟩ := q_21_2
        refine z_ifne C (tgt := 32) dX6_read_24 rfl (fun h24_3 => ?_) (fun h24_3 => ?_)
        · refine r_aload_n C dX6_read_32 rfl ?_
          refine r_getI C flX6_24 dX6_read_33 rfl rfl ?_
          refine r_aload_n C dX6_read_36 rfl ?_
          refine r_getI C flX6_20 dX6_read_37 rfl rfl ?_
          refine b_iclt C (tgt := 45) rfl rfl dX6_read_40 rfl (fun h40_4 => ?_) (fun h40_4 => ?_)
          · refine r_aload_n C dX6_read_45 rfl ?_
            refine r_bipush C (v := 59) dX6_read_46 (by decide) ?_
            refine cV (ci := 6) C hx (sX6_passes (d := d - 1) (by omega) 59 r.2 J false hT2.1.1 hT2.1.2.2) moX6_passes mlX6_34 miX6_passes msX6_passes dX6_read_48 rfl rfl rfl rfl rfl (by omega) rfl rfl (ki (fun v_48_5 I_48_5 q_48_5 => ?_))
            obtain ⟨rfl, rfl⟩ := q_48_5
            refine z_ifne C (tgt := 59) dX6_read_51 rfl (fun h51_6 => ?_) (fun h51_6 => ?_)
            · rw [if_pos (‹nxF r.2 = 59›)]
              refine r_iinc C (v := 1) dX6_read_59 rfl (by decide) rfl ?_
              refine r_goto C (tgt := 14) dX6_read_62 rfl ?_
              rw [nI_s]
              exact ih (i + 1) _ (by omega) (((if_pos (‹r.1 = true›)).trans ((if_neg (by omega)).trans (if_pos (‹nxF r.2 = 59›)))).symm.trans hg) (TP_go (by decide : (5 : Nat) = 5 ∨ (5 : Nat) = 10) hT2 (by omega))
            · rw [if_neg (‹¬ nxF r.2 = 59›)]
              refine r_aload_n C dX6_read_54 rfl ?_
              refine r_getI C flX6_24 dX6_read_55 rfl rfl ?_
              exact ri C Z dX6_read_58 ⟨by rw [← hg, if_pos (‹r.1 = true›), if_neg (by omega), if_neg (‹¬ nxF r.2 = 59›)], by rw [← hg, if_pos (‹r.1 = true›), if_neg (by omega), if_neg (‹¬ nxF r.2 = 59›)], hT2⟩
          · refine r_iconst C (v := -1) dX6_read_43 (by decide) ?_
            exact ri C Z dX6_read_44 ⟨by rw [← hg, if_pos (by assumption), if_pos (by omega)], by rw [← hg, if_pos (by assumption), if_pos (by omega)], hT2⟩
        · refine r_aload_n C dX6_read_27 rfl ?_
          refine r_getI C flX6_24 dX6_read_28 rfl rfl ?_
          exact ri C Z dX6_read_31 ⟨by rw [← hg, if_neg (by assumption)], by rw [← hg, if_neg (by assumption)], hT2⟩
  refine r_aload_n C dX6_read_0 rfl ?_
  refine r_iconst C (v := 0) dX6_read_1 (by decide) ?_
  refine r_putI C flX6_24 dX6_read_2 rfl rfl rfl rfl rfl ?_
  refine r_aload_n C dX6_read_5 rfl ?_
  refine r_getR C flX6_16 dX6_read_6 rfl rfl rfl ?_
  refine cV (ci := 7) C hx (sX7_clear_5 (d := d - 1) (by omega) (u2 I 3 3 0) J false) moX7_clear mlX6_27 miX7_clear msX7_clear dX6_read_9 rfl rfl rfl rfl rfl (by omega) rfl rfl (kv (fun I_9_1 q_9_1 => ?_))
  obtain rfl := q_9_1
  refine r_iconst C (v := 0) dX6_read_12 (by decide) ?_
  refine r_istore_n C dX6_read_13 rfl rfl ?_
  have e1 : clrF 5 (u2 I 3 3 0) 3 = u2 I 3 3 0 3 := by unfold clrF; rw [u2_row (by decide), u2_row (by decide)]
  have e2 : u2 I 3 3 0 3 1 = I 3 1 := u2_ne _ _ _ _ (Or.inr (by decide))
  have e3 : u2 I 3 3 0 3 3 = 0 := u2_same ..
  have e4 : clrF 5 (u2 I 3 3 0) 5 4 = 0 := u2_same ..
  have e5 : clrF 5 (u2 I 3 3 0) 5 3 = 0 := (u2_ne _ _ _ _ (Or.inr (by decide))).trans (u2_same ..)
  exact loop 121 0 _ rfl hl (by unfold TP; rw [e1, e2, e3, e4, e5]; exact ⟨⟨by decide, hL.1, hL.2⟩, by decide, by decide⟩)
set_option maxRecDepth 100000 in
set_option maxHeartbeats 400000 in
theorem sX6_readLine_10 {g : Gb} {d : Nat} (hd : 58 ≤ d) (I : Is) (J : Js) (hT : TP 10 I) : MC9 g d mX6_readLine [.ref 3] I J true (Qi J true (fun v I' => v = bI ((lineF 10 I).1 = true) ∧ I' = (lineF 10 I).2 ∧ TP 10 I')) := by
  refine ent9 (own := RX6) rfl rfl rfl (fun X hg hx C Z => ?_)
  subst hg
  obtain ⟨l, hl⟩ : ∃ l, lineF 10 I = l := ⟨_, rfl⟩
  rw [hl] at Z
  unfold lineF at hl
  obtain ⟨r, hr⟩ : ∃ r, jnF 10 (oneF 10 6) 5 I = r := ⟨_, rfl⟩
  rw [hr] at hl
  obtain ⟨s, hs⟩ : ∃ s, jnF 10 (oneF 10 6) 5 (endF 10 (goP r.2) 1) = s := ⟨_, rfl⟩
  rw [hs] at hl
  refine r_aload_n C dX6_readLine_0 rfl ?_
  refine r_iconst C (v := 0) dX6_readLine_1 (by decide) ?_
  refine r_iconst C (v := 0) dX6_readLine_2 (by decide) ?_
  refine cV (ci := 6) C hx (sX6_readJoined_10 6 (sX6_readOne_10 6 (by decide)) 5 (by decide) (d - 1) (by omega) 0 0 (by decide) (by decide) I J hT) moX6_readJoined mlX6_42 miX6_readJoined msX6_readJoined dX6_readLine_3 rfl rfl rfl rfl rfl (by omega) rfl rfl (ki (fun v_3_1 I_3_1 q_3_1 => ?_))
  rw [hr] at q_3_1
  obtain ⟨rfl, rfl, hT2⟩ := q_3_1
  refine z_ifne C (tgt := 11) dX6_readLine_6 rfl (fun h6_2 => ?_) (fun h6_2 => ?_)
  · refine r_aload_n C dX6_readLine_11 rfl ?_
    refine r_bipush C (v := 63) dX6_readLine_12 (by decide) ?_
    refine cV (ci := 6) C hx (sX6_passes (d := d - 1) (by omega) 63 r.2 J true hT2.1.1 hT2.1.2.2) moX6_passes mlX6_34 miX6_passes msX6_passes dX6_readLine_14 rfl rfl rfl rfl rfl (by omega) rfl rfl (ki (fun v_14_3 I_14_3 q_14_3 => ?_))
    obtain ⟨rfl, rfl⟩ := q_14_3
    refine z_ifne C (tgt := 30) dX6_readLine_17 rfl (fun h17_4 => ?_) (fun h17_4 => ?_)
    · rw [if_pos (‹nxF r.2 = 63›)]
      refine r_aload_n C dX6_readLine_30 rfl ?_
      refine r_getR C flX6_16 dX6_readLine_31 rfl rfl rfl ?_
      refine r_iconst C (v := 1) dX6_readLine_34 (by decide) ?_
      refine cV (ci := 7) C hx (sX7_endPart_10_1 (d := d - 1) (by omega) (goP r.2) J true (TP_go (by decide : (10 : Nat) = 5 ∨ (10 : Nat) = 10) hT2 (nx_lt (fun e => absurd (e.symm.trans (‹nxF r.2 = 63›)) (by decide)))).2.2.1) moX7_endPart mlX6_46 miX7_endPart msX7_endPart dX6_readLine_35 rfl rfl rfl rfl rfl (by omega) rfl rfl (kv (fun I_35_5 q_35_5 => ?_))
      obtain rfl := q_35_5
      have hT3 := TP_end (by decide : (10 : Nat) = 5 ∨ (10 : Nat) = 10) 1 (TP_go (by decide : (10 : Nat) = 5 ∨ (10 : Nat) = 10) hT2 (nx_lt (fun e => absurd (e.symm.trans (‹nxF r.2 = 63›)) (by decide))))
      refine r_aload_n C dX6_readLine_38 rfl ?_
      refine r_iconst C (v := 0) dX6_readLine_39 (by decide) ?_
      refine r_iconst C (v := 0) dX6_readLine_40 (by decide) ?_
      refine cV (ci := 6) C hx (sX6_readJoined_10 6 (sX6_readOne_10 6 (by decide)) 5 (by decide) (d - 1) (by omega) 0 0 (by decide) (by decide) (endF 10 (goP r.2) 1) J hT3) moX6_readJoined mlX6_42 miX6_readJoined msX6_readJoined dX6_readLine_41 rfl rfl rfl rfl rfl (by omega) rfl rfl (ki (fun v_41_6 I_41_6 q_41_6 => ?_))
      rw [hs] at q_41_6
      obtain ⟨rfl, rfl, hT4⟩ := q_41_6
      refine z_ifne C (tgt := 49) dX6_readLine_44 rfl (fun h44_7 => ?_) (fun h44_7 => ?_)
      · refine r_aload_n C dX6_readLine_49 rfl ?_
        refine r_getR C flX6_16 dX6_readLine_50 rfl rfl rfl ?_
        refine r_iconst C (v := 0) dX6_readLine_53 (by decide) ?_
        refine cV (ci := 7) C hx (sX7_endPart_10_0 (d := d - 1) (by omega) s.2 J true hT4.2.2.1) moX7_endPart mlX6_46 miX7_endPart msX7_endPart dX6_readLine_54 rfl rfl rfl rfl rfl (by omega) rfl rfl (kv (fun I_54_8 q_54_8 => ?_))
        obtain rfl := q_54_8
        refine r_iconst C (v := 1) dX6_readLine_57 (by decide) ?_
        exact riz C Z dX6_readLine_58 rfl ⟨by rw [← hl, if_pos (‹r.1 = true›), if_pos (‹nxF r.2 = 63›), if_pos (‹s.1 = true›)]; exact (bI_t rfl).symm, by rw [← hl, if_pos (‹r.1 = true›), if_pos (‹nxF r.2 = 63›), if_pos (‹s.1 = true›)], TP_end (by decide : (10 : Nat) = 5 ∨ (10 : Nat) = 10) 0 hT4⟩
      · refine r_iconst C (v := 0) dX6_readLine_47 (by decide) ?_
        exact riz C Z dX6_readLine_48 rfl ⟨by rw [← hl, if_pos (‹r.1 = true›), if_pos (‹nxF r.2 = 63›), if_neg (‹¬ s.1 = true›)]; exact (bI_f Bool.false_ne_true).symm, by rw [← hl, if_pos (‹r.1 = true›), if_pos (‹nxF r.2 = 63›), if_neg (‹¬ s.1 = true›)], hT4⟩
    · rw [if_neg (‹¬ nxF r.2 = 63›)]
      refine r_aload_n C dX6_readLine_20 rfl ?_
      refine r_getR C flX6_16 dX6_readLine_21 rfl rfl rfl ?_
      refine r_iconst C (v := 0) dX6_readLine_24 (by decide) ?_
      refine cV (ci := 7) C hx (sX7_endPart_10_0 (d := d - 1) (by omega) r.2 J true hT2.2.2.1) moX7_endPart mlX6_46 miX7_endPart msX7_endPart dX6_readLine_25 rfl rfl rfl rfl rfl (by omega) rfl rfl (kv (fun I_25_9 q_25_9 => ?_))
      obtain rfl := q_25_9
      refine r_iconst C (v := 1) dX6_readLine_28 (by decide) ?_
      exact riz C Z dX6_readLine_29 rfl ⟨by rw [← hl, if_pos (by assumption), if_neg (‹¬ nxF r.2 = 63›)]; exact (bI_t rfl).symm, by rw [← hl, if_pos (by assumption), if_neg (‹¬ nxF r.2 = 63›)], TP_end (by decide : (10 : Nat) = 5 ∨ (10 : Nat) = 10) 0 hT2⟩
  · refine r_iconst C (v := 0) dX6_readLine_9 (by decide) ?_
    exact riz C Z dX6_readLine_10 rfl ⟨by rw [← hl, if_neg (by assumption)]; exact (bI_f Bool.false_ne_true).symm, by rw [← hl, if_neg (by assumption)], hT2⟩
set_option maxRecDepth 100000 in
set_option maxHeartbeats 400000 in
theorem sX6_read_10 {g : Gb} {d : Nat} (hd : 59 ≤ d) (I : Is) (J : Js) (hL : 0 ≤ (I 3 1).toInt ∧ (I 3 1).toInt ≤ 120) : MC9 g d mX6_read [.ref 3] I J true (Qi J true (fun v I' => v = (rdF 10 121 (clrF 10 (u2 I 3 3 0))).1 ∧ I' = (rdF 10 121 (clrF 10 (u2 I 3 3 0))).2 ∧ TP 10 I')) := by
  refine ent9 (own := RX6) rfl rfl rfl (fun X hg hx C Z => ?_)
  subst hg
  obtain ⟨l, hl⟩ : ∃ l, rdF 10 121 (clrF 10 (u2 I 3 3 0)) = l := ⟨_, rfl⟩
  rw [hl] at Z
  have loop : ∀ (n i : Nat) (I0 : Is), n + i = 121 → rdF 10 n I0 = l → TP 10 I0 → Aw X 14 [some (.ref 3), some (.int (nI i))] [] (st9 I0 J true) := by
    intro n
    induction n with
    | zero =>
      intro i I0 hm hg hT0
      have ini : (nI i).toInt = (i : Int) := nIint (by omega)
      refine r_iload_n C dX6_read_14 rfl ?_
      refine r_bipush C (v := 120) dX6_read_15 (by decide) ?_
      refine b_icgt C (tgt := 65) (my := 120) rfl rfl dX6_read_17 rfl (fun h17_1 => ?_) (fun h17_1 => ?_)
      · refine r_aload_n C dX6_read_65 rfl ?_
        refine r_getI C flX6_24 dX6_read_66 rfl rfl ?_
        exact ri C Z dX6_read_69 ⟨by rw [← hg]; rfl, by rw [← hg]; rfl, hT0⟩
      · exfalso; omega
    | succ n ih =>
      intro i I0 hm hg hT0
      have ini : (nI i).toInt = (i : Int) := nIint (by omega)
      have hst : rdF 10 (n + 1) I0 = if (lineF 10 I0).1 = true then (if ((lineF 10 I0).2 3 1).toInt ≤ ((lineF 10 I0).2 3 3).toInt then (-1, (lineF 10 I0).2) else if nxF (lineF 10 I0).2 = 59 then rdF 10 n (goP (lineF 10 I0).2) else ((lineF 10 I0).2 3 3, (lineF 10 I0).2)) else ((lineF 10 I0).2 3 3, (lineF 10 I0).2) := rfl
      rw [hst] at hg
      clear hst
      obtain ⟨r, hr⟩ : ∃ r, lineF 10 I0 = r := ⟨_, rfl⟩
      rw [hr] at hg
      refine r_iload_n C dX6_read_14 rfl ?_
      refine r_bipush C (v := 120) dX6_read_15 (by decide) ?_
      refine b_icgt C (tgt := 65) (my := 120) rfl rfl dX6_read_17 rfl (fun h17_1 => ?_) (fun h17_1 => ?_)
      · exfalso; omega
      · refine r_aload_n C dX6_read_20 rfl ?_
        refine cV (ci := 6) C hx (sX6_readLine_10 (d := d - 1) (by omega) I0 J hT0) moX6_readLine mlX6_30 miX6_readLine msX6_readLine dX6_read_21 rfl rfl rfl rfl rfl (by omega) rfl rfl (ki (fun v_21_2 I_21_2 q_21_2 => ?_))
        rw [hr] at q_21_2
        obtain ⟨rfl, rfl, hT2⟩ := q_21_2
        refine z_ifne C (tgt := 32) dX6_read_24 rfl (fun h24_3 => ?_) (fun h24_3 => ?_)
        · refine r_aload_n C dX6_read_32 rfl ?_
          refine r_getI C flX6_24 dX6_read_33 rfl rfl ?_
          refine r_aload_n C dX6_read_36 rfl ?_
          refine r_getI C flX6_20 dX6_read_37 rfl rfl ?_
          refine b_iclt C (tgt := 45) rfl rfl dX6_read_40 rfl (fun h40_4 => ?_) (fun h40_4 => ?_)
          · refine r_aload_n C dX6_read_45 rfl ?_
            refine r_bipush C (v := 59) dX6_read_46 (by decide) ?_
            refine cV (ci := 6) C hx (sX6_passes (d := d - 1) (by omega) 59 r.2 J true hT2.1.1 hT2.1.2.2) moX6_passes mlX6_34 miX6_passes msX6_passes dX6_read_48 rfl rfl rfl rfl rfl (by omega) rfl rfl (ki (fun v_48_5 I_48_5 q_48_5 => ?_))
            obtain ⟨rfl, rfl⟩ := q_48_5
            refine z_ifne C (tgt := 59) dX6_read_51 rfl (fun h51_6 => ?_) (fun h51_6 => ?_)
            · rw [if_pos (‹nxF r.2 = 59›)]
              refine r_iinc C (v := 1) dX6_read_59 rfl (by decide) rfl ?_
              refine r_goto C (tgt := 14) dX6_read_62 rfl ?_
              rw [nI_s]
              exact ih (i + 1) _ (by omega) (((if_pos (‹r.1 = true›)).trans ((if_neg (by omega)).trans (if_pos (‹nxF r.2 = 59›)))).symm.trans hg) (TP_go (by decide : (10 : Nat) = 5 ∨ (10 : Nat) = 10) hT2 (by omega))
            · rw [if_neg (‹¬ nxF r.2 = 59›)]
              refine r_aload_n C dX6_read_54 rfl ?_
              refine r_getI C flX6_24 dX6_read_55 rfl rfl ?_
              exact ri C Z dX6_read_58 ⟨by rw [← hg, if_pos (‹r.1 = true›), if_neg (by omega), if_neg (‹¬ nxF r.2 = 59›)], by rw [← hg, if_pos (‹r.1 = true›), if_neg (by omega), if_neg (‹¬ nxF r.2 = 59›)], hT2⟩
          · refine r_iconst C (v := -1) dX6_read_43 (by decide) ?_
            exact ri C Z dX6_read_44 ⟨by rw [← hg, if_pos (by assumption), if_pos (by omega)], by rw [← hg, if_pos (by assumption), if_pos (by omega)], hT2⟩
        · refine r_aload_n C dX6_read_27 rfl ?_
          refine r_getI C flX6_24 dX6_read_28 rfl rfl ?_
          exact ri C Z dX6_read_31 ⟨by rw [← hg, if_neg (by assumption)], by rw [← hg, if_neg (by assumption)], hT2⟩
  refine r_aload_n C dX6_read_0 rfl ?_
  refine r_iconst C (v := 0) dX6_read_1 (by decide) ?_
  refine r_putI C flX6_24 dX6_read_2 rfl rfl rfl rfl rfl ?_
  refine r_aload_n C dX6_read_5 rfl ?_
  refine r_getR C flX6_16 dX6_read_6 rfl rfl rfl ?_
  refine cV (ci := 7) C hx (sX7_clear_10 (d := d - 1) (by omega) (u2 I 3 3 0) J true) moX7_clear mlX6_27 miX7_clear msX7_clear dX6_read_9 rfl rfl rfl rfl rfl (by omega) rfl rfl (kv (fun I_9_1 q_9_1 => ?_))
  obtain rfl := q_9_1
  refine r_iconst C (v := 0) dX6_read_12 (by decide) ?_
  refine r_istore_n C dX6_read_13 rfl rfl ?_
  have e1 : clrF 10 (u2 I 3 3 0) 3 = u2 I 3 3 0 3 := by unfold clrF; rw [u2_row (by decide), u2_row (by decide)]
  have e2 : u2 I 3 3 0 3 1 = I 3 1 := u2_ne _ _ _ _ (Or.inr (by decide))
  have e3 : u2 I 3 3 0 3 3 = 0 := u2_same ..
  have e4 : clrF 10 (u2 I 3 3 0) 10 4 = 0 := u2_same ..
  have e5 : clrF 10 (u2 I 3 3 0) 10 3 = 0 := (u2_ne _ _ _ _ (Or.inr (by decide))).trans (u2_same ..)
  exact loop 121 0 _ rfl hl (by unfold TP; rw [e1, e2, e3, e4, e5]; exact ⟨⟨by decide, hL.1, hL.2⟩, by decide, by decide⟩)
