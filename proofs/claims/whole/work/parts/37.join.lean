theorem nx_lt {I : Is} (h : ¬ nxF I = -1) : (I 3 3).toInt < (I 3 1).toInt := by
  by_cases c : (I 3 3).toInt < (I 3 1).toInt
  · exact c
  · exact absurd (if_neg c) h
theorem TP_go {u : Nat} (hu : u = 5 ∨ u = 10) {I : Is} (h : TP u I) (hl : (I 3 3).toInt < (I 3 1).toInt) : TP u (goP I) := by
  have e1 : goP I 3 3 = I 3 3 + 1 := u2_same ..
  have e2 : goP I 3 1 = I 3 1 := u2_ne _ _ _ _ (Or.inr (by decide))
  have e3 : goP I u = I u := u2_row (by omega)
  have e4 : (I 3 3 + 1).toInt = (I 3 3).toInt + 1 := by
    have := h.1
    rw [tI_add (by rw [one_int]; omega) (by rw [one_int]; omega), one_int]
  unfold TP
  rw [e1, e2, e3, e4]
  obtain ⟨⟨a, b, c⟩, d⟩ := h
  exact ⟨⟨by omega, by omega, c⟩, d⟩
theorem TP_add {u : Nat} (hu : u = 5 ∨ u = 10) {I : Is} (op : Int32) (h : TP u I) : TP u (addF u I op) := by
  unfold addF
  split
  · have e1 : u2 (u2 I (u + 1) (ix (I u 3)) op) u 3 (I u 3 + 1) 3 = I 3 := by rw [u2_row (by omega), u2_row (by omega)]
    have e2 : u2 (u2 I (u + 1) (ix (I u 3)) op) u 3 (I u 3 + 1) u 3 = I u 3 + 1 := u2_same ..
    have e3 : u2 (u2 I (u + 1) (ix (I u 3)) op) u 3 (I u 3 + 1) u 4 = I u 4 := by rw [u2_ne _ _ _ _ (Or.inr (by decide)), u2_row (by omega)]
    have e4 : (I u 3 + 1).toInt = (I u 3).toInt + 1 := by
      have := h.2.1
      rw [tI_add (by rw [one_int]; omega) (by rw [one_int]; omega), one_int]
    unfold TP
    rw [e1, e2, e3, e4]
    obtain ⟨a, ⟨b, c⟩, d⟩ := h
    exact ⟨a, ⟨by omega, by omega⟩, d⟩
  · exact h
theorem dg_ne {s : Int32} (h : dgF s) : ¬ s = -1 := fun e => by
  rw [e] at h
  exact absurd h (by decide)
theorem nmg_ne {s : Int32} (h : 0 ≤ (nmgF s).toInt) : ¬ s = -1 := fun e => by
  rw [e] at h
  exact absurd h (by decide)
theorem jg_ne {s r : Int32} (h : ¬ jgF s r = 0) : ¬ s = -1 := fun e => by
  rw [e] at h
  apply h
  unfold jgF
  by_cases c0 : r = 0
  · rw [if_pos c0]; decide
  rw [if_neg c0]
  by_cases c1 : r = 1
  · rw [if_pos c1]; decide
  rw [if_neg c1]
  by_cases c2 : r = 2
  · rw [if_pos c2]; decide
  rw [if_neg c2]
  by_cases c3 : r = 3
  · rw [if_pos c3]; decide
  rw [if_neg c3]; decide
/-- signs of a rank and what they join -/
def lpF (u : Nat) (sub : Is → Bool × Is) (r : Int32) : Nat → Bool → Is → Bool × Is
  | 0, q, I => (q, I)
  | n + 1, q, I => if q = true then (if jgF (nxF I) r = 0 then (true, I) else lpF u sub r n (sub (goP I)).1 (addF u (sub (goP I)).2 (jgF (nxF I) r))) else (q, I)
/-- what ranks 5 - k and behind join -/
def jnF (u : Nat) (one : Is → Bool × Is) : Nat → Is → Bool × Is
  | 0, I => one I
  | k + 1, I => lpF u (jnF u one k) (nI (4 - k)) (if k = 2 then 1 else 120) (jnF u one k I).1 (jnF u one k I).2
/-- a single one, with m more that may open -/
def oneF (u : Nat) : Nat → Is → Bool × Is
  | 0, I => if dgF (nxF I) then (true, numF u I) else if 0 ≤ (nmgF (nxF I)).toInt then (true, addF u (goP I) (-1 - nmgF (nxF I))) else (false, I)
  | m + 1, I => if dgF (nxF I) then (true, numF u I) else if 0 ≤ (nmgF (nxF I)).toInt then (true, addF u (goP I) (-1 - nmgF (nxF I)))
    else if nxF I = 40 then (if (jnF u (oneF u m) 5 (goP I)).1 = true ∧ nxF (jnF u (oneF u m) 5 (goP I)).2 = 41 then (true, goP (jnF u (oneF u m) 5 (goP I)).2) else (false, (jnF u (oneF u m) 5 (goP I)).2))
    else if nxF I = 33 then ((oneF u m (goP I)).1, addF u (oneF u m (goP I)).2 (-8))
    else if nxF I = 45 then ((oneF u m (goP I)).1, addF u (oneF u m (goP I)).2 (-7)) else (false, I)
set_option maxRecDepth 100000 in
set_option maxHeartbeats 400000 in
theorem sX6_readNumber_5 {g : Gb} {d : Nat} (hd : 2 ≤ d) (I : Is) (J : Js) (hT : TP 5 I) : MC9 g d mX6_readNumber [.ref 3] I J false (Qv J false (fun I' => I' = numF 5 I ∧ TP 5 I')) := by
  refine ent9 (own := RX6) rfl rfl rfl (fun X hg hx C Z => ?_)
  subst hg
  have loop : ∀ (m i : Nat) (v : Int32) (I0 : Is), m + i = 4 → nuF m v I0 = nuF 4 0 I → TP 5 I0 → Aw X 4 [some (.ref 3), some (.int v), some (.int (nI i))] [] (st9 I0 J false) := by
    intro m
    induction m with
    | zero =>
      intro i v I0 hm hg hT0
      have ini : (nI i).toInt = (i : Int) := nIint (by omega)
      have hv : nuF 4 0 I = (v, I0) := hg.symm
      refine r_iload_n C dX6_readNumber_4 rfl ?_
      refine r_iconst C (v := 4) dX6_readNumber_5 (by decide) ?_
      refine b_icge C (tgt := 48) (my := 4) rfl rfl dX6_readNumber_6 rfl (fun h6_1 => ?_) (fun h6_1 => ?_)
      · refine r_aload_n C dX6_readNumber_48 rfl ?_
        refine r_getR C flX6_16 dX6_readNumber_49 rfl rfl rfl ?_
        refine r_iload_n C dX6_readNumber_52 rfl ?_
        refine cV (ci := 7) C hx (sX7_add_5 (d := d - 1) (by omega) v I0 J false hT0.2.1.1) moX7_add mlX6_57 miX7_add msX7_add dX6_readNumber_53 rfl rfl rfl rfl rfl (by omega) rfl rfl (kv (fun I_53_2 q_53_2 => ?_))
        obtain rfl := q_53_2
        exact rv C Z dX6_readNumber_56 ⟨by unfold numF; rw [hv], TP_add (by decide : (5 : Nat) = 5 ∨ (5 : Nat) = 10) _ hT0⟩
      · exfalso; omega
    | succ m ih =>
      intro i v I0 hm hg hT0
      have ini : (nI i).toInt = (i : Int) := nIint (by omega)
      have hst : nuF (m + 1) v I0 = if dgF (nxF I0) then nuF m (v * 10 + nxF I0 - 48) (goP I0) else (v, I0) := rfl
      rw [hst] at hg
      refine r_iload_n C dX6_readNumber_4 rfl ?_
      refine r_iconst C (v := 4) dX6_readNumber_5 (by decide) ?_
      refine b_icge C (tgt := 48) (my := 4) rfl rfl dX6_readNumber_6 rfl (fun h6_1 => ?_) (fun h6_1 => ?_)
      · exfalso; omega
      · refine r_aload_n C dX6_readNumber_9 rfl ?_
        refine cV (ci := 6) C hx (sX6_next (d := d - 1) (by omega) I0 J false hT0.1.1 hT0.1.2.2) moX6_next mlX6_38 miX6_next msX6_next dX6_readNumber_10 rfl rfl rfl rfl rfl (by omega) rfl rfl (kp ?_)
        refine cS C hx (sX6_isDigit (d := d - 1) (by omega) _ I0 J false) moX6_isDigit mlX6_61 mtX6_isDigit dX6_readNumber_13 rfl rfl (by omega) rfl rfl (kp ?_)
        refine z_ifeq C (tgt := 48) dX6_readNumber_16 rfl (fun h16_4 => ?_) (fun h16_4 => ?_)
        · have hv : nuF 4 0 I = (v, I0) := by rw [← hg, if_neg (by assumption)]
          refine r_aload_n C dX6_readNumber_48 rfl ?_
          refine r_getR C flX6_16 dX6_readNumber_49 rfl rfl rfl ?_
          refine r_iload_n C dX6_readNumber_52 rfl ?_
          refine cV (ci := 7) C hx (sX7_add_5 (d := d - 1) (by omega) v I0 J false hT0.2.1.1) moX7_add mlX6_57 miX7_add msX7_add dX6_readNumber_53 rfl rfl rfl rfl rfl (by omega) rfl rfl (kv (fun I_53_5 q_53_5 => ?_))
          obtain rfl := q_53_5
          exact rv C Z dX6_readNumber_56 ⟨by unfold numF; rw [hv], TP_add (by decide : (5 : Nat) = 5 ∨ (5 : Nat) = 10) _ hT0⟩
        · refine r_iload_n C dX6_readNumber_19 rfl ?_
          refine r_bipush C (v := 10) dX6_readNumber_20 (by decide) ?_
          refine r_imul C dX6_readNumber_22 ?_
          refine r_aload_n C dX6_readNumber_23 rfl ?_
          refine cV (ci := 6) C hx (sX6_next (d := d - 1) (by omega) I0 J false hT0.1.1 hT0.1.2.2) moX6_next mlX6_38 miX6_next msX6_next dX6_readNumber_24 rfl rfl rfl rfl rfl (by omega) rfl rfl (kp ?_)
          refine r_iadd C dX6_readNumber_27 ?_
          refine r_bipush C (v := 48) dX6_readNumber_28 (by decide) ?_
          refine r_isub C dX6_readNumber_30 ?_
          refine r_istore_n C dX6_readNumber_31 rfl rfl ?_
          refine r_aload_n C dX6_readNumber_32 rfl ?_
          refine r_dup C dX6_readNumber_33 rfl ?_
          refine r_getI C flX6_24 dX6_readNumber_34 rfl rfl ?_
          refine r_iconst C (v := 1) dX6_readNumber_37 (by decide) ?_
          refine r_iadd C dX6_readNumber_38 ?_
          refine r_putI C flX6_24 dX6_readNumber_39 rfl rfl rfl rfl rfl ?_
          refine r_iinc C (v := 1) dX6_readNumber_42 rfl (by decide) rfl ?_
          refine r_goto C (tgt := 4) dX6_readNumber_45 rfl ?_
          rw [nI_s]
          exact ih (i + 1) _ (goP I0) (by omega) ((if_pos (by assumption)).symm.trans hg) (TP_go (by decide : (5 : Nat) = 5 ∨ (5 : Nat) = 10) hT0 (nx_lt (dg_ne (by assumption))))
  refine r_iconst C (v := 0) dX6_readNumber_0 (by decide) ?_
  refine r_istore_n C dX6_readNumber_1 rfl rfl ?_
  refine r_iconst C (v := 0) dX6_readNumber_2 (by decide) ?_
  refine r_istore_n C dX6_readNumber_3 rfl rfl ?_
  exact loop 4 0 0 I rfl rfl hT
/-- what readOne does with m more that may open -/
def OneC_5 (g : Gb) (m : Nat) : Prop := ∀ (d : Nat), 8 * m + 3 ≤ d → ∀ (op : Int32), op.toInt + m = 6 → ∀ (I : Is) (J : Js), TP 5 I → MC9 g d mX6_readOne [.ref 3, .int op] I J false (Qi J false (fun v I' => v = bI ((oneF 5 m I).1 = true) ∧ I' = (oneF 5 m I).2 ∧ TP 5 I'))
set_option maxRecDepth 100000 in
set_option maxHeartbeats 400000 in
theorem sX6_readJoined_5 {g : Gb} (m : Nat) (one : OneC_5 g m) : ∀ (k : Nat), k ≤ 5 → ∀ (d : Nat), 8 * m + 4 + k ≤ d → ∀ (rk op : Int32), rk.toInt + k = 5 → op.toInt + m = 6 → ∀ (I : Is) (J : Js), TP 5 I → MC9 g d mX6_readJoined [.ref 3, .int rk, .int op] I J false (Qi J false (fun v I' => v = bI ((jnF 5 (oneF 5 m) k I).1 = true) ∧ I' = (jnF 5 (oneF 5 m) k I).2 ∧ TP 5 I')) := by
  intro k
  induction k with
  | zero =>
    intro hk d hd rk op hrk hop I J hT
    refine ent9 (own := RX6) rfl rfl rfl (fun X hg hx C Z => ?_)
    subst hg
    refine r_iload_n C dX6_readJoined_0 rfl ?_
    refine r_iconst C (v := 5) dX6_readJoined_1 (by decide) ?_
    refine b_iclt C (tgt := 11) (my := 5) rfl rfl dX6_readJoined_2 rfl (fun h2_1 => ?_) (fun h2_1 => ?_)
    · exfalso; omega
    · refine r_aload_n C dX6_readJoined_5 rfl ?_
      refine r_iload_n C dX6_readJoined_6 rfl ?_
      refine cV (ci := 6) C hx (one (d - 1) (by omega) op hop I J hT) moX6_readOne mlX6_50 miX6_readOne msX6_readOne dX6_readJoined_7 rfl rfl rfl rfl rfl (by omega) rfl rfl (ki (fun v_7_2 I_7_2 q_7_2 => ?_))
      obtain ⟨rfl, rfl, hT2⟩ := q_7_2
      exact riz C Z dX6_readJoined_10 bI_nar ⟨rfl, rfl, hT2⟩
  | succ k ih =>
    intro hk d hd rk op hrk hop I J hT
    have hrk1 : (rk + 1).toInt + (k : Int) = 5 := by
      rw [tI_add (by rw [one_int]; omega) (by rw [one_int]; omega), one_int]; omega
    have erk : rk = nI (4 - k) := Int32.toInt_inj.mp (by rw [nIint (by omega)]; omega)
    have hst : jnF 5 (oneF 5 m) (k + 1) I = lpF 5 (jnF 5 (oneF 5 m) k) rk (if k = 2 then 1 else 120) (jnF 5 (oneF 5 m) k I).1 (jnF 5 (oneF 5 m) k I).2 := by rw [erk]; rfl
    clear erk
    refine ent9 (own := RX6) rfl rfl rfl (fun X hg hx C Z => ?_)
    subst hg
    have loop : ∀ (NN : Int32) (N : Nat), NN.toInt = (N : Int) → N ≤ 120 → ∀ (n i : Nat) (q : Bool) (I1 : Is), n + i = N → lpF 5 (jnF 5 (oneF 5 m) k) rk n q I1 = jnF 5 (oneF 5 m) (k + 1) I → TP 5 I1 → Aw X 36 [some (.ref 3), some (.int rk), some (.int op), some (.int (bI (q = true))), some (.int NN), some (.int (nI i)), none] [] (st9 I1 J false) := by
      intro NN N hNN hN n
      induction n with
      | zero =>
        intro i q I1 hm hg hT1
        have ini : (nI i).toInt = (i : Int) := nIint (by omega)
        refine r_iload C dX6_readJoined_36 rfl ?_
        refine r_iload C dX6_readJoined_38 rfl ?_
        refine b_icge C (tgt := 98) rfl rfl dX6_readJoined_40 rfl (fun h40_1 => ?_) (fun h40_1 => ?_)
        · refine r_iload_n C dX6_readJoined_98 rfl ?_
          exact riz C Z dX6_readJoined_99 bI_nar ⟨by rw [← hg]; rfl, by rw [← hg]; rfl, hT1⟩
        · exfalso; omega
      | succ n ih2 =>
        intro i q I1 hm hg hT1
        have ini : (nI i).toInt = (i : Int) := nIint (by omega)
        have hs2 : lpF 5 (jnF 5 (oneF 5 m) k) rk (n + 1) q I1 = if q = true then (if jgF (nxF I1) rk = 0 then (true, I1) else lpF 5 (jnF 5 (oneF 5 m) k) rk n (jnF 5 (oneF 5 m) k (goP I1)).1 (addF 5 (jnF 5 (oneF 5 m) k (goP I1)).2 (jgF (nxF I1) rk))) else (q, I1) := rfl
        rw [hs2] at hg
        refine r_iload C dX6_readJoined_36 rfl ?_
        refine r_iload C dX6_readJoined_38 rfl ?_
        refine b_icge C (tgt := 98) rfl rfl dX6_readJoined_40 rfl (fun h40_1 => ?_) (fun h40_1 => ?_)
        · exfalso; omega
        · refine r_iload_n C dX6_readJoined_43 rfl ?_
          refine z_ifeq C (tgt := 98) dX6_readJoined_44 rfl (fun h44_2 => ?_) (fun h44_2 => ?_)
          · refine r_iload_n C dX6_readJoined_98 rfl ?_
            exact riz C Z dX6_readJoined_99 bI_nar ⟨by rw [← hg, if_neg (by assumption)], by rw [← hg, if_neg (by assumption)], hT1⟩
          · refine r_aload_n C dX6_readJoined_47 rfl ?_
            refine cV (ci := 6) C hx (sX6_next (d := d - 1) (by omega) I1 J false hT1.1.1 hT1.1.2.2) moX6_next mlX6_38 miX6_next msX6_next dX6_readJoined_48 rfl rfl rfl rfl rfl (by omega) rfl rfl (kp ?_)
            refine r_iload_n C dX6_readJoined_51 rfl ?_
            refine cS C hx (sX6_joining (d := d - 1) (by omega) _ rk I1 J false) moX6_joining mlX6_53 mtX6_joining dX6_readJoined_52 rfl rfl (by omega) rfl rfl (kp ?_)
            refine r_istore C dX6_readJoined_55 rfl rfl ?_
            refine r_iload C dX6_readJoined_57 rfl ?_
            refine r_ifne C (tgt := 64) dX6_readJoined_59 rfl (fun h59_5 => ?_) (fun h59_5 => ?_)
            · refine r_aload_n C dX6_readJoined_64 rfl ?_
              refine r_dup C dX6_readJoined_65 rfl ?_
              refine r_getI C flX6_24 dX6_readJoined_66 rfl rfl ?_
              refine r_iconst C (v := 1) dX6_readJoined_69 (by decide) ?_
              refine r_iadd C dX6_readJoined_70 ?_
              refine r_putI C flX6_24 dX6_readJoined_71 rfl rfl rfl rfl rfl ?_
              refine r_aload_n C dX6_readJoined_74 rfl ?_
              refine r_iload_n C dX6_readJoined_75 rfl ?_
              refine r_iconst C (v := 1) dX6_readJoined_76 (by decide) ?_
              refine r_iadd C dX6_readJoined_77 ?_
              refine r_iload_n C dX6_readJoined_78 rfl ?_
              refine cV (ci := 6) C hx (ih (by omega) (d - 1) (by omega) (rk + 1) op hrk1 hop (goP I1) J (TP_go (by decide : (5 : Nat) = 5 ∨ (5 : Nat) = 10) hT1 (nx_lt (jg_ne (by assumption))))) moX6_readJoined mlX6_42 miX6_readJoined msX6_readJoined dX6_readJoined_79 rfl rfl rfl rfl rfl (by omega) rfl rfl (ki (fun v_79_6 I_79_6 q_79_6 => ?_))
              obtain ⟨rfl, rfl, hT2⟩ := q_79_6
              refine r_istore_n C dX6_readJoined_82 rfl rfl ?_
              refine r_aload_n C dX6_readJoined_83 rfl ?_
              refine r_getR C flX6_16 dX6_readJoined_84 rfl rfl rfl ?_
              refine r_iload C dX6_readJoined_87 rfl ?_
              refine cV (ci := 7) C hx (sX7_add_5 (d := d - 1) (by omega) _ _ J false hT2.2.1.1) moX7_add mlX6_57 miX7_add msX7_add dX6_readJoined_89 rfl rfl rfl rfl rfl (by omega) rfl rfl (kv (fun I_89_7 q_89_7 => ?_))
              obtain rfl := q_89_7
              refine r_iinc C (v := 1) dX6_readJoined_92 rfl (by decide) rfl ?_
              refine r_goto C (tgt := 36) dX6_readJoined_95 rfl ?_
              rw [nI_s]
              refine r_drop 6 ?_
              exact ih2 (i + 1) _ _ (by omega) (((if_pos (by assumption)).trans (if_neg (by assumption))).symm.trans hg) (TP_add (by decide : (5 : Nat) = 5 ∨ (5 : Nat) = 10) _ hT2)
            · refine r_iconst C (v := 1) dX6_readJoined_62 (by decide) ?_
              exact riz C Z dX6_readJoined_63 rfl ⟨by rw [← hg, if_pos (by assumption), if_pos (by assumption)]; exact (bI_t rfl).symm, by rw [← hg, if_pos (by assumption), if_pos (by assumption)], hT1⟩
    refine r_iload_n C dX6_readJoined_0 rfl ?_
    refine r_iconst C (v := 5) dX6_readJoined_1 (by decide) ?_
    refine b_iclt C (tgt := 11) (my := 5) rfl rfl dX6_readJoined_2 rfl (fun h2_1 => ?_) (fun h2_1 => ?_)
    · refine r_aload_n C dX6_readJoined_11 rfl ?_
      refine r_iload_n C dX6_readJoined_12 rfl ?_
      refine r_iconst C (v := 1) dX6_readJoined_13 (by decide) ?_
      refine r_iadd C dX6_readJoined_14 ?_
      refine r_iload_n C dX6_readJoined_15 rfl ?_
      refine cV (ci := 6) C hx (ih (by omega) (d - 1) (by omega) (rk + 1) op hrk1 hop I J hT) moX6_readJoined mlX6_42 miX6_readJoined msX6_readJoined dX6_readJoined_16 rfl rfl rfl rfl rfl (by omega) rfl rfl (ki (fun v_16_2 I_16_2 q_16_2 => ?_))
      obtain ⟨rfl, rfl, hT2⟩ := q_16_2
      refine r_istore_n C dX6_readJoined_19 rfl rfl ?_
      refine r_iload_n C dX6_readJoined_20 rfl ?_
      refine r_iconst C (v := 2) dX6_readJoined_21 (by decide) ?_
      refine r_icne C (tgt := 29) dX6_readJoined_22 rfl (fun h22_3 => ?_) (fun h22_3 => ?_)
      · refine r_bipush C (v := 120) dX6_readJoined_29 (by decide) ?_
        refine r_istore C dX6_readJoined_31 rfl rfl ?_
        refine r_iconst C (v := 0) dX6_readJoined_33 (by decide) ?_
        refine r_istore C dX6_readJoined_34 rfl rfl ?_
        have e2 : ¬ k = 2 := fun e => (‹¬ rk = 2›) (Int32.toInt_inj.mp (by rw [show (2 : Int32).toInt = 2 from rfl]; omega))
        exact loop 120 120 rfl (by decide) 120 0 _ _ rfl (by rw [hst, if_neg e2]) hT2
      · refine r_iconst C (v := 1) dX6_readJoined_25 (by decide) ?_
        refine r_goto C (tgt := 31) dX6_readJoined_26 rfl ?_
        refine r_istore C dX6_readJoined_31 rfl rfl ?_
        refine r_iconst C (v := 0) dX6_readJoined_33 (by decide) ?_
        refine r_istore C dX6_readJoined_34 rfl rfl ?_
        have e2 : k = 2 := by
          have e3 : rk = 2 := by assumption
          have e4 : (2 : Int32).toInt = 2 := rfl
          rw [e3, e4] at hrk; omega
        exact loop 1 1 rfl (by decide) 1 0 _ _ rfl (by rw [hst, if_pos e2]) hT2
    · exfalso; omega
set_option maxRecDepth 100000 in
set_option maxHeartbeats 400000 in
theorem sX6_readNumber_10 {g : Gb} {d : Nat} (hd : 2 ≤ d) (I : Is) (J : Js) (hT : TP 10 I) : MC9 g d mX6_readNumber [.ref 3] I J true (Qv J true (fun I' => I' = numF 10 I ∧ TP 10 I')) := by
  refine ent9 (own := RX6) rfl rfl rfl (fun X hg hx C Z => ?_)
  subst hg
  have loop : ∀ (m i : Nat) (v : Int32) (I0 : Is), m + i = 4 → nuF m v I0 = nuF 4 0 I → TP 10 I0 → Aw X 4 [some (.ref 3), some (.int v), some (.int (nI i))] [] (st9 I0 J true) := by
    intro m
    induction m with
    | zero =>
      intro i v I0 hm hg hT0
      have ini : (nI i).toInt = (i : Int) := nIint (by omega)
      have hv : nuF 4 0 I = (v, I0) := hg.symm
      refine r_iload_n C dX6_readNumber_4 rfl ?_
      refine r_iconst C (v := 4) dX6_readNumber_5 (by decide) ?_
      refine b_icge C (tgt := 48) (my := 4) rfl rfl dX6_readNumber_6 rfl (fun h6_1 => ?_) (fun h6_1 => ?_)
      · refine r_aload_n C dX6_readNumber_48 rfl ?_
        refine r_getR C flX6_16 dX6_readNumber_49 rfl rfl rfl ?_
        refine r_iload_n C dX6_readNumber_52 rfl ?_
        refine cV (ci := 7) C hx (sX7_add_10 (d := d - 1) (by omega) v I0 J true hT0.2.1.1) moX7_add mlX6_57 miX7_add msX7_add dX6_readNumber_53 rfl rfl rfl rfl rfl (by omega) rfl rfl (kv (fun I_53_2 q_53_2 => ?_))
        obtain rfl := q_53_2
        exact rv C Z dX6_readNumber_56 ⟨by unfold numF; rw [hv], TP_add (by decide : (10 : Nat) = 5 ∨ (10 : Nat) = 10) _ hT0⟩
      · exfalso; omega
    | succ m ih =>
      intro i v I0 hm hg hT0
      have ini : (nI i).toInt = (i : Int) := nIint (by omega)
      have hst : nuF (m + 1) v I0 = if dgF (nxF I0) then nuF m (v * 10 + nxF I0 - 48) (goP I0) else (v, I0) := rfl
      rw [hst] at hg
      refine r_iload_n C dX6_readNumber_4 rfl ?_
      refine r_iconst C (v := 4) dX6_readNumber_5 (by decide) ?_
      refine b_icge C (tgt := 48) (my := 4) rfl rfl dX6_readNumber_6 rfl (fun h6_1 => ?_) (fun h6_1 => ?_)
      · exfalso; omega
      · refine r_aload_n C dX6_readNumber_9 rfl ?_
        refine cV (ci := 6) C hx (sX6_next (d := d - 1) (by omega) I0 J true hT0.1.1 hT0.1.2.2) moX6_next mlX6_38 miX6_next msX6_next dX6_readNumber_10 rfl rfl rfl rfl rfl (by omega) rfl rfl (kp ?_)
        refine cS C hx (sX6_isDigit (d := d - 1) (by omega) _ I0 J true) moX6_isDigit mlX6_61 mtX6_isDigit dX6_readNumber_13 rfl rfl (by omega) rfl rfl (kp ?_)
        refine z_ifeq C (tgt := 48) dX6_readNumber_16 rfl (fun h16_4 => ?_) (fun h16_4 => ?_)
        · have hv : nuF 4 0 I = (v, I0) := by rw [← hg, if_neg (by assumption)]
          refine r_aload_n C dX6_readNumber_48 rfl ?_
          refine r_getR C flX6_16 dX6_readNumber_49 rfl rfl rfl ?_
          refine r_iload_n C dX6_readNumber_52 rfl ?_
          refine cV (ci := 7) C hx (sX7_add_10 (d := d - 1) (by omega) v I0 J true hT0.2.1.1) moX7_add mlX6_57 miX7_add msX7_add dX6_readNumber_53 rfl rfl rfl rfl rfl (by omega) rfl rfl (kv (fun I_53_5 q_53_5 => ?_))
          obtain rfl := q_53_5
          exact rv C Z dX6_readNumber_56 ⟨by unfold numF; rw [hv], TP_add (by decide : (10 : Nat) = 5 ∨ (10 : Nat) = 10) _ hT0⟩
        · refine r_iload_n C dX6_readNumber_19 rfl ?_
          refine r_bipush C (v := 10) dX6_readNumber_20 (by decide) ?_
          refine r_imul C dX6_readNumber_22 ?_
          refine r_aload_n C dX6_readNumber_23 rfl ?_
          refine cV (ci := 6) C hx (sX6_next (d := d - 1) (by omega) I0 J true hT0.1.1 hT0.1.2.2) moX6_next mlX6_38 miX6_next msX6_next dX6_readNumber_24 rfl rfl rfl rfl rfl (by omega) rfl rfl (kp ?_)
          refine r_iadd C dX6_readNumber_27 ?_
          refine r_bipush C (v := 48) dX6_readNumber_28 (by decide) ?_
          refine r_isub C dX6_readNumber_30 ?_
          refine r_istore_n C dX6_readNumber_31 rfl rfl ?_
          refine r_aload_n C dX6_readNumber_32 rfl ?_
          refine r_dup C dX6_readNumber_33 rfl ?_
          refine r_getI C flX6_24 dX6_readNumber_34 rfl rfl ?_
          refine r_iconst C (v := 1) dX6_readNumber_37 (by decide) ?_
          refine r_iadd C dX6_readNumber_38 ?_
          refine r_putI C flX6_24 dX6_readNumber_39 rfl rfl rfl rfl rfl ?_
          refine r_iinc C (v := 1) dX6_readNumber_42 rfl (by decide) rfl ?_
          refine r_goto C (tgt := 4) dX6_readNumber_45 rfl ?_
          rw [nI_s]
          exact ih (i + 1) _ (goP I0) (by omega) ((if_pos (by assumption)).symm.trans hg) (TP_go (by decide : (10 : Nat) = 5 ∨ (10 : Nat) = 10) hT0 (nx_lt (dg_ne (by assumption))))
  refine r_iconst C (v := 0) dX6_readNumber_0 (by decide) ?_
  refine r_istore_n C dX6_readNumber_1 rfl rfl ?_
  refine r_iconst C (v := 0) dX6_readNumber_2 (by decide) ?_
  refine r_istore_n C dX6_readNumber_3 rfl rfl ?_
  exact loop 4 0 0 I rfl rfl hT
/-- what readOne does with m more that may open -/
def OneC_10 (g : Gb) (m : Nat) : Prop := ∀ (d : Nat), 8 * m + 3 ≤ d → ∀ (op : Int32), op.toInt + m = 6 → ∀ (I : Is) (J : Js), TP 10 I → MC9 g d mX6_readOne [.ref 3, .int op] I J true (Qi J true (fun v I' => v = bI ((oneF 10 m I).1 = true) ∧ I' = (oneF 10 m I).2 ∧ TP 10 I'))
set_option maxRecDepth 100000 in
set_option maxHeartbeats 400000 in
theorem sX6_readJoined_10 {g : Gb} (m : Nat) (one : OneC_10 g m) : ∀ (k : Nat), k ≤ 5 → ∀ (d : Nat), 8 * m + 4 + k ≤ d → ∀ (rk op : Int32), rk.toInt + k = 5 → op.toInt + m = 6 → ∀ (I : Is) (J : Js), TP 10 I → MC9 g d mX6_readJoined [.ref 3, .int rk, .int op] I J true (Qi J true (fun v I' => v = bI ((jnF 10 (oneF 10 m) k I).1 = true) ∧ I' = (jnF 10 (oneF 10 m) k I).2 ∧ TP 10 I')) := by
  intro k
  induction k with
  | zero =>
    intro hk d hd rk op hrk hop I J hT
    refine ent9 (own := RX6) rfl rfl rfl (fun X hg hx C Z => ?_)
    subst hg
    refine r_iload_n C dX6_readJoined_0 rfl ?_
    refine r_iconst C (v := 5) dX6_readJoined_1 (by decide) ?_
    refine b_iclt C (tgt := 11) (my := 5) rfl rfl dX6_readJoined_2 rfl (fun h2_1 => ?_) (fun h2_1 => ?_)
    · exfalso; omega
    · refine r_aload_n C dX6_readJoined_5 rfl ?_
      refine r_iload_n C dX6_readJoined_6 rfl ?_
      refine cV (ci := 6) C hx (one (d - 1) (by omega) op hop I J hT) moX6_readOne mlX6_50 miX6_readOne msX6_readOne dX6_readJoined_7 rfl rfl rfl rfl rfl (by omega) rfl rfl (ki (fun v_7_2 I_7_2 q_7_2 => ?_))
      obtain ⟨rfl, rfl, hT2⟩ := q_7_2
      exact riz C Z dX6_readJoined_10 bI_nar ⟨rfl, rfl, hT2⟩
  | succ k ih =>
    intro hk d hd rk op hrk hop I J hT
    have hrk1 : (rk + 1).toInt + (k : Int) = 5 := by
      rw [tI_add (by rw [one_int]; omega) (by rw [one_int]; omega), one_int]; omega
    have erk : rk = nI (4 - k) := Int32.toInt_inj.mp (by rw [nIint (by omega)]; omega)
    have hst : jnF 10 (oneF 10 m) (k + 1) I = lpF 10 (jnF 10 (oneF 10 m) k) rk (if k = 2 then 1 else 120) (jnF 10 (oneF 10 m) k I).1 (jnF 10 (oneF 10 m) k I).2 := by rw [erk]; rfl
    clear erk
    refine ent9 (own := RX6) rfl rfl rfl (fun X hg hx C Z => ?_)
    subst hg
    have loop : ∀ (NN : Int32) (N : Nat), NN.toInt = (N : Int) → N ≤ 120 → ∀ (n i : Nat) (q : Bool) (I1 : Is), n + i = N → lpF 10 (jnF 10 (oneF 10 m) k) rk n q I1 = jnF 10 (oneF 10 m) (k + 1) I → TP 10 I1 → Aw X 36 [some (.ref 3), some (.int rk), some (.int op), some (.int (bI (q = true))), some (.int NN), some (.int (nI i)), none] [] (st9 I1 J true) := by
      intro NN N hNN hN n
      induction n with
      | zero =>
        intro i q I1 hm hg hT1
        have ini : (nI i).toInt = (i : Int) := nIint (by omega)
        refine r_iload C dX6_readJoined_36 rfl ?_
        refine r_iload C dX6_readJoined_38 rfl ?_
        refine b_icge C (tgt := 98) rfl rfl dX6_readJoined_40 rfl (fun h40_1 => ?_) (fun h40_1 => ?_)
        · refine r_iload_n C dX6_readJoined_98 rfl ?_
          exact riz C Z dX6_readJoined_99 bI_nar ⟨by rw [← hg]; rfl, by rw [← hg]; rfl, hT1⟩
        · exfalso; omega
      | succ n ih2 =>
        intro i q I1 hm hg hT1
        have ini : (nI i).toInt = (i : Int) := nIint (by omega)
        have hs2 : lpF 10 (jnF 10 (oneF 10 m) k) rk (n + 1) q I1 = if q = true then (if jgF (nxF I1) rk = 0 then (true, I1) else lpF 10 (jnF 10 (oneF 10 m) k) rk n (jnF 10 (oneF 10 m) k (goP I1)).1 (addF 10 (jnF 10 (oneF 10 m) k (goP I1)).2 (jgF (nxF I1) rk))) else (q, I1) := rfl
        rw [hs2] at hg
        refine r_iload C dX6_readJoined_36 rfl ?_
        refine r_iload C dX6_readJoined_38 rfl ?_
        refine b_icge C (tgt := 98) rfl rfl dX6_readJoined_40 rfl (fun h40_1 => ?_) (fun h40_1 => ?_)
        · exfalso; omega
        · refine r_iload_n C dX6_readJoined_43 rfl ?_
          refine z_ifeq C (tgt := 98) dX6_readJoined_44 rfl (fun h44_2 => ?_) (fun h44_2 => ?_)
          · refine r_iload_n C dX6_readJoined_98 rfl ?_
            exact riz C Z dX6_readJoined_99 bI_nar ⟨by rw [← hg, if_neg (by assumption)], by rw [← hg, if_neg (by assumption)], hT1⟩
          · refine r_aload_n C dX6_readJoined_47 rfl ?_
            refine cV (ci := 6) C hx (sX6_next (d := d - 1) (by omega) I1 J true hT1.1.1 hT1.1.2.2) moX6_next mlX6_38 miX6_next msX6_next dX6_readJoined_48 rfl rfl rfl rfl rfl (by omega) rfl rfl (kp ?_)
            refine r_iload_n C dX6_readJoined_51 rfl ?_
            refine cS C hx (sX6_joining (d := d - 1) (by omega) _ rk I1 J true) moX6_joining mlX6_53 mtX6_joining dX6_readJoined_52 rfl rfl (by omega) rfl rfl (kp ?_)
            refine r_istore C dX6_readJoined_55 rfl rfl ?_
            refine r_iload C dX6_readJoined_57 rfl ?_
            refine r_ifne C (tgt := 64) dX6_readJoined_59 rfl (fun h59_5 => ?_) (fun h59_5 => ?_)
            · refine r_aload_n C dX6_readJoined_64 rfl ?_
              refine r_dup C dX6_readJoined_65 rfl ?_
              refine r_getI C flX6_24 dX6_readJoined_66 rfl rfl ?_
              refine r_iconst C (v := 1) dX6_readJoined_69 (by decide) ?_
              refine r_iadd C dX6_readJoined_70 ?_
              refine r_putI C flX6_24 dX6_readJoined_71 rfl rfl rfl rfl rfl ?_
              refine r_aload_n C dX6_readJoined_74 rfl ?_
              refine r_iload_n C dX6_readJoined_75 rfl ?_
              refine r_iconst C (v := 1) dX6_readJoined_76 (by decide) ?_
              refine r_iadd C dX6_readJoined_77 ?_
              refine r_iload_n C dX6_readJoined_78 rfl ?_
              refine cV (ci := 6) C hx (ih (by omega) (d - 1) (by omega) (rk + 1) op hrk1 hop (goP I1) J (TP_go (by decide : (10 : Nat) = 5 ∨ (10 : Nat) = 10) hT1 (nx_lt (jg_ne (by assumption))))) moX6_readJoined mlX6_42 miX6_readJoined msX6_readJoined dX6_readJoined_79 rfl rfl rfl rfl rfl (by omega) rfl rfl (ki (fun v_79_6 I_79_6 q_79_6 => ?_))
              obtain ⟨rfl, rfl, hT2⟩ := q_79_6
              refine r_istore_n C dX6_readJoined_82 rfl rfl ?_
              refine r_aload_n C dX6_readJoined_83 rfl ?_
              refine r_getR C flX6_16 dX6_readJoined_84 rfl rfl rfl ?_
              refine r_iload C dX6_readJoined_87 rfl ?_
              refine cV (ci := 7) C hx (sX7_add_10 (d := d - 1) (by omega) _ _ J true hT2.2.1.1) moX7_add mlX6_57 miX7_add msX7_add dX6_readJoined_89 rfl rfl rfl rfl rfl (by omega) rfl rfl (kv (fun I_89_7 q_89_7 => ?_))
              obtain rfl := q_89_7
              refine r_iinc C (v := 1) dX6_readJoined_92 rfl (by decide) rfl ?_
              refine r_goto C (tgt := 36) dX6_readJoined_95 rfl ?_
              rw [nI_s]
              refine r_drop 6 ?_
              exact ih2 (i + 1) _ _ (by omega) (((if_pos (by assumption)).trans (if_neg (by assumption))).symm.trans hg) (TP_add (by decide : (10 : Nat) = 5 ∨ (10 : Nat) = 10) _ hT2)
            · refine r_iconst C (v := 1) dX6_readJoined_62 (by decide) ?_
              exact riz C Z dX6_readJoined_63 rfl ⟨by rw [← hg, if_pos (by assumption), if_pos (by assumption)]; exact (bI_t rfl).symm, by rw [← hg, if_pos (by assumption), if_pos (by assumption)], hT1⟩
    refine r_iload_n C dX6_readJoined_0 rfl ?_
    refine r_iconst C (v := 5) dX6_readJoined_1 (by decide) ?_
    refine b_iclt C (tgt := 11) (my := 5) rfl rfl dX6_readJoined_2 rfl (fun h2_1 => ?_) (fun h2_1 => ?_)
    · refine r_aload_n C dX6_readJoined_11 rfl ?_
      refine r_iload_n C dX6_readJoined_12 rfl ?_
      refine r_iconst C (v := 1) dX6_readJoined_13 (by decide) ?_
      refine r_iadd C dX6_readJoined_14 ?_
      refine r_iload_n C dX6_readJoined_15 rfl ?_
      refine cV (ci := 6) C hx (ih (by omega) (d - 1) (by omega) (rk + 1) op hrk1 hop I J hT) moX6_readJoined mlX6_42 miX6_readJoined msX6_readJoined dX6_readJoined_16 rfl rfl rfl rfl rfl (by omega) rfl rfl (ki (fun v_16_2 I_16_2 q_16_2 => ?_))
      obtain ⟨rfl, rfl, hT2⟩ := q_16_2
      refine r_istore_n C dX6_readJoined_19 rfl rfl ?_
      refine r_iload_n C dX6_readJoined_20 rfl ?_
      refine r_iconst C (v := 2) dX6_readJoined_21 (by decide) ?_
      refine r_icne C (tgt := 29) dX6_readJoined_22 rfl (fun h22_3 => ?_) (fun h22_3 => ?_)
      · refine r_bipush C (v := 120) dX6_readJoined_29 (by decide) ?_
        refine r_istore C dX6_readJoined_31 rfl rfl ?_
        refine r_iconst C (v := 0) dX6_readJoined_33 (by decide) ?_
        refine r_istore C dX6_readJoined_34 rfl rfl ?_
        have e2 : ¬ k = 2 := fun e => (‹¬ rk = 2›) (Int32.toInt_inj.mp (by rw [show (2 : Int32).toInt = 2 from rfl]; omega))
        exact loop 120 120 rfl (by decide) 120 0 _ _ rfl (by rw [hst, if_neg e2]) hT2
      · refine r_iconst C (v := 1) dX6_readJoined_25 (by decide) ?_
        refine r_goto C (tgt := 31) dX6_readJoined_26 rfl ?_
        refine r_istore C dX6_readJoined_31 rfl rfl ?_
        refine r_iconst C (v := 0) dX6_readJoined_33 (by decide) ?_
        refine r_istore C dX6_readJoined_34 rfl rfl ?_
        have e2 : k = 2 := by
          have e3 : rk = 2 := by assumption
          have e4 : (2 : Int32).toInt = 2 := rfl
          rw [e3, e4] at hrk; omega
        exact loop 1 1 rfl (by decide) 1 0 _ _ rfl (by rw [hst, if_pos e2]) hT2
    · exfalso; omega
