set_option maxRecDepth 100000 in
set_option maxHeartbeats 400000 in
theorem sX6_readOne_5 {g : Gb} : ∀ (m : Nat), m ≤ 6 → OneC_5 g m := by
  intro m
  induction m with
  | zero =>
    intro hm d hd op hop I J hT
    refine ent9 (own := RX6) rfl rfl rfl (fun X hg hx C Z => ?_)
    subst hg
    have hst : oneF 5 0 I = if dgF (nxF I) then (true, numF 5 I) else if 0 ≤ (nmgF (nxF I)).toInt then (true, addF 5 (goP I) (-1 - nmgF (nxF I))) else (false, I) := rfl
    refine r_aload_n C dX6_readOne_0 rfl ?_
    refine cV (ci := 6) C hx (sX6_next (d := d - 1) (by omega) I J false hT.1.1 hT.1.2.2) moX6_next mlX6_38 miX6_next msX6_next dX6_readOne_1 rfl rfl rfl rfl rfl (by omega) rfl rfl (kp ?_)
    refine r_istore_n C dX6_readOne_4 rfl rfl ?_
    refine r_iload_n C dX6_readOne_5 rfl ?_
    refine cS C hx (sX6_isDigit (d := d - 1) (by omega) _ I J false) moX6_isDigit mlX6_61 mtX6_isDigit dX6_readOne_6 rfl rfl (by omega) rfl rfl (kp ?_)
    refine z_ifeq C (tgt := 18) dX6_readOne_9 rfl (fun h9_3 => ?_) (fun h9_3 => ?_)
    · refine r_iload_n C dX6_readOne_18 rfl ?_
      refine cS C hx (sX6_naming (d := d - 1) (by omega) _ I J false) moX6_naming mlX6_67 mtX6_naming dX6_readOne_19 rfl rfl (by omega) rfl rfl (kp ?_)
      refine r_istore_n C dX6_readOne_22 rfl rfl ?_
      refine r_iload_n C dX6_readOne_23 rfl ?_
      refine b_iflt C (tgt := 49) dX6_readOne_24 rfl (fun h24_5 => ?_) (fun h24_5 => ?_)
      · refine r_iload_n C dX6_readOne_49 rfl ?_
        refine r_bipush C (v := 40) dX6_readOne_50 (by decide) ?_
        refine r_iceq C (tgt := 67) dX6_readOne_52 rfl (fun h52_6 => ?_) (fun h52_6 => ?_)
        · refine r_iload_n C dX6_readOne_67 rfl ?_
          refine r_bipush C (v := 6) dX6_readOne_68 (by decide) ?_
          refine b_iclt C (tgt := 75) (my := 6) rfl rfl dX6_readOne_70 rfl (fun h70_7 => ?_) (fun h70_7 => ?_)
          · exfalso; omega
          · refine r_iconst C (v := 0) dX6_readOne_73 (by decide) ?_
            exact riz C Z dX6_readOne_74 rfl ⟨by rw [hst, if_neg (by assumption), if_neg (by omega)]; exact (bI_f Bool.false_ne_true).symm, by rw [hst, if_neg (by assumption), if_neg (by omega)], hT⟩
        · refine r_iload_n C dX6_readOne_55 rfl ?_
          refine r_bipush C (v := 33) dX6_readOne_56 (by decide) ?_
          refine r_iceq C (tgt := 67) dX6_readOne_58 rfl (fun h58_8 => ?_) (fun h58_8 => ?_)
          · refine r_iload_n C dX6_readOne_67 rfl ?_
            refine r_bipush C (v := 6) dX6_readOne_68 (by decide) ?_
            refine b_iclt C (tgt := 75) (my := 6) rfl rfl dX6_readOne_70 rfl (fun h70_9 => ?_) (fun h70_9 => ?_)
            · exfalso; omega
            · refine r_iconst C (v := 0) dX6_readOne_73 (by decide) ?_
              exact riz C Z dX6_readOne_74 rfl ⟨by rw [hst, if_neg (by assumption), if_neg (by omega)]; exact (bI_f Bool.false_ne_true).symm, by rw [hst, if_neg (by assumption), if_neg (by omega)], hT⟩
          · refine r_iload_n C dX6_readOne_61 rfl ?_
            refine r_bipush C (v := 45) dX6_readOne_62 (by decide) ?_
            refine r_icne C (tgt := 73) dX6_readOne_64 rfl (fun h64_10 => ?_) (fun h64_10 => ?_)
            · refine r_iconst C (v := 0) dX6_readOne_73 (by decide) ?_
              exact riz C Z dX6_readOne_74 rfl ⟨by rw [hst, if_neg (by assumption), if_neg (by omega)]; exact (bI_f Bool.false_ne_true).symm, by rw [hst, if_neg (by assumption), if_neg (by omega)], hT⟩
            · refine r_iload_n C dX6_readOne_67 rfl ?_
              refine r_bipush C (v := 6) dX6_readOne_68 (by decide) ?_
              refine b_iclt C (tgt := 75) (my := 6) rfl rfl dX6_readOne_70 rfl (fun h70_11 => ?_) (fun h70_11 => ?_)
              · exfalso; omega
              · refine r_iconst C (v := 0) dX6_readOne_73 (by decide) ?_
                exact riz C Z dX6_readOne_74 rfl ⟨by rw [hst, if_neg (by assumption), if_neg (by omega)]; exact (bI_f Bool.false_ne_true).symm, by rw [hst, if_neg (by assumption), if_neg (by omega)], hT⟩
      · refine r_aload_n C dX6_readOne_27 rfl ?_
        refine r_dup C dX6_readOne_28 rfl ?_
        refine r_getI C flX6_24 dX6_readOne_29 rfl rfl ?_
        refine r_iconst C (v := 1) dX6_readOne_32 (by decide) ?_
        refine r_iadd C dX6_readOne_33 ?_
        refine r_putI C flX6_24 dX6_readOne_34 rfl rfl rfl rfl rfl ?_
        refine r_aload_n C dX6_readOne_37 rfl ?_
        refine r_getR C flX6_16 dX6_readOne_38 rfl rfl rfl ?_
        refine r_iconst C (v := -1) dX6_readOne_41 (by decide) ?_
        refine r_iload_n C dX6_readOne_42 rfl ?_
        refine r_isub C dX6_readOne_43 ?_
        refine cV (ci := 7) C hx (sX7_add_5 (d := d - 1) (by omega) _ (goP I) J false (TP_go (by decide : (5 : Nat) = 5 ∨ (5 : Nat) = 10) hT (nx_lt (nmg_ne (by assumption)))).2.1.1) moX7_add mlX6_57 miX7_add msX7_add dX6_readOne_44 rfl rfl rfl rfl rfl (by omega) rfl rfl (kv (fun I_44_12 q_44_12 => ?_))
        obtain rfl := q_44_12
        refine r_iconst C (v := 1) dX6_readOne_47 (by decide) ?_
        exact riz C Z dX6_readOne_48 rfl ⟨by rw [hst, if_neg (by assumption), if_pos (by assumption)]; exact (bI_t rfl).symm, by rw [hst, if_neg (by assumption), if_pos (by assumption)], TP_add (by decide : (5 : Nat) = 5 ∨ (5 : Nat) = 10) _ (TP_go (by decide : (5 : Nat) = 5 ∨ (5 : Nat) = 10) hT (nx_lt (nmg_ne (by assumption))))⟩
    · refine r_aload_n C dX6_readOne_12 rfl ?_
      refine cV (ci := 6) C hx (sX6_readNumber_5 (d := d - 1) (by omega) I J hT) moX6_readNumber mlX6_64 miX6_readNumber msX6_readNumber dX6_readOne_13 rfl rfl rfl rfl rfl (by omega) rfl rfl (kv (fun I_13_13 q_13_13 => ?_))
      obtain ⟨rfl, hT2⟩ := q_13_13
      refine r_iconst C (v := 1) dX6_readOne_16 (by decide) ?_
      exact riz C Z dX6_readOne_17 rfl ⟨by rw [hst, if_pos (by assumption)]; exact (bI_t rfl).symm, by rw [hst, if_pos (by assumption)], hT2⟩
  | succ m ih =>
    intro hm d hd op hop I J hT
    have hop1 : (op + 1).toInt + (m : Int) = 6 := by
      rw [tI_add (by rw [one_int]; omega) (by rw [one_int]; omega), one_int]; omega
    have hst : oneF 5 (m + 1) I = if dgF (nxF I) then (true, numF 5 I) else if 0 ≤ (nmgF (nxF I)).toInt then (true, addF 5 (goP I) (-1 - nmgF (nxF I)))
      else if nxF I = 40 then (if (jnF 5 (oneF 5 m) 5 (goP I)).1 = true ∧ nxF (jnF 5 (oneF 5 m) 5 (goP I)).2 = 41 then (true, goP (jnF 5 (oneF 5 m) 5 (goP I)).2) else (false, (jnF 5 (oneF 5 m) 5 (goP I)).2))
      else if nxF I = 33 then ((oneF 5 m (goP I)).1, addF 5 (oneF 5 m (goP I)).2 (-8))
      else if nxF I = 45 then ((oneF 5 m (goP I)).1, addF 5 (oneF 5 m (goP I)).2 (-7)) else (false, I) := rfl
    refine ent9 (own := RX6) rfl rfl rfl (fun X hg hx C Z => ?_)
    subst hg
    have tail : ¬ dgF (nxF I) → ¬ 0 ≤ (nmgF (nxF I)).toInt → (nxF I = 40 ∨ nxF I = 33 ∨ nxF I = 45) → Aw X 75 [some (.ref 3), some (.int op), some (.int (nxF I)), some (.int (nmgF (nxF I))), none] [] (st9 I J false) := by
      intro hd1 hn1 hs
      rw [if_neg hd1, if_neg hn1] at hst
      have hTg : TP 5 (goP I) := TP_go (by decide : (5 : Nat) = 5 ∨ (5 : Nat) = 10) hT (nx_lt (fun e => by rw [e] at hs; exact absurd hs (by decide)))
      obtain ⟨r, hr⟩ : ∃ r, jnF 5 (oneF 5 m) 5 (goP I) = r := ⟨_, rfl⟩
      rw [hr] at hst
      refine r_aload_n C dX6_readOne_75 rfl ?_
      refine r_dup C dX6_readOne_76 rfl ?_
      refine r_getI C flX6_24 dX6_readOne_77 rfl rfl ?_
      refine r_iconst C (v := 1) dX6_readOne_80 (by decide) ?_
      refine r_iadd C dX6_readOne_81 ?_
      refine r_putI C flX6_24 dX6_readOne_82 rfl rfl rfl rfl rfl ?_
      refine r_iload_n C dX6_readOne_85 rfl ?_
      refine r_bipush C (v := 40) dX6_readOne_86 (by decide) ?_
      refine r_icne C (tgt := 117) dX6_readOne_88 rfl (fun h88_1 => ?_) (fun h88_1 => ?_)
      · refine r_aload_n C dX6_readOne_117 rfl ?_
        refine r_iload_n C dX6_readOne_118 rfl ?_
        refine r_iconst C (v := 1) dX6_readOne_119 (by decide) ?_
        refine r_iadd C dX6_readOne_120 ?_
        refine cV (ci := 6) C hx (ih (by omega) (d - 1) (by omega) (op + 1) hop1 (goP I) J hTg) moX6_readOne mlX6_50 miX6_readOne msX6_readOne dX6_readOne_121 rfl rfl rfl rfl rfl (by omega) rfl rfl (ki (fun v_121_2 I_121_2 q_121_2 => ?_))
        obtain ⟨rfl, rfl, hT2⟩ := q_121_2
        refine r_istore C dX6_readOne_124 rfl rfl ?_
        refine r_aload_n C dX6_readOne_126 rfl ?_
        refine r_getR C flX6_16 dX6_readOne_127 rfl rfl rfl ?_
        refine r_iload_n C dX6_readOne_130 rfl ?_
        refine r_bipush C (v := 33) dX6_readOne_131 (by decide) ?_
        refine r_icne C (tgt := 141) dX6_readOne_133 rfl (fun h133_3 => ?_) (fun h133_3 => ?_)
        · have h45 : nxF I = 45 := hs.elim (fun e => absurd e (by assumption)) (fun e => e.elim (fun e => absurd e (by assumption)) id)
          refine r_bipush C (v := -7) dX6_readOne_141 (by decide) ?_
          refine cV (ci := 7) C hx (sX7_add_5 (d := d - 1) (by omega) _ _ J false hT2.2.1.1) moX7_add mlX6_57 miX7_add msX7_add dX6_readOne_143 rfl rfl rfl rfl rfl (by omega) rfl rfl (kv (fun I_143_4 q_143_4 => ?_))
          obtain rfl := q_143_4
          refine r_iload C dX6_readOne_146 rfl ?_
          exact riz C Z dX6_readOne_148 bI_nar ⟨by rw [hst, if_neg (by assumption), if_neg (by assumption), if_pos h45], by rw [hst, if_neg (by assumption), if_neg (by assumption), if_pos h45], TP_add (by decide : (5 : Nat) = 5 ∨ (5 : Nat) = 10) _ hT2⟩
        · refine r_bipush C (v := -8) dX6_readOne_136 (by decide) ?_
          refine r_goto C (tgt := 143) dX6_readOne_138 rfl ?_
          refine cV (ci := 7) C hx (sX7_add_5 (d := d - 1) (by omega) _ _ J false hT2.2.1.1) moX7_add mlX6_57 miX7_add msX7_add dX6_readOne_143 rfl rfl rfl rfl rfl (by omega) rfl rfl (kv (fun I_143_5 q_143_5 => ?_))
          obtain rfl := q_143_5
          refine r_iload C dX6_readOne_146 rfl ?_
          exact riz C Z dX6_readOne_148 bI_nar ⟨by rw [hst, if_neg (by assumption), if_pos (by assumption)], by rw [hst, if_neg (by assumption), if_pos (by assumption)], TP_add (by decide : (5 : Nat) = 5 ∨ (5 : Nat) = 10) _ hT2⟩
      · refine r_aload_n C dX6_readOne_91 rfl ?_
        refine r_iconst C (v := 0) dX6_readOne_92 (by decide) ?_
        refine r_iload_n C dX6_readOne_93 rfl ?_
        refine r_iconst C (v := 1) dX6_readOne_94 (by decide) ?_
        refine r_iadd C dX6_readOne_95 ?_
        refine cV (ci := 6) C hx (sX6_readJoined_5 m (ih (by omega)) 5 (by decide) (d - 1) (by omega) 0 (op + 1) (by decide) hop1 (goP I) J hTg) moX6_readJoined mlX6_42 miX6_readJoined msX6_readJoined dX6_readOne_96 rfl rfl rfl rfl rfl (by omega) rfl rfl (ki (fun v_96_6 I_96_6 q_96_6 => ?_))
        rw [hr] at q_96_6
        obtain ⟨rfl, rfl, hT2⟩ := q_96_6
        refine z_ifeq C (tgt := 115) dX6_readOne_99 rfl (fun h99_7 => ?_) (fun h99_7 => ?_)
        · refine r_iconst C (v := 0) dX6_readOne_115 (by decide) ?_
          exact riz C Z dX6_readOne_116 rfl ⟨by rw [hst, if_pos (by assumption), if_neg (fun z => absurd z.1 (by assumption))]; exact (bI_f Bool.false_ne_true).symm, by rw [hst, if_pos (by assumption), if_neg (fun z => absurd z.1 (by assumption))], hT2⟩
        · refine r_aload_n C dX6_readOne_102 rfl ?_
          refine r_bipush C (v := 41) dX6_readOne_103 (by decide) ?_
          refine cV (ci := 6) C hx (sX6_passes (d := d - 1) (by omega) 41 r.2 J false hT2.1.1 hT2.1.2.2) moX6_passes mlX6_34 miX6_passes msX6_passes dX6_readOne_105 rfl rfl rfl rfl rfl (by omega) rfl rfl (ki (fun v_105_8 I_105_8 q_105_8 => ?_))
          obtain ⟨rfl, rfl⟩ := q_105_8
          refine z_ifeq C (tgt := 115) dX6_readOne_108 rfl (fun h108_9 => ?_) (fun h108_9 => ?_)
          · refine r_iconst C (v := 0) dX6_readOne_115 (by decide) ?_
            exact riz C Z dX6_readOne_116 rfl ⟨by rw [hst, if_pos (‹nxF I = 40›), if_neg (fun z => absurd z.2 (‹¬ nxF r.2 = 41›))]; exact (bI_f Bool.false_ne_true).symm, by rw [if_neg (‹¬ nxF r.2 = 41›), hst, if_pos (‹nxF I = 40›), if_neg (fun z => absurd z.2 (‹¬ nxF r.2 = 41›))], by rw [if_neg (by assumption)]; exact hT2⟩
          · refine r_iconst C (v := 1) dX6_readOne_111 (by decide) ?_
            refine r_goto C (tgt := 116) dX6_readOne_112 rfl ?_
            exact riz C Z dX6_readOne_116 rfl ⟨by rw [hst, if_pos (by assumption), if_pos ⟨by assumption, by assumption⟩]; exact (bI_t rfl).symm, by rw [if_pos (‹nxF r.2 = 41›), hst, if_pos (‹nxF I = 40›), if_pos ⟨by assumption, ‹nxF r.2 = 41›⟩], by rw [if_pos (by assumption)]; exact TP_go (by decide : (5 : Nat) = 5 ∨ (5 : Nat) = 10) hT2 (nx_lt (fun e => absurd (e.symm.trans (‹nxF r.2 = 41›)) (by decide)))⟩
    refine r_aload_n C dX6_readOne_0 rfl ?_
    refine cV (ci := 6) C hx (sX6_next (d := d - 1) (by omega) I J false hT.1.1 hT.1.2.2) moX6_next mlX6_38 miX6_next msX6_next dX6_readOne_1 rfl rfl rfl rfl rfl (by omega) rfl rfl (kp ?_)
    refine r_istore_n C dX6_readOne_4 rfl rfl ?_
    refine r_iload_n C dX6_readOne_5 rfl ?_
    refine cS C hx (sX6_isDigit (d := d - 1) (by omega) _ I J false) moX6_isDigit mlX6_61 mtX6_isDigit dX6_readOne_6 rfl rfl (by omega) rfl rfl (kp ?_)
    refine z_ifeq C (tgt := 18) dX6_readOne_9 rfl (fun h9_3 => ?_) (fun h9_3 => ?_)
    · refine r_iload_n C dX6_readOne_18 rfl ?_
      refine cS C hx (sX6_naming (d := d - 1) (by omega) _ I J false) moX6_naming mlX6_67 mtX6_naming dX6_readOne_19 rfl rfl (by omega) rfl rfl (kp ?_)
      refine r_istore_n C dX6_readOne_22 rfl rfl ?_
      refine r_iload_n C dX6_readOne_23 rfl ?_
      refine b_iflt C (tgt := 49) dX6_readOne_24 rfl (fun h24_5 => ?_) (fun h24_5 => ?_)
      · refine r_iload_n C dX6_readOne_49 rfl ?_
        refine r_bipush C (v := 40) dX6_readOne_50 (by decide) ?_
        refine r_iceq C (tgt := 67) dX6_readOne_52 rfl (fun h52_6 => ?_) (fun h52_6 => ?_)
        · refine r_iload_n C dX6_readOne_67 rfl ?_
          refine r_bipush C (v := 6) dX6_readOne_68 (by decide) ?_
          refine b_iclt C (tgt := 75) (my := 6) rfl rfl dX6_readOne_70 rfl (fun h70_7 => ?_) (fun h70_7 => ?_)
          · exact tail (by assumption) (by omega) (Or.inl (by assumption))
          · exfalso; omega
        · refine r_iload_n C dX6_readOne_55 rfl ?_
          refine r_bipush C (v := 33) dX6_readOne_56 (by decide) ?_
          refine r_iceq C (tgt := 67) dX6_readOne_58 rfl (fun h58_8 => ?_) (fun h58_8 => ?_)
          · refine r_iload_n C dX6_readOne_67 rfl ?_
            refine r_bipush C (v := 6) dX6_readOne_68 (by decide) ?_
            refine b_iclt C (tgt := 75) (my := 6) rfl rfl dX6_readOne_70 rfl (fun h70_9 => ?_) (fun h70_9 => ?_)
            · exact tail (by assumption) (by omega) (Or.inr (Or.inl (by assumption)))
            · exfalso; omega
          · refine r_iload_n C dX6_readOne_61 rfl ?_
            refine r_bipush C (v := 45) dX6_readOne_62 (by decide) ?_
            refine r_icne C (tgt := 73) dX6_readOne_64 rfl (fun h64_10 => ?_) (fun h64_10 => ?_)
            · refine r_iconst C (v := 0) dX6_readOne_73 (by decide) ?_
              exact riz C Z dX6_readOne_74 rfl ⟨by rw [hst, if_neg (by assumption), if_neg (by omega), if_neg (‹¬ nxF I = 40›), if_neg (‹¬ nxF I = 33›), if_neg (‹¬ nxF I = 45›)]; exact (bI_f Bool.false_ne_true).symm, by rw [hst, if_neg (by assumption), if_neg (by omega), if_neg (‹¬ nxF I = 40›), if_neg (‹¬ nxF I = 33›), if_neg (‹¬ nxF I = 45›)], hT⟩
            · refine r_iload_n C dX6_readOne_67 rfl ?_
              refine r_bipush C (v := 6) dX6_readOne_68 (by decide) ?_
              refine b_iclt C (tgt := 75) (my := 6) rfl rfl dX6_readOne_70 rfl (fun h70_11 => ?_) (fun h70_11 => ?_)
              · exact tail (by assumption) (by omega) (Or.inr (Or.inr (by assumption)))
              · exfalso; omega
      · refine r_aload_n C dX6_readOne_27 rfl ?_
        refine r_dup C dX6_readOne_28 rfl ?_
        refine r_getI C flX6_24 dX6_readOne_29 rfl rfl ?_
        refine r_iconst C (v := 1) dX6_readOne_32 (by decide) ?_
        refine r_iadd C dX6_readOne_33 ?_
        refine r_putI C flX6_24 dX6_readOne_34 rfl rfl rfl rfl rfl ?_
        refine r_aload_n C dX6_readOne_37 rfl ?_
        refine r_getR C flX6_16 dX6_readOne_38 rfl rfl rfl ?_
        refine r_iconst C (v := -1) dX6_readOne_41 (by decide) ?_
        refine r_iload_n C dX6_readOne_42 rfl ?_
        refine r_isub C dX6_readOne_43 ?_
        refine cV (ci := 7) C hx (sX7_add_5 (d := d - 1) (by omega) _ (goP I) J false (TP_go (by decide : (5 : Nat) = 5 ∨ (5 : Nat) = 10) hT (nx_lt (nmg_ne (by assumption)))).2.1.1) moX7_add mlX6_57 miX7_add msX7_add dX6_readOne_44 rfl rfl rfl rfl rfl (by omega) rfl rfl (kv (fun I_44_12 q_44_12 => ?_))
        obtain rfl := q_44_12
        refine r_iconst C (v := 1) dX6_readOne_47 (by decide) ?_
        exact riz C Z dX6_readOne_48 rfl ⟨by rw [hst, if_neg (by assumption), if_pos (by assumption)]; exact (bI_t rfl).symm, by rw [hst, if_neg (by assumption), if_pos (by assumption)], TP_add (by decide : (5 : Nat) = 5 ∨ (5 : Nat) = 10) _ (TP_go (by decide : (5 : Nat) = 5 ∨ (5 : Nat) = 10) hT (nx_lt (nmg_ne (by assumption))))⟩
    · refine r_aload_n C dX6_readOne_12 rfl ?_
      refine cV (ci := 6) C hx (sX6_readNumber_5 (d := d - 1) (by omega) I J hT) moX6_readNumber mlX6_64 miX6_readNumber msX6_readNumber dX6_readOne_13 rfl rfl rfl rfl rfl (by omega) rfl rfl (kv (fun I_13_13 q_13_13 => ?_))
      obtain ⟨rfl, hT2⟩ := q_13_13
      refine r_iconst C (v := 1) dX6_readOne_16 (by decide) ?_
      exact riz C Z dX6_readOne_17 rfl ⟨by rw [hst, if_pos (by assumption)]; exact (bI_t rfl).symm, by rw [hst, if_pos (by assumption)], hT2⟩
set_option maxRecDepth 100000 in
set_option maxHeartbeats 400000 in
theorem sX6_readOne_10 {g : Gb} : ∀ (m : Nat), m ≤ 6 → OneC_10 g m := by
  intro m
  induction m with
  | zero =>
    intro hm d hd op hop I J hT
    refine ent9 (own := RX6) rfl rfl rfl (fun X hg hx C Z => ?_)
    subst hg
    have hst : oneF 10 0 I = if dgF (nxF I) then (true, numF 10 I) else if 0 ≤ (nmgF (nxF I)).toInt then (true, addF 10 (goP I) (-1 - nmgF (nxF I))) else (false, I) := rfl
    refine r_aload_n C dX6_readOne_0 rfl ?_
    refine cV (ci := 6) C hx (sX6_next (d := d - 1) (by omega) I J true hT.1.1 hT.1.2.2) moX6_next mlX6_38 miX6_next msX6_next dX6_readOne_1 rfl rfl rfl rfl rfl (by omega) rfl rfl (kp ?_)
    refine r_istore_n C dX6_readOne_4 rfl rfl ?_
    refine r_iload_n C dX6_readOne_5 rfl ?_
    refine cS C hx (sX6_isDigit (d := d - 1) (by omega) _ I J true) moX6_isDigit mlX6_61 mtX6_isDigit dX6_readOne_6 rfl rfl (by omega) rfl rfl (kp ?_)
    refine z_ifeq C (tgt := 18) dX6_readOne_9 rfl (fun h9_3 => ?_) (fun h9_3 => ?_)
    · refine r_iload_n C dX6_readOne_18 rfl ?_
      refine cS C hx (sX6_naming (d := d - 1) (by omega) _ I J true) moX6_naming mlX6_67 mtX6_naming dX6_readOne_19 rfl rfl (by omega) rfl rfl (kp ?_)
      refine r_istore_n C dX6_readOne_22 rfl rfl ?_
      refine r_iload_n C dX6_readOne_23 rfl ?_
      refine b_iflt C (tgt := 49) dX6_readOne_24 rfl (fun h24_5 => ?_) (fun h24_5 => ?_)
      · refine r_iload_n C dX6_readOne_49 rfl ?_
        refine r_bipush C (v := 40) dX6_readOne_50 (by decide) ?_
        refine r_iceq C (tgt := 67) dX6_readOne_52 rfl (fun h52_6 => ?_) (fun h52_6 => ?_)
        · refine r_iload_n C dX6_readOne_67 rfl ?_
          refine r_bipush C (v := 6) dX6_readOne_68 (by decide) ?_
          refine b_iclt C (tgt := 75) (my := 6) rfl rfl dX6_readOne_70 rfl (fun h70_7 => ?_) (fun h70_7 => ?_)
          · exfalso; omega
          · refine r_iconst C (v := 0) dX6_readOne_73 (by decide) ?_
            exact riz C Z dX6_readOne_74 rfl ⟨by rw [hst, if_neg (by assumption), if_neg (by omega)]; exact (bI_f Bool.false_ne_true).symm, by rw [hst, if_neg (by assumption), if_neg (by omega)], hT⟩
        · refine r_iload_n C dX6_readOne_55 rfl ?_
          refine r_bipush C (v := 33) dX6_readOne_56 (by decide) ?_
          refine r_iceq C (tgt := 67) dX6_readOne_58 rfl (fun h58_8 => ?_) (fun h58_8 => ?_)
          · refine r_iload_n C dX6_readOne_67 rfl ?_
            refine r_bipush C (v := 6) dX6_readOne_68 (by decide) ?_
            refine b_iclt C (tgt := 75) (my := 6) rfl rfl dX6_readOne_70 rfl (fun h70_9 => ?_) (fun h70_9 => ?_)
            · exfalso; omega
            · refine r_iconst C (v := 0) dX6_readOne_73 (by decide) ?_
              exact riz C Z dX6_readOne_74 rfl ⟨by rw [hst, if_neg (by assumption), if_neg (by omega)]; exact (bI_f Bool.false_ne_true).symm, by rw [hst, if_neg (by assumption), if_neg (by omega)], hT⟩
          · refine r_iload_n C dX6_readOne_61 rfl ?_
            refine r_bipush C (v := 45) dX6_readOne_62 (by decide) ?_
            refine r_icne C (tgt := 73) dX6_readOne_64 rfl (fun h64_10 => ?_) (fun h64_10 => ?_)
            · refine r_iconst C (v := 0) dX6_readOne_73 (by decide) ?_
              exact riz C Z dX6_readOne_74 rfl ⟨by rw [hst, if_neg (by assumption), if_neg (by omega)]; exact (bI_f Bool.false_ne_true).symm, by rw [hst, if_neg (by assumption), if_neg (by omega)], hT⟩
            · refine r_iload_n C dX6_readOne_67 rfl ?_
              refine r_bipush C (v := 6) dX6_readOne_68 (by decide) ?_
              refine b_iclt C (tgt := 75) (my := 6) rfl rfl dX6_readOne_70 rfl (fun h70_11 => ?_) (fun h70_11 => ?_)
              · exfalso; omega
              · refine r_iconst C (v := 0) dX6_readOne_73 (by decide) ?_
                exact riz C Z dX6_readOne_74 rfl ⟨by rw [hst, if_neg (by assumption), if_neg (by omega)]; exact (bI_f Bool.false_ne_true).symm, by rw [hst, if_neg (by assumption), if_neg (by omega)], hT⟩
      · refine r_aload_n C dX6_readOne_27 rfl ?_
        refine r_dup C dX6_readOne_28 rfl ?_
        refine r_getI C flX6_24 dX6_readOne_29 rfl rfl ?_
        refine r_iconst C (v := 1) dX6_readOne_32 (by decide) ?_
        refine r_iadd C dX6_readOne_33 ?_
        refine r_putI C flX6_24 dX6_readOne_34 rfl rfl rfl rfl rfl ?_
        refine r_aload_n C dX6_readOne_37 rfl ?_
        refine r_getR C flX6_16 dX6_readOne_38 rfl rfl rfl ?_
        refine r_iconst C (v := -1) dX6_readOne_41 (by decide) ?_
        refine r_iload_n C dX6_readOne_42 rfl ?_
        refine r_isub C dX6_readOne_43 ?_
        refine cV (ci := 7) C hx (sX7_add_10 (d := d - 1) (by omega) _ (goP I) J true (TP_go (by decide : (10 : Nat) = 5 ∨ (10 : Nat) = 10) hT (nx_lt (nmg_ne (by assumption)))).2.1.1) moX7_add mlX6_57 miX7_add msX7_add dX6_readOne_44 rfl rfl rfl rfl rfl (by omega) rfl rfl (kv (fun I_44_12 q_44_12 => ?_))
        obtain rfl := q_44_12
        refine r_iconst C (v := 1) dX6_readOne_47 (by decide) ?_
        exact riz C Z dX6_readOne_48 rfl ⟨by rw [hst, if_neg (by assumption), if_pos (by assumption)]; exact (bI_t rfl).symm, by rw [hst, if_neg (by assumption), if_pos (by assumption)], TP_add (by decide : (10 : Nat) = 5 ∨ (10 : Nat) = 10) _ (TP_go (by decide : (10 : Nat) = 5 ∨ (10 : Nat) = 10) hT (nx_lt (nmg_ne (by assumption))))⟩
    · refine r_aload_n C dX6_readOne_12 rfl ?_
      refine cV (ci := 6) C hx (sX6_readNumber_10 (d := d - 1) (by omega) I J hT) moX6_readNumber mlX6_64 miX6_readNumber msX6_readNumber dX6_readOne_13 rfl rfl rfl rfl rfl (by omega) rfl rfl (kv (fun I_13_13 q_13_13 => ?_))
      obtain ⟨rfl, hT2⟩ := q_13_13
      refine r_iconst C (v := 1) dX6_readOne_16 (by decide) ?_
      exact riz C Z dX6_readOne_17 rfl ⟨by rw [hst, if_pos (by assumption)]; exact (bI_t rfl).symm, by rw [hst, if_pos (by assumption)], hT2⟩
  | succ m ih =>
    intro hm d hd op hop I J hT
    have hop1 : (op + 1).toInt + (m : Int) = 6 := by
      rw [tI_add (by rw [one_int]; omega) (by rw [one_int]; omega), one_int]; omega
    have hst : oneF 10 (m + 1) I = if dgF (nxF I) then (true, numF 10 I) else if 0 ≤ (nmgF (nxF I)).toInt then (true, addF 10 (goP I) (-1 - nmgF (nxF I)))
      else if nxF I = 40 then (if (jnF 10 (oneF 10 m) 5 (goP I)).1 = true ∧ nxF (jnF 10 (oneF 10 m) 5 (goP I)).2 = 41 then (true, goP (jnF 10 (oneF 10 m) 5 (goP I)).2) else (false, (jnF 10 (oneF 10 m) 5 (goP I)).2))
      else if nxF I = 33 then ((oneF 10 m (goP I)).1, addF 10 (oneF 10 m (goP I)).2 (-8))
      else if nxF I = 45 then ((oneF 10 m (goP I)).1, addF 10 (oneF 10 m (goP I)).2 (-7)) else (false, I) := rfl
    refine ent9 (own := RX6) rfl rfl rfl (fun X hg hx C Z => ?_)
    subst hg
    have tail : ¬ dgF (nxF I) → ¬ 0 ≤ (nmgF (nxF I)).toInt → (nxF I = 40 ∨ nxF I = 33 ∨ nxF I = 45) → Aw X 75 [some (.ref 3), some (.int op), some (.int (nxF I)), some (.int (nmgF (nxF I))), none] [] (st9 I J true) := by
      intro hd1 hn1 hs
      rw [if_neg hd1, if_neg hn1] at hst
      have hTg : TP 10 (goP I) := TP_go (by decide : (10 : Nat) = 5 ∨ (10 : Nat) = 10) hT (nx_lt (fun e => by rw [e] at hs; exact absurd hs (by decide)))
      obtain ⟨r, hr⟩ : ∃ r, jnF 10 (oneF 10 m) 5 (goP I) = r := ⟨_, rfl⟩
      rw [hr] at hst
      refine r_aload_n C dX6_readOne_75 rfl ?_
      refine r_dup C dX6_readOne_76 rfl ?_
      refine r_getI C flX6_24 dX6_readOne_77 rfl rfl ?_
      refine r_iconst C (v := 1) dX6_readOne_80 (by decide) ?_
      refine r_iadd C dX6_readOne_81 ?_
      refine r_putI C flX6_24 dX6_readOne_82 rfl rfl rfl rfl rfl ?_
      refine r_iload_n C dX6_readOne_85 rfl ?_
      refine r_bipush C (v := 40) dX6_readOne_86 (by decide) ?_
      refine r_icne C (tgt := 117) dX6_readOne_88 rfl (fun h88_1 => ?_) (fun h88_1 => ?_)
      · refine r_aload_n C dX6_readOne_117 rfl ?_
        refine r_iload_n C dX6_readOne_118 rfl ?_
        refine r_iconst C (v := 1) dX6_readOne_119 (by decide) ?_
        refine r_iadd C dX6_readOne_120 ?_
        refine cV (ci := 6) C hx (ih (by omega) (d - 1) (by omega) (op + 1) hop1 (goP I) J hTg) moX6_readOne mlX6_50 miX6_readOne msX6_readOne dX6_readOne_121 rfl rfl rfl rfl rfl (by omega) rfl rfl (ki (fun v_121_2 I_121_2 q_121_2 => ?_))
        obtain ⟨rfl, rfl, hT2⟩ := q_121_2
        refine r_istore C dX6_readOne_124 rfl rfl ?_
        refine r_aload_n C dX6_readOne_126 rfl ?_
        refine r_getR C flX6_16 dX6_readOne_127 rfl rfl rfl ?_
        refine r_iload_n C dX6_readOne_130 rfl ?_
        refine r_bipush C (v := 33) dX6_readOne_131 (by decide) ?_
        refine r_icne C (tgt := 141) dX6_readOne_133 rfl (fun h133_3 => ?_) (fun h133_3 => ?_)
        · have h45 : nxF I = 45 := hs.elim (fun e => absurd e (by assumption)) (fun e => e.elim (fun e => absurd e (by assumption)) id)
          refine r_bipush C (v := -7) dX6_readOne_141 (by decide) ?_
          refine cV (ci := 7) C hx (sX7_add_10 (d := d - 1) (by omega) _ _ J true hT2.2.1.1) moX7_add mlX6_57 miX7_add msX7_add dX6_readOne_143 rfl rfl rfl rfl rfl (by omega) rfl rfl (kv (fun I_143_4 q_143_4 => ?_))
          obtain rfl := q_143_4
          refine r_iload C dX6_readOne_146 rfl ?_
          exact riz C Z dX6_readOne_148 bI_nar ⟨by rw [hst, if_neg (by assumption), if_neg (by assumption), if_pos h45], by rw [hst, if_neg (by assumption), if_neg (by assumption), if_pos h45], TP_add (by decide : (10 : Nat) = 5 ∨ (10 : Nat) = 10) _ hT2⟩
        · refine r_bipush C (v := -8) dX6_readOne_136 (by decide) ?_
          refine r_goto C (tgt := 143) dX6_readOne_138 rfl ?_
          refine cV (ci := 7) C hx (sX7_add_10 (d := d - 1) (by omega) _ _ J true hT2.2.1.1) moX7_add mlX6_57 miX7_add msX7_add dX6_readOne_143 rfl rfl rfl rfl rfl (by omega) rfl rfl (kv (fun I_143_5 q_143_5 => ?_))
          obtain rfl := q_143_5
          refine r_iload C dX6_readOne_146 rfl ?_
          exact riz C Z dX6_readOne_148 bI_nar ⟨by rw [hst, if_neg (by assumption), if_pos (by assumption)], by rw [hst, if_neg (by assumption), if_pos (by assumption)], TP_add (by decide : (10 : Nat) = 5 ∨ (10 : Nat) = 10) _ hT2⟩
      · refine r_aload_n C dX6_readOne_91 rfl ?_
        refine r_iconst C (v := 0) dX6_readOne_92 (by decide) ?_
        refine r_iload_n C dX6_readOne_93 rfl ?_
        refine r_iconst C (v := 1) dX6_readOne_94 (by decide) ?_
        refine r_iadd C dX6_readOne_95 ?_
        refine cV (ci := 6) C hx (sX6_readJoined_10 m (ih (by omega)) 5 (by decide) (d - 1) (by omega) 0 (op + 1) (by decide) hop1 (goP I) J hTg) moX6_readJoined mlX6_42 miX6_readJoined msX6_readJoined dX6_readOne_96 rfl rfl rfl rfl rfl (by omega) rfl rfl (ki (fun v_96_6 I_96_6 q_96_6 => ?_))
        rw [hr] at q_96_6
        obtain ⟨rfl, rfl, hT2⟩ := q_96_6
        refine z_ifeq C (tgt := 115) dX6_readOne_99 rfl (fun h99_7 => ?_) (fun h99_7 => ?_)
        · refine r_iconst C (v := 0) dX6_readOne_115 (by decide) ?_
          exact riz C Z dX6_readOne_116 rfl ⟨by rw [hst, if_pos (by assumption), if_neg (fun z => absurd z.1 (by assumption))]; exact (bI_f Bool.false_ne_true).symm, by rw [hst, if_pos (by assumption), if_neg (fun z => absurd z.1 (by assumption))], hT2⟩
        · refine r_aload_n C dX6_readOne_102 rfl ?_
          refine r_bipush C (v := 41) dX6_readOne_103 (by decide) ?_
          refine cV (ci := 6) C hx (sX6_passes (d := d - 1) (by omega) 41 r.2 J true hT2.1.1 hT2.1.2.2) moX6_passes mlX6_34 miX6_passes msX6_passes dX6_readOne_105 rfl rfl rfl rfl rfl (by omega) rfl rfl (ki (fun v_105_8 I_105_8 q_105_8 => ?_))
          obtain ⟨rfl, rfl⟩ := q_105_8
          refine z_ifeq C (tgt := 115) dX6_readOne_108 rfl (fun h108_9 => ?_) (fun h108_9 => ?_)
          · refine r_iconst C (v := 0) dX6_readOne_115 (by decide) ?_
            exact riz C Z dX6_readOne_116 rfl ⟨by rw [hst, if_pos (‹nxF I = 40›), if_neg (fun z => absurd z.2 (‹¬ nxF r.2 = 41›))]; exact (bI_f Bool.false_ne_true).symm, by rw [if_neg (‹¬ nxF r.2 = 41›), hst, if_pos (‹nxF I = 40›), if_neg (fun z => absurd z.2 (‹¬ nxF r.2 = 41›))], by rw [if_neg (by assumption)]; exact hT2⟩
          · refine r_iconst C (v := 1) dX6_readOne_111 (by decide) ?_
            refine r_goto C (tgt := 116) dX6_readOne_112 rfl ?_
            exact riz C Z dX6_readOne_116 rfl ⟨by rw [hst, if_pos (by assumption), if_pos ⟨by assumption, by assumption⟩]; exact (bI_t rfl).symm, by rw [if_pos (‹nxF r.2 = 41›), hst, if_pos (‹nxF I = 40›), if_pos ⟨by assumption, ‹nxF r.2 = 41›⟩], by rw [if_pos (by assumption)]; exact TP_go (by decide : (10 : Nat) = 5 ∨ (10 : Nat) = 10) hT2 (nx_lt (fun e => absurd (e.symm.trans (‹nxF r.2 = 41›)) (by decide)))⟩
    refine r_aload_n C dX6_readOne_0 rfl ?_
    refine cV (ci := 6) C hx (sX6_next (d := d - 1) (by omega) I J true hT.1.1 hT.1.2.2) moX6_next mlX6_38 miX6_next msX6_next dX6_readOne_1 rfl rfl rfl rfl rfl (by omega) rfl rfl (kp ?_)
    refine r_istore_n C dX6_readOne_4 rfl rfl ?_
    refine r_iload_n C dX6_readOne_5 rfl ?_
    refine cS C hx (sX6_isDigit (d := d - 1) (by omega) _ I J true) moX6_isDigit mlX6_61 mtX6_isDigit dX6_readOne_6 rfl rfl (by omega) rfl rfl (kp ?_)
    refine z_ifeq C (tgt := 18) dX6_readOne_9 rfl (fun h9_3 => ?_) (fun h9_3 => ?_)
    · refine r_iload_n C dX6_readOne_18 rfl ?_
      refine cS C hx (sX6_naming (d := d - 1) (by omega) _ I J true) moX6_naming mlX6_67 mtX6_naming dX6_readOne_19 rfl rfl (by omega) rfl rfl (kp ?_)
      refine r_istore_n C dX6_readOne_22 rfl rfl ?_
      refine r_iload_n C dX6_readOne_23 rfl ?_
      refine b_iflt C (tgt := 49) dX6_readOne_24 rfl (fun h24_5 => ?_) (fun h24_5 => ?_)
      · refine r_iload_n C dX6_readOne_49 rfl ?_
        refine r_bipush C (v := 40) dX6_readOne_50 (by decide) ?_
        refine r_iceq C (tgt := 67) dX6_readOne_52 rfl (fun h52_6 => ?_) (fun h52_6 => ?_)
        · refine r_iload_n C dX6_readOne_67 rfl ?_
          refine r_bipush C (v := 6) dX6_readOne_68 (by decide) ?_
          refine b_iclt C (tgt := 75) (my := 6) rfl rfl dX6_readOne_70 rfl (fun h70_7 => ?_) (fun h70_7 => ?_)
          · exact tail (by assumption) (by omega) (Or.inl (by assumption))
          · exfalso; omega
        · refine r_iload_n C dX6_readOne_55 rfl ?_
          refine r_bipush C (v := 33) dX6_readOne_56 (by decide) ?_
          refine r_iceq C (tgt := 67) dX6_readOne_58 rfl (fun h58_8 => ?_) (fun h58_8 => ?_)
          · refine r_iload_n C dX6_readOne_67 rfl ?_
            refine r_bipush C (v := 6) dX6_readOne_68 (by decide) ?_
            refine b_iclt C (tgt := 75) (my := 6) rfl rfl dX6_readOne_70 rfl (fun h70_9 => ?_) (fun h70_9 => ?_)
            · exact tail (by assumption) (by omega) (Or.inr (Or.inl (by assumption)))
            · exfalso; omega
          · refine r_iload_n C dX6_readOne_61 rfl ?_
            refine r_bipush C (v := 45) dX6_readOne_62 (by decide) ?_
            refine r_icne C (tgt := 73) dX6_readOne_64 rfl (fun h64_10 => ?_) (fun h64_10 => ?_)
            · refine r_iconst C (v := 0) dX6_readOne_73 (by decide) ?_
              exact riz C Z dX6_readOne_74 rfl ⟨by rw [hst, if_neg (by assumption), if_neg (by omega), if_neg (‹¬ nxF I = 40›), if_neg (‹¬ nxF I = 33›), if_neg (‹¬ nxF I = 45›)]; exact (bI_f Bool.false_ne_true).symm, by rw [hst, if_neg (by assumption), if_neg (by omega), if_neg (‹¬ nxF I = 40›), if_neg (‹¬ nxF I = 33›), if_neg (‹¬ nxF I = 45›)], hT⟩
            · refine r_iload_n C dX6_readOne_67 rfl ?_
              refine r_bipush C (v := 6) dX6_readOne_68 (by decide) ?_
              refine b_iclt C (tgt := 75) (my := 6) rfl rfl dX6_readOne_70 rfl (fun h70_11 => ?_) (fun h70_11 => ?_)
              · exact tail (by assumption) (by omega) (Or.inr (Or.inr (by assumption)))
              · exfalso; omega
      · refine r_aload_n C dX6_readOne_27 rfl ?_
        refine r_dup C dX6_readOne_28 rfl ?_
        refine r_getI C flX6_24 dX6_readOne_29 rfl rfl ?_
        refine r_iconst C (v := 1) dX6_readOne_32 (by decide) ?_
        refine r_iadd C dX6_readOne_33 ?_
        refine r_putI C flX6_24 dX6_readOne_34 rfl rfl rfl rfl rfl ?_
        refine r_aload_n C dX6_readOne_37 rfl ?_
        refine r_getR C flX6_16 dX6_readOne_38 rfl rfl rfl ?_
        refine r_iconst C (v := -1) dX6_readOne_41 (by decide) ?_
        refine r_iload_n C dX6_readOne_42 rfl ?_
        refine r_isub C dX6_readOne_43 ?_
        refine cV (ci := 7) C hx (sX7_add_10 (d := d - 1) (by omega) _ (goP I) J true (TP_go (by decide : (10 : Nat) = 5 ∨ (10 : Nat) = 10) hT (nx_lt (nmg_ne (by assumption)))).2.1.1) moX7_add mlX6_57 miX7_add msX7_add dX6_readOne_44 rfl rfl rfl rfl rfl (by omega) rfl rfl (kv (fun I_44_12 q_44_12 => ?_))
        obtain rfl := q_44_12
        refine r_iconst C (v := 1) dX6_readOne_47 (by decide) ?_
        exact riz C Z dX6_readOne_48 rfl ⟨by rw [hst, if_neg (by assumption), if_pos (by assumption)]; exact (bI_t rfl).symm, by rw [hst, if_neg (by assumption), if_pos (by assumption)], TP_add (by decide : (10 : Nat) = 5 ∨ (10 : Nat) = 10) _ (TP_go (by decide : (10 : Nat) = 5 ∨ (10 : Nat) = 10) hT (nx_lt (nmg_ne (by assumption))))⟩
    · refine r_aload_n C dX6_readOne_12 rfl ?_
      refine cV (ci := 6) C hx (sX6_readNumber_10 (d := d - 1) (by omega) I J hT) moX6_readNumber mlX6_64 miX6_readNumber msX6_readNumber dX6_readOne_13 rfl rfl rfl rfl rfl (by omega) rfl rfl (kv (fun I_13_13 q_13_13 => ?_))
      obtain ⟨rfl, hT2⟩ := q_13_13
      refine r_iconst C (v := 1) dX6_readOne_16 (by decide) ?_
      exact riz C Z dX6_readOne_17 rfl ⟨by rw [hst, if_pos (by assumption)]; exact (bI_t rfl).symm, by rw [hst, if_pos (by assumption)], hT2⟩
