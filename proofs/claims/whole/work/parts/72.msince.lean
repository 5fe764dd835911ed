set_option maxRecDepth 100000 in
set_option maxHeartbeats 400000 in
theorem sX10_since {g : Gb} {d : Nat} (hd : 84 ≤ d) (k x : Int32) (I : Is) (J : Js) (b : Bool) (hN : NM I) (hv : VOk (gvT I)) (hsz : ∀ t : Nat, t < 6 → 0 ≤ (I 88 t).toInt ∧ (I 88 t).toInt ≤ 60) (hps : 0 ≤ (I 64 9).toInt ∧ (I 64 9).toInt ≤ 999) : MC9 g d mX10_since [.ref 64, .int k, .int x] I J b (Qi J b (fun v I' => ((ssM I k = -1 ∨ ¬ inM I x) ∧ v = -1 ∧ I' = I) ∨ (¬ (ssM I k = -1 ∨ ¬ inM I x) ∧ (ssM I k).toInt < 0 ∧ v = ssM I k ∧ I' = I) ∨ (¬ (ssM I k = -1 ∨ ¬ inM I x) ∧ 0 ≤ (ssM I k).toInt ∧ v = sbkF (fun q_ => fuF (rwM J k) (fun q => (goF (enM (u2 I 65 (8 * ix x + 7) (I 64 9 + nI q_))) (bit 7) (bit 0) (bit 0) (q + 1) (bgF (gvT I))).1) (I 88 (ix k)).toInt.toNat 0) ((I 88 (ix k)).toInt.toNat + 1) 0 ∧ FrM RTM FTM I I'))) := by
  have hs0 := hN.1.1
  have hs3 := hN.1.2.1
  refine ent9 (own := RX10) rfl rfl rfl (fun X hg hx C Z => ?_)
  subst hg
  have loop : ∀ (u : Nat → Int32) (j : Nat), x = nI j → (j : Int) < (I 64 6).toInt → u = (fun q_ => fuF (rwM J k) (fun q => (goF (enM (u2 I 65 (8 * j + 7) (I 64 9 + nI q_))) (bit 7) (bit 0) (bit 0) (q + 1) (bgF (gvT I))).1) (I 88 (ix k)).toInt.toNat 0) → ¬ (ssM I k = -1 ∨ ¬ inM I x) → 0 ≤ (ssM I k).toInt → ∀ (i : Nat) (y : Int32) (I' : Is) , y.toInt = (i : Int) - 1 → i ≤ (I 88 (ix k)).toInt.toNat + 1 → FrM (65 :: RTM) FTM I I' → (∀ q, q ≠ 8 * j + 7 → I' 65 q = I 65 q) → Aw X 61 [some (.ref 64), some (.int k), some (.int (nI j)), some (.int (8 * nI j + 7)), some (.int (I 65 (8 * j + 7))), some (.int (sbkF u ((I 88 (ix k)).toInt.toNat + 1 - i) i)), some (.int y)] [] (st9 I' J b) := by
    intro u j hxj hj hu hnb hss i
    have hjx : ix x = j := by rw [hxj]; exact nIix (by omega)
    obtain ⟨hpx, hpv⟩ := mpl j 7 (by omega) (by decide)
    have hpx : ix (8 * nI j + 7) = 8 * j + 7 := hpx
    have hpv : vp_in (8 * nI j + 7) 28 := hpv
    have hkin : inR k 5 := ss_in hss
    obtain ⟨z1, z2⟩ := hsz (ix k) (by have := ix_nn hkin.1; have := hkin.2; omega)
    have hnn : (I 88 (ix k)).toInt = (((I 88 (ix k)).toInt.toNat : Nat) : Int) := by omega
    induction i with
    | zero =>
      intro y I' hy hi hF hk
      refine r_iload C dX10_since_61 rfl ?_
      refine b_iflt C (tgt := 108) dX10_since_63 rfl (fun h63_1 => ?_) (fun h63_1 => ?_)
      · refine r_aload_n C dX10_since_108 rfl ?_
        refine r_getR C flX10_9 dX10_since_109 rfl rfl rfl ?_
        refine r_iload_n C dX10_since_112 rfl ?_
        refine r_iload C dX10_since_113 rfl ?_
        refine r_iast C rfl dX10_since_115 hpv ?_
        rw [hpx]
        refine r_iload C dX10_since_116 rfl ?_
        exact ri C Z dX10_since_118 (show (_ ∨ _ ∨ _) from Or.inr (Or.inr ⟨hnb, hss, by rw [hjx, ← hu]; rfl, fr_65c hF hk⟩))
      · exfalso; omega
    | succ i ih =>
      intro y I' hy hi hF hk
      have hyi : y = nI i := Int32.toInt_inj.mp (by rw [nIint (by omega)]; omega)
      subst hyi
      have ini : (nI i).toInt = (i : Int) := nIint (by omega)
      have e9 : I' 64 9 = I 64 9 := hF.2 9 (by decide)
      have es : (I 64 9 + nI i).toInt = (I 64 9).toInt + i := by rw [tI_add (by omega) (by omega), ini]
      have hNv : NM (u2 I 65 (8 * j + 7) (I 64 9 + nI i)) := NM_65 hN hj (Or.inr (Or.inr (Or.inr ⟨rfl, by omega, by omega⟩)))
      have hFv := fr_65 (I 64 9 + nI i) hF hk
      have hvb : VOk (bgF (gvT (u2 I 65 (8 * j + 7) (I 64 9 + nI i)))) := hv
      have hui : u i = fuF (rwM J k) (fun q => (goF (enM (u2 I 65 (8 * j + 7) (I 64 9 + nI i))) (bit 7) (bit 0) (bit 0) (q + 1) (bgF (gvT I))).1) (I 88 (ix k)).toInt.toNat 0 := by rw [hu]
      have hsb : sbkF u ((I 88 (ix k)).toInt.toNat + 1 - i) i = if u i = -2 then nI i else sbkF u ((I 88 (ix k)).toInt.toNat - i) (i + 1) := by
        rw [show (I 88 (ix k)).toInt.toNat + 1 - i = ((I 88 (ix k)).toInt.toNat - i) + 1 by omega]
        rfl
      rw [show (I 88 (ix k)).toInt.toNat + 1 - (i + 1) = (I 88 (ix k)).toInt.toNat - i by omega]
      refine r_iload C dX10_since_61 rfl ?_
      refine b_iflt C (tgt := 108) dX10_since_63 rfl (fun h63_1 => ?_) (fun h63_1 => ?_)
      · exfalso; omega
      · refine r_aload_n C dX10_since_66 rfl ?_
        refine r_getR C flX10_9 dX10_since_67 rfl rfl rfl ?_
        refine r_iload_n C dX10_since_70 rfl ?_
        refine r_aload_n C dX10_since_71 rfl ?_
        refine r_getI C flX10_160 dX10_since_72 rfl rfl ?_
        rw [e9]
        refine r_iload C dX10_since_75 rfl ?_
        refine r_iadd C dX10_since_77 ?_
        refine r_iast C rfl dX10_since_78 hpv ?_
        rw [hpx]
        refine r_aload_n C dX10_since_79 rfl ?_
        refine cV (ci := 10) C hx (sX10_begins1 (d := d - 1) (by omega) _ J b) moX10_begins1 mlX10_258 miX10_begins1 msX10_begins1 dX10_since_80 rfl rfl rfl rfl rfl (by omega) rfl rfl (kv (fun I_80_2 q_80_2 => ?_))
        have hT := th_bg (I := (u2 I 65 (8 * j + 7) (I 64 9 + nI i))) hNv hFv q_80_2
        refine r_aload_n C dX10_since_83 rfl ?_
        refine r_iload_n C dX10_since_84 rfl ?_
        refine cV (ci := 10) C hx (sX10_firstFalse (d := d - 1) (by omega) k hkin (I 88 (ix k)).toInt.toNat (u2 I 65 (8 * j + 7) (I 64 9 + nI i)) _ J b hnn (by omega) hNv hvb hT) moX10_firstFalse mlX10_297 miX10_firstFalse msX10_firstFalse dX10_since_85 rfl rfl rfl rfl rfl (by omega) rfl rfl (ki (fun v_85_3 I_85_3 q_85_3 => ?_))
        obtain ⟨hff, hFf⟩ := q_85_3
        have hff2 : v_85_3 = u i := hff.trans hui.symm
        rw [hff2]
        obtain ⟨hFc, hkc⟩ := fr_65b hFf
        refine r_bipush C (v := -2) dX10_since_88 (by decide) ?_
        refine r_icne C (tgt := 98) dX10_since_90 rfl (fun h90_4 => ?_) (fun h90_4 => ?_)
        · refine r_iload C dX10_since_98 rfl ?_
          refine r_istore C dX10_since_100 rfl rfl ?_
          refine r_iinc C (v := -1) dX10_since_102 rfl (by decide) rfl ?_
          refine r_goto C (tgt := 61) dX10_since_105 rfl ?_
          have h2 := ih (nI i + -1) _ (by rw [tI_add (by rw [ini, show (-1 : Int32).toInt = -1 from rfl]; omega) (by rw [ini, show (-1 : Int32).toInt = -1 from rfl]; omega), ini, show (-1 : Int32).toInt = -1 from rfl]; omega) (by omega) hFc hkc
          rw [hsb, if_neg (by assumption)] at h2
          exact h2
        · refine r_iload C dX10_since_93 rfl ?_
          refine r_goto C (tgt := 100) dX10_since_95 rfl ?_
          refine r_istore C dX10_since_100 rfl rfl ?_
          refine r_iinc C (v := -1) dX10_since_102 rfl (by decide) rfl ?_
          refine r_goto C (tgt := 61) dX10_since_105 rfl ?_
          have h2 := ih (nI i + -1) _ (by rw [tI_add (by rw [ini, show (-1 : Int32).toInt = -1 from rfl]; omega) (by rw [ini, show (-1 : Int32).toInt = -1 from rfl]; omega), ini, show (-1 : Int32).toInt = -1 from rfl]; omega) (by omega) hFc hkc
          rw [hsb, if_pos (by assumption)] at h2
          exact h2
  refine r_aload_n C dX10_since_0 rfl ?_
  refine r_iload_n C dX10_since_1 rfl ?_
  refine cV (ci := 10) C hx (sX10_shortsAre (d := d - 1) (by omega) k I J b) moX10_shortsAre mlX10_294 miX10_shortsAre msX10_shortsAre dX10_since_2 rfl rfl rfl rfl rfl (by omega) rfl rfl (kp ?_)
  refine r_iconst C (v := -1) dX10_since_5 (by decide) ?_
  refine r_iceq C (tgt := 17) dX10_since_6 rfl (fun h6_2 => ?_) (fun h6_2 => ?_)
  · refine r_iconst C (v := -1) dX10_since_17 (by decide) ?_
    exact ri C Z dX10_since_18 (show (_ ∨ _ ∨ _) from Or.inl ⟨Or.inl (by assumption), rfl, rfl⟩)
  · refine r_aload_n C dX10_since_9 rfl ?_
    refine r_iload_n C dX10_since_10 rfl ?_
    refine cV (ci := 10) C hx (sX10_isStraw (d := d - 1) (by omega) _ I J b hs0 hs3) moX10_isStraw mlX10_130 miX10_isStraw msX10_isStraw dX10_since_11 rfl rfl rfl rfl rfl (by omega) rfl rfl (kp ?_)
    refine z_ifne C (tgt := 19) dX10_since_14 rfl (fun h14_4 => ?_) (fun h14_4 => ?_)
    · have hnb : ¬ (ssM I k = -1 ∨ ¬ inM I x) := fun z => z.elim (by assumption) (fun y => y (by assumption))
      refine r_aload_n C dX10_since_19 rfl ?_
      refine r_iload_n C dX10_since_20 rfl ?_
      refine cV (ci := 10) C hx (sX10_shortsAre (d := d - 1) (by omega) k I J b) moX10_shortsAre mlX10_294 miX10_shortsAre msX10_shortsAre dX10_since_21 rfl rfl rfl rfl rfl (by omega) rfl rfl (kp ?_)
      refine b_ifge C (tgt := 33) dX10_since_24 rfl (fun h24_6 => ?_) (fun h24_6 => ?_)
      · have hss : 0 ≤ (ssM I k).toInt := by assumption
        have hkin : inR k 5 := ss_in hss
        have hxin : inM I x := by assumption
        obtain ⟨z1, z2⟩ := hsz (ix k) (by have := ix_nn hkin.1; have := hkin.2; omega)
        obtain ⟨j, hj, hxj⟩ := nI_get hxin.1 hxin.2 (by omega)
        rw [hxj]
        obtain ⟨hpx, hpv⟩ := mpl j 7 (by omega) (by decide)
        have hpx : ix (8 * nI j + 7) = 8 * j + 7 := hpx
        have hpv : vp_in (8 * nI j + 7) 28 := hpv
        refine r_bipush C (v := 8) dX10_since_33 (by decide) ?_
        refine r_iload_n C dX10_since_35 rfl ?_
        refine r_imul C dX10_since_36 ?_
        refine r_bipush C (v := 7) dX10_since_37 (by decide) ?_
        refine r_iadd C dX10_since_39 ?_
        refine r_istore_n C dX10_since_40 rfl rfl ?_
        refine r_aload_n C dX10_since_41 rfl ?_
        refine r_getR C flX10_9 dX10_since_42 rfl rfl rfl ?_
        refine r_iload_n C dX10_since_45 rfl ?_
        refine r_iald C rfl dX10_since_46 hpv ?_
        rw [hpx]
        refine r_istore C dX10_since_47 rfl rfl ?_
        refine r_bipush C (v := -2) dX10_since_49 (by decide) ?_
        refine r_istore C dX10_since_51 rfl rfl ?_
        refine r_aload_n C dX10_since_53 rfl ?_
        refine r_getR C flX10_79 dX10_since_54 rfl rfl rfl ?_
        refine r_iload_n C dX10_since_57 rfl ?_
        refine r_iald C rfl dX10_since_58 (sh_ix hkin) ?_
        refine r_istore C dX10_since_59 rfl rfl ?_
        have h2 := loop _ j hxj hj rfl hnb hss ((I 88 (ix k)).toInt.toNat + 1) (I 88 (ix k)) I (by omega) (Nat.le_refl _) FrM.rf (fun _ _ => rfl)
        rw [Nat.sub_self] at h2
        exact h2
      · refine r_aload_n C dX10_since_27 rfl ?_
        refine r_iload_n C dX10_since_28 rfl ?_
        refine cV (ci := 10) C hx (sX10_shortsAre (d := d - 1) (by omega) k I J b) moX10_shortsAre mlX10_294 miX10_shortsAre msX10_shortsAre dX10_since_29 rfl rfl rfl rfl rfl (by omega) rfl rfl (kp ?_)
        exact ri C Z dX10_since_32 (show (_ ∨ _ ∨ _) from Or.inr (Or.inl ⟨hnb, by assumption, rfl, rfl⟩))
    · refine r_iconst C (v := -1) dX10_since_17 (by decide) ?_
      exact ri C Z dX10_since_18 (show (_ ∨ _ ∨ _) from Or.inl ⟨Or.inr (by assumption), rfl, rfl⟩)
theorem u2_u2 (I : Is) (t k : Nat) (a c : Int32) : u2 (u2 I t k a) t k c = u2 I t k c := by
  funext t' k'
  unfold u2
  by_cases h : t' = t
  · by_cases e : k' = k
    · simp [h, e]
    · simp [h, e]
  · simp [h]
set_option maxRecDepth 100000 in
set_option maxHeartbeats 400000 in
theorem sX10_drawn {g : Gb} {d : Nat} (hd : 84 ≤ d) (sd n x : Int32) (I : Is) (J : Js) (b : Bool) (hN : NM I) (hv : VOk (gvT I)) : MC9 g d mX10_drawn [.ref 64, .int sd, .int n, .int x] I J b (Qi J b (fun v I' => (¬ ((1 ≤ n.toInt ∧ n.toInt ≤ 20) ∧ (x = -1 ∨ inM I x)) ∧ v = -1 ∧ I' = I) ∨ (((1 ≤ n.toInt ∧ n.toInt ≤ 20) ∧ (x = -1 ∨ inM I x)) ∧ v = hgF (enM I) (I 65 27) (I 64 6).toInt.toNat (bgF (gvT I)) x (ix n) sd 0 ∧ FrM RTM FTM I I'))) := by
  have hvb : VOk (bgF (gvT I)) := hv
  have hEO := enM_ok hN
  have hs0 := hN.1.1
  have hs3 := hN.1.2.1
  obtain ⟨s, hs⟩ : ∃ s : Nat, (I 64 6).toInt = (s : Int) := ⟨(I 64 6).toInt.toNat, by omega⟩
  have hsn : (I 64 6).toInt.toNat = s := by omega
  rw [hsn]
  have z12 : (12 : Int32).toInt = 12 := rfl
  refine ent9 (own := RX10) rfl rfl rfl (fun X hg hx C Z => ?_)
  subst hg
  have out : ∀ (mo io : Nat) (z sm : Int32) (I' : Is) (x7 x8 : Option Value), mo + io = ix n → ((1 ≤ n.toInt ∧ n.toInt ≤ 20) ∧ (x = -1 ∨ inM I x)) → FrM RTM FTM I I' → hgF (enM I) (I 65 27) s (bgF (gvT I)) x mo z sm = hgF (enM I) (I 65 27) s (bgF (gvT I)) x (ix n) sd 0 → Aw X 36 [some (.ref 64), some (.int sd), some (.int n), some (.int x), some (.int z), some (.int sm), some (.int (nI io)), x7, x8] [] (st9 I' J b) := by
    intro mo
    induction mo with
    | zero =>
      intro io z sm I' x7 x8 hm hin hF hg
      have hnn := ix_of0 (show 0 ≤ n.toInt by have := hin.1.1; omega)
      have hn9 := hin.1.2
      have ini : (nI io).toInt = (io : Int) := nIint (by omega)
      refine r_iload C dX10_drawn_36 rfl ?_
      refine r_iload_n C dX10_drawn_38 rfl ?_
      refine b_icge C (tgt := 164) rfl rfl dX10_drawn_39 rfl (fun h39_1 => ?_) (fun h39_1 => ?_)
      · refine r_iload C dX10_drawn_164 rfl ?_
        exact ri C Z dX10_drawn_166 (show (_ ∨ _) from Or.inr ⟨hin, hg, hF⟩)
      · exfalso; omega
    | succ mo iho =>
      intro io z sm I' x7 x8 hm hin hF hg
      have hnn := ix_of0 (show 0 ≤ n.toInt by have := hin.1.1; omega)
      have hn9 := hin.1.2
      have ini : (nI io).toInt = (io : Int) := nIint (by omega)
      have hg1 : hgF (enM I) (I 65 27) s (bgF (gvT I)) x (mo + 1) z sm = hgF (enM I) (I 65 27) s (bgF (gvT I)) x mo (hsF (enM I) (I 65 27) s 60 z (bgF (gvT I))).1 (sm + (if x.toInt < 0 then (hsF (enM I) (I 65 27) s 60 z (bgF (gvT I))).2.1 else (hsF (enM I) (I 65 27) s 60 z (bgF (gvT I))).2.2.2.2.2.1 (ix x))) := rfl
      rw [hg1] at hg
      have mid : ∀ (m i : Nat) (z1 : Int32) (v : GV) (hc : Nat → Bool) (I' : Is) (x8 : Option Value), m + i = 60 → VOk v → TH I I' (bit 7) (bit 0) hc v → hsF (enM I) (I 65 27) s m z1 v = hsF (enM I) (I 65 27) s 60 z (bgF (gvT I)) → Aw X 49 [some (.ref 64), some (.int sd), some (.int n), some (.int x), some (.int z1), some (.int sm), some (.int (nI io)), some (.int (nI i)), x8] [] (st9 I' J b) := by
        intro m
        induction m with
        | zero =>
          intro i z1 v hc I' x8 hm hvv hT hh
          have inx : (nI i).toInt = (i : Int) := nIint (by omega)
          rw [← hh] at hg
          have hh0 : hsF (enM I) (I 65 27) s 0 z1 v = (z1, v) := rfl
          rw [hh0] at hg
          have e21 : I' 64 21 = v.1 := hT.2.1.1
          have hxin : ¬ x.toInt < 0 → inM I x := fun hx0 => hin.2.resolve_left (fun e => by rw [e] at hx0; exact hx0 (by decide))
          refine r_iload C dX10_drawn_49 rfl ?_
          refine r_bipush C (v := 60) dX10_drawn_51 (by decide) ?_
          refine b_icge C (tgt := 136) (my := 60) rfl rfl dX10_drawn_53 rfl (fun h53_1 => ?_) (fun h53_1 => ?_)
          · refine r_iload C dX10_drawn_136 rfl ?_
            refine r_iload_n C dX10_drawn_138 rfl ?_
            refine b_ifge C (tgt := 149) dX10_drawn_139 rfl (fun h139_2 => ?_) (fun h139_2 => ?_)
            · have hxm : inM I x := hxin (by omega)
              have hxl := hxm.2
              have hxx := ix_nn hxm.1
              have g74 : I' 74 (ix x) = v.2.2.2.2.1 (ix x) := hT.2.1.2.2.2.2.1 (ix x) (by omega)
              refine r_aload_n C dX10_drawn_149 rfl ?_
              refine r_getR C flX10_37 dX10_drawn_150 rfl rfl rfl ?_
              refine r_iload_n C dX10_drawn_153 rfl ?_
              refine r_iald C rfl dX10_drawn_154 (vin (by assumption) (show x.toInt < 3 by omega)) ?_
              rw [g74]
              refine r_iadd C dX10_drawn_155 ?_
              refine r_istore C dX10_drawn_156 rfl rfl ?_
              refine r_iinc C (v := 1) dX10_drawn_158 rfl (by decide) rfl ?_
              refine r_goto C (tgt := 36) dX10_drawn_161 rfl ?_
              rw [nI_s]
              rw [if_neg (by omega)] at hg
              exact iho (io + 1) _ _ _ _ _ (by omega) hin hT.1 hg
            · refine r_aload_n C dX10_drawn_142 rfl ?_
              refine r_getI C flX10_225 dX10_drawn_143 rfl rfl ?_
              rw [e21]
              refine r_goto C (tgt := 155) dX10_drawn_146 rfl ?_
              refine r_iadd C dX10_drawn_155 ?_
              refine r_istore C dX10_drawn_156 rfl rfl ?_
              refine r_iinc C (v := 1) dX10_drawn_158 rfl (by decide) rfl ?_
              refine r_goto C (tgt := 36) dX10_drawn_161 rfl ?_
              rw [nI_s]
              rw [if_pos (by assumption)] at hg
              exact iho (io + 1) _ _ _ _ _ (by omega) hin hT.1 hg
          · exfalso; omega
        | succ m ih =>
          intro i z1 v hc I' x8 hm hvv hT hh
          have inx : (nI i).toInt = (i : Int) := nIint (by omega)
          have hst : hsF (enM I) (I 65 27) s (m + 1) z1 v = hsF (enM I) (I 65 27) s m (hbF (I 65 27) z1 s).1 (secF (enM I) (bit 7) (bit 0) (bit (hbF (I 65 27) z1 s).2) v) := rfl
          rw [hst] at hh
          have e6 : ∀ w, (u2 I' 64 30 w 64 6).toInt = (s : Int) := fun w => by
            show (I' 64 6).toInt = _
            rw [hT.1.2 6 (by decide)]; exact hs
          have e65 : ∀ w, u2 I' 64 30 w 65 = I 65 := fun w => hT.1.1 65 (by decide) (by decide)
          have inn : ∀ (q k : Nat), q + k = s → Aw X 64 [some (.ref 64), some (.int sd), some (.int n), some (.int x), some (.int (hbF (I 65 27) z1 k).1), some (.int sm), some (.int (nI io)), some (.int (nI i)), some (.int (nI k))] [] (st9 (u2 I' 64 30 (hbF (I 65 27) z1 k).2) J b) := by
            intro q
            induction q with
            | zero =>
              intro k hk
              have ink : (nI k).toInt = (k : Int) := nIint (by omega)
              have hks : k = s := by omega
              have hTk : TH I (u2 I' 64 30 (hbF (I 65 27) z1 k).2) (bit 7) (bit 0) (bit (hbF (I 65 27) z1 k).2) v := hT.hc hN _
              have e6k := e6 (hbF (I 65 27) z1 k).2
              refine r_iload C dX10_drawn_64 rfl ?_
              refine r_aload_n C dX10_drawn_66 rfl ?_
              refine r_getI C flX10_102 dX10_drawn_67 rfl rfl ?_
              refine b_icge C (tgt := 126) rfl rfl dX10_drawn_70 rfl (fun h70_1 => ?_) (fun h70_1 => ?_)
              · refine r_aload_n C dX10_drawn_126 rfl ?_
                refine cV (ci := 10) C hx (sX10_secondGoes (d := d - 1) (by omega) _ J b (hTk.nm hN) (VOk.eqv hTk.2.1 hvv)) moX10_secondGoes mlX10_253 miX10_secondGoes msX10_secondGoes dX10_drawn_127 rfl rfl rfl rfl rfl (by omega) rfl rfl (kv (fun I_127_2 q_127_2 => ?_))
                have hT2 := th_sec hN hTk q_127_2
                rw [hks] at hT2 ⊢
                refine r_iinc C (v := 1) dX10_drawn_130 rfl (by decide) rfl ?_
                refine r_goto C (tgt := 49) dX10_drawn_133 rfl ?_
                rw [nI_s]
                exact ih (i + 1) _ _ _ _ _ (by omega) (sec_ok hEO hvv) hT2 hh
              · exfalso; omega
            | succ q ihq =>
              intro k hk
              have ink : (nI k).toInt = (k : Int) := nIint (by omega)
              have e6k := e6 (hbF (I 65 27) z1 k).2
              have e65k := e65 (hbF (I 65 27) z1 k).2
              have hb1 : hbF (I 65 27) z1 (k + 1) = ((hbF (I 65 27) z1 k).1 * 1103515245 + 12345, if (irm (ushF ((hbF (I 65 27) z1 k).1 * 1103515245 + 12345)) 12).toInt < (I 65 27).toInt then (hbF (I 65 27) z1 k).2 ||| (1 <<< (nI k &&& 31)) else (hbF (I 65 27) z1 k).2) := rfl
              refine r_iload C dX10_drawn_64 rfl ?_
              refine r_aload_n C dX10_drawn_66 rfl ?_
              refine r_getI C flX10_102 dX10_drawn_67 rfl rfl ?_
              refine b_icge C (tgt := 126) rfl rfl dX10_drawn_70 rfl (fun h70_1 => ?_) (fun h70_1 => ?_)
              · exfalso; omega
              · refine r_iload C dX10_drawn_73 rfl ?_
                refine r_ldcw C kkX10_300 dX10_drawn_75 ?_
                refine r_imul C dX10_drawn_78 ?_
                refine r_sipush C (v := 12345) dX10_drawn_79 (by decide) ?_
                refine r_iadd C dX10_drawn_82 ?_
                refine r_istore C dX10_drawn_83 rfl rfl ?_
                refine r_aload_n C dX10_drawn_85 rfl ?_
                refine r_dup C dX10_drawn_86 rfl ?_
                refine r_getI C flX10_241 dX10_drawn_87 rfl rfl ?_
                rw [show (u2 I' 64 30 (hbF (I 65 27) z1 k).2) 64 30 = (hbF (I 65 27) z1 k).2 from u2_same ..]
                refine r_iload C dX10_drawn_90 rfl ?_
                refine r_bipush C (v := 8) dX10_drawn_92 (by decide) ?_
                refine r_iushr C dX10_drawn_94 ?_
                refine r_bipush C (v := 12) dX10_drawn_95 (by decide) ?_
                refine r_irem C dX10_drawn_97 (by decide) ?_
                refine r_aload_n C dX10_drawn_98 rfl ?_
                refine r_getR C flX10_9 dX10_drawn_99 rfl rfl rfl ?_
                refine r_bipush C (v := 27) dX10_drawn_102 (by decide) ?_
                refine r_iald C rfl dX10_drawn_104 (vin (by decide) (by decide)) ?_
                rw [e65k]
                refine b_icge C (tgt := 115) rfl rfl dX10_drawn_105 rfl (fun h105_2 => ?_) (fun h105_2 => ?_)
                · have hlt : ¬ (irm (ushF ((hbF (I 65 27) z1 k).1 * 1103515245 + 12345)) 12).toInt < (I 65 27).toInt := Int.not_lt.mpr (by assumption)
                  refine r_iconst C (v := 0) dX10_drawn_115 (by decide) ?_
                  refine r_ior C dX10_drawn_116 ?_
                  refine r_putI C flX10_241 dX10_drawn_117 rfl rfl rfl rfl rfl ?_
                  refine r_iinc C (v := 1) dX10_drawn_120 rfl (by decide) rfl ?_
                  refine r_goto C (tgt := 64) dX10_drawn_123 rfl ?_
                  rw [nI_s, u2_u2, Int32.or_zero]
                  have h2 := ihq (k + 1) (by omega)
                  rw [hb1] at h2
                  rw [if_neg] at h2
                  · exact h2
                  · exact hlt
                · have hlt : (irm (ushF ((hbF (I 65 27) z1 k).1 * 1103515245 + 12345)) 12).toInt < (I 65 27).toInt := by assumption
                  refine r_iconst C (v := 1) dX10_drawn_108 (by decide) ?_
                  refine r_iload C dX10_drawn_109 rfl ?_
                  refine r_ishl C dX10_drawn_111 ?_
                  refine r_goto C (tgt := 116) dX10_drawn_112 rfl ?_
                  refine r_ior C dX10_drawn_116 ?_
                  refine r_putI C flX10_241 dX10_drawn_117 rfl rfl rfl rfl rfl ?_
                  refine r_iinc C (v := 1) dX10_drawn_120 rfl (by decide) rfl ?_
                  refine r_goto C (tgt := 64) dX10_drawn_123 rfl ?_
                  rw [nI_s, u2_u2]
                  have h2 := ihq (k + 1) (by omega)
                  rw [hb1] at h2
                  rw [if_pos] at h2
                  · exact h2
                  · exact hlt
          refine r_iload C dX10_drawn_49 rfl ?_
          refine r_bipush C (v := 60) dX10_drawn_51 (by decide) ?_
          refine b_icge C (tgt := 136) (my := 60) rfl rfl dX10_drawn_53 rfl (fun h53_1 => ?_) (fun h53_1 => ?_)
          · exfalso; omega
          · refine r_aload_n C dX10_drawn_56 rfl ?_
            refine r_iconst C (v := 0) dX10_drawn_57 (by decide) ?_
            refine r_putI C flX10_241 dX10_drawn_58 rfl rfl rfl rfl rfl ?_
            refine r_iconst C (v := 0) dX10_drawn_61 (by decide) ?_
            refine r_istore C dX10_drawn_62 rfl rfl ?_
            exact inn s 0 rfl
      refine r_iload C dX10_drawn_36 rfl ?_
      refine r_iload_n C dX10_drawn_38 rfl ?_
      refine b_icge C (tgt := 164) rfl rfl dX10_drawn_39 rfl (fun h39_1 => ?_) (fun h39_1 => ?_)
      · exfalso; omega
      · refine r_aload_n C dX10_drawn_42 rfl ?_
        refine cV (ci := 10) C hx (sX10_begins1 (d := d - 1) (by omega) I' J b) moX10_begins1 mlX10_258 miX10_begins1 msX10_begins1 dX10_drawn_43 rfl rfl rfl rfl rfl (by omega) rfl rfl (kv (fun I_43_2 q_43_2 => ?_))
        have hT := th_bg (I := I) hN hF q_43_2
        refine r_iconst C (v := 0) dX10_drawn_46 (by decide) ?_
        refine r_istore C dX10_drawn_47 rfl rfl ?_
        exact mid 60 0 z _ _ _ _ rfl hvb hT rfl
  refine r_iload_n C dX10_drawn_0 rfl ?_
  refine r_i2l C dX10_drawn_1 ?_
  refine r_lconst C (v := 1) dX10_drawn_2 (by decide) ?_
  refine r_ldc2 C kkX10_109 dX10_drawn_3 ?_
  refine cS C hx (sWi (d := d - 1) _ (lo := 1) (hi := 20) rfl rfl I J b) moX10_within mlX10_105 mtX10_within dX10_drawn_6 rfl rfl (by omega) rfl rfl (kp ?_)
  refine z_ifeq C (tgt := 25) dX10_drawn_9 rfl (fun h9_2 => ?_) (fun h9_2 => ?_)
  · refine r_iconst C (v := -1) dX10_drawn_25 (by decide) ?_
    exact ri C Z dX10_drawn_26 (show (_ ∨ _) from Or.inl ⟨fun z => absurd z.1 (by assumption), rfl, rfl⟩)
  · refine r_iload_n C dX10_drawn_12 rfl ?_
    refine r_iconst C (v := -1) dX10_drawn_13 (by decide) ?_
    refine r_iceq C (tgt := 27) dX10_drawn_14 rfl (fun h14_3 => ?_) (fun h14_3 => ?_)
    · have hin : ((1 ≤ n.toInt ∧ n.toInt ≤ 20) ∧ (x = -1 ∨ inM I x)) := ⟨by assumption, by first | exact Or.inl (by assumption) | exact Or.inr (by assumption)⟩
      refine r_iload_n C dX10_drawn_27 rfl ?_
      refine r_istore C dX10_drawn_28 rfl rfl ?_
      refine r_iconst C (v := 0) dX10_drawn_30 (by decide) ?_
      refine r_istore C dX10_drawn_31 rfl rfl ?_
      refine r_iconst C (v := 0) dX10_drawn_33 (by decide) ?_
      refine r_istore C dX10_drawn_34 rfl rfl ?_
      exact out (ix n) 0 sd 0 I _ _ rfl hin FrM.rf rfl
    · refine r_aload_n C dX10_drawn_17 rfl ?_
      refine r_iload_n C dX10_drawn_18 rfl ?_
      refine cV (ci := 10) C hx (sX10_isStraw (d := d - 1) (by omega) _ I J b hs0 hs3) moX10_isStraw mlX10_130 miX10_isStraw msX10_isStraw dX10_drawn_19 rfl rfl rfl rfl rfl (by omega) rfl rfl (kp ?_)
      refine z_ifne C (tgt := 27) dX10_drawn_22 rfl (fun h22_5 => ?_) (fun h22_5 => ?_)
      · have hin : ((1 ≤ n.toInt ∧ n.toInt ≤ 20) ∧ (x = -1 ∨ inM I x)) := ⟨by assumption, by first | exact Or.inl (by assumption) | exact Or.inr (by assumption)⟩
        refine r_iload_n C dX10_drawn_27 rfl ?_
        refine r_istore C dX10_drawn_28 rfl rfl ?_
        refine r_iconst C (v := 0) dX10_drawn_30 (by decide) ?_
        refine r_istore C dX10_drawn_31 rfl rfl ?_
        refine r_iconst C (v := 0) dX10_drawn_33 (by decide) ?_
        refine r_istore C dX10_drawn_34 rfl rfl ?_
        exact out (ix n) 0 sd 0 I _ _ rfl hin FrM.rf rfl
      · refine r_iconst C (v := -1) dX10_drawn_25 (by decide) ?_
        exact ri C Z dX10_drawn_26 (show (_ ∨ _) from Or.inl ⟨fun z => z.2.elim (by assumption) (by assumption), rfl, rfl⟩)
