theorem sh_ix {k : Int32} (h : inR k 5) : vp_in k 6 := vin h.1 (by have := h.2; omega)
/-- why a shelf's rings can't be read -/
def ssM (I : Is) (k : Int32) : Int32 := if inR k 5 then (if (I 87 (ix k)).toInt < 0 then -11 else if I 87 (ix k) = 51 then 1 else -12) else -1
theorem ss_in {I : Is} {k : Int32} (h : 0 ≤ (ssM I k).toInt) : inR k 5 := by
  by_cases c : inR k 5
  · exact c
  · unfold ssM at h
    rw [if_neg c] at h
    exact absurd h (by decide)
theorem ss_m1 {I : Is} {k : Int32} : ssM I k = -1 ↔ ¬ inR k 5 := by
  unfold ssM
  by_cases c : inR k 5
  · rw [if_pos c]
    refine ⟨fun z => ?_, fun z => absurd c z⟩
    split at z
    · exact absurd z (by decide)
    · split at z
      · exact absurd z (by decide)
      · exact absurd z (by decide)
  · rw [if_neg c]
    exact ⟨fun _ => c, fun _ => rfl⟩
theorem m60 {k : Int32} {i : Nat} (h : inR k 5) (hi : i < 60) : ix (60 * k + nI i) = 60 * ix k + i ∧ vp_in (60 * k + nI i) 360 := by
  obtain ⟨h0, h5⟩ := h
  have e60 : (60 : Int32).toInt = 60 := rfl
  have ik := ix_nn h0
  have ini : (nI i).toInt = (i : Int) := nIint (by omega)
  have em : (60 * k : Int32).toInt = 60 * k.toInt := by rw [tI_mul (by rw [e60]; omega) (by rw [e60]; omega), e60]
  have ea : (60 * k + nI i : Int32).toInt = ((60 * ix k + i : Nat) : Int) := by rw [tI_add (by omega) (by omega), em, ini]; omega
  exact ⟨ix_of ea, vin (by omega) (by omega)⟩
set_option maxRecDepth 100000 in
theorem sX10_shortsAre {g : Gb} {d : Nat} (hd : 2 ≤ d) (k : Int32) (I : Is) (J : Js) (b : Bool) : MC9 g d mX10_shortsAre [.ref 64, .int k] I J b (Qp (ssM I k) I J b) := by
  refine ent9 (own := RX10) rfl rfl rfl (fun X hg hx C Z => ?_)
  subst hg
  refine r_iload_n C dX10_shortsAre_0 rfl ?_
  refine cS C hx (sX10_isShelf (d := d - 1) (by omega) _ I J b) moX10_isShelf mlX10_124 mtX10_isShelf dX10_shortsAre_1 rfl rfl (by omega) rfl rfl (kp ?_)
  refine z_ifne C (tgt := 11) dX10_shortsAre_4 rfl (fun h4_2 => ?_) (fun h4_2 => ?_)
  · have hin : inR k 5 := by assumption
    refine r_aload_n C dX10_shortsAre_11 rfl ?_
    refine r_getR C flX10_76 dX10_shortsAre_12 rfl rfl rfl ?_
    refine r_iload_n C dX10_shortsAre_15 rfl ?_
    refine r_iald C rfl dX10_shortsAre_16 (sh_ix hin) ?_
    refine b_ifge C (tgt := 25) dX10_shortsAre_17 rfl (fun h17_3 => ?_) (fun h17_3 => ?_)
    · refine r_aload_n C dX10_shortsAre_25 rfl ?_
      refine r_getR C flX10_76 dX10_shortsAre_26 rfl rfl rfl ?_
      refine r_iload_n C dX10_shortsAre_29 rfl ?_
      refine r_iald C rfl dX10_shortsAre_30 (sh_ix hin) ?_
      refine r_bipush C (v := 51) dX10_shortsAre_31 (by decide) ?_
      refine r_icne C (tgt := 40) dX10_shortsAre_33 rfl (fun h33_4 => ?_) (fun h33_4 => ?_)
      · refine r_bipush C (v := -12) dX10_shortsAre_40 (by decide) ?_
        exact rp C Z dX10_shortsAre_42 (by unfold ssM; exact ((if_pos hin).trans ((if_neg (by omega)).trans (if_neg (by assumption)))).symm)
      · refine r_iconst C (v := 1) dX10_shortsAre_36 (by decide) ?_
        refine r_goto C (tgt := 42) dX10_shortsAre_37 rfl ?_
        exact rp C Z dX10_shortsAre_42 (by unfold ssM; exact ((if_pos hin).trans ((if_neg (by omega)).trans (if_pos (by assumption)))).symm)
    · refine r_bipush C (v := -11) dX10_shortsAre_20 (by decide) ?_
      refine r_goto C (tgt := 42) dX10_shortsAre_22 rfl ?_
      exact rp C Z dX10_shortsAre_42 (by unfold ssM; exact ((if_pos hin).trans (if_pos (by assumption))).symm)
  · refine r_iconst C (v := -1) dX10_shortsAre_7 (by decide) ?_
    refine r_goto C (tgt := 42) dX10_shortsAre_8 rfl ?_
    exact rp C Z dX10_shortsAre_42 (by unfold ssM; exact (if_neg (by assumption)).symm)
/-- the rings of shelf k -/
abbrev rwM (J : Js) (k : Int32) : Nat → Int64 := fun i => J 89 (60 * ix k + i)
set_option maxRecDepth 100000 in
set_option maxHeartbeats 400000 in
theorem sX10_firstFalse {g : Gb} {d : Nat} (hd : 83 ≤ d) (k : Int32) (hk : inR k 5) (n : Nat) (I I1 : Is) (J : Js) (b : Bool) {pt fr hc : Nat → Bool} {v : GV} (hn : (I 88 (ix k)).toInt = (n : Int)) (hn9 : n ≤ 60) (hN : NM I) (hv : VOk v) (hT : TH I I1 pt fr hc v) : MC9 g d mX10_firstFalse [.ref 64, .int k] I1 J b (Qi J b (fun r I' => r = fuF (rwM J k) (fun q => (goF (enM I) pt fr hc (q + 1) v).1) n 0 ∧ FrM RTM FTM I I')) := by
  have hEO := enM_ok hN
  refine ent9 (own := RX10) rfl rfl rfl (fun X hg hx C Z => ?_)
  subst hg
  have loop : ∀ (m i : Nat) (I' : Is), m + i = n → TH I I' pt fr hc (goF (enM I) pt fr hc i v) → fuF (rwM J k) (fun q => (goF (enM I) pt fr hc (q + 1) v).1) m i = fuF (rwM J k) (fun q => (goF (enM I) pt fr hc (q + 1) v).1) n 0 → Aw X 2 [some (.ref 64), some (.int k), some (.int (nI i))] [] (st9 I' J b) := by
    intro m
    induction m with
    | zero =>
      intro i I' hm hT hu
      have ini : (nI i).toInt = (i : Int) := nIint (by omega)
      have e88 : I' 88 = I 88 := hT.1.1 88 (by decide) (by decide)
      refine r_iload_n C dX10_firstFalse_2 rfl ?_
      refine r_aload_n C dX10_firstFalse_3 rfl ?_
      refine r_getR C flX10_79 dX10_firstFalse_4 rfl rfl rfl ?_
      refine r_iload_n C dX10_firstFalse_7 rfl ?_
      refine r_iald C rfl dX10_firstFalse_8 (sh_ix hk) ?_
      rw [e88]
      refine b_icge C (tgt := 44) rfl rfl dX10_firstFalse_9 rfl (fun h9_1 => ?_) (fun h9_1 => ?_)
      · refine r_bipush C (v := -2) dX10_firstFalse_44 (by decide) ?_
        exact ri C Z dX10_firstFalse_46 ⟨hu, hT.1⟩
      · exfalso; omega
    | succ m ih =>
      intro i I' hm hT hu
      have ini : (nI i).toInt = (i : Int) := nIint (by omega)
      have e88 : I' 88 = I 88 := hT.1.1 88 (by decide) (by decide)
      obtain ⟨y1, y2⟩ := m60 hk (show i < 60 by omega)
      have hst : fuF (rwM J k) (fun q => (goF (enM I) pt fr hc (q + 1) v).1) (m + 1) i = if J 89 (60 * ix k + i) = ((goF (enM I) pt fr hc (i + 1) v).1).toInt64 then fuF (rwM J k) (fun q => (goF (enM I) pt fr hc (q + 1) v).1) m (i + 1) else nI i := rfl
      refine r_iload_n C dX10_firstFalse_2 rfl ?_
      refine r_aload_n C dX10_firstFalse_3 rfl ?_
      refine r_getR C flX10_79 dX10_firstFalse_4 rfl rfl rfl ?_
      refine r_iload_n C dX10_firstFalse_7 rfl ?_
      refine r_iald C rfl dX10_firstFalse_8 (sh_ix hk) ?_
      rw [e88]
      refine b_icge C (tgt := 44) rfl rfl dX10_firstFalse_9 rfl (fun h9_1 => ?_) (fun h9_1 => ?_)
      · exfalso; omega
      · refine r_aload_n C dX10_firstFalse_12 rfl ?_
        refine cV (ci := 10) C hx (sX10_secondGoes (d := d - 1) (by omega) I' J b (hT.nm hN) (VOk.eqv hT.2.1 (go_ok hEO hv i))) moX10_secondGoes mlX10_253 miX10_secondGoes msX10_secondGoes dX10_firstFalse_13 rfl rfl rfl rfl rfl (by omega) rfl rfl (kv (fun I_13_2 q_13_2 => ?_))
        have hT2 := th_sec hN hT q_13_2
        have e21 : I_13_2 64 21 = (goF (enM I) pt fr hc (i + 1) v).1 := hT2.2.1.1
        refine r_aload_n C dX10_firstFalse_16 rfl ?_
        refine r_getR C flX10_82 dX10_firstFalse_17 rfl rfl rfl ?_
        refine r_bipush C (v := 60) dX10_firstFalse_20 (by decide) ?_
        refine r_iload_n C dX10_firstFalse_22 rfl ?_
        refine r_imul C dX10_firstFalse_23 ?_
        refine r_iload_n C dX10_firstFalse_24 rfl ?_
        refine r_iadd C dX10_firstFalse_25 ?_
        refine r_lald C rfl dX10_firstFalse_26 y2 ?_
        rw [y1]
        refine r_aload_n C dX10_firstFalse_27 rfl ?_
        refine r_getI C flX10_225 dX10_firstFalse_28 rfl rfl ?_
        rw [e21]
        refine r_i2l C dX10_firstFalse_31 ?_
        refine r_lcmp C dX10_firstFalse_32 ?_
        refine r_ifeq C (tgt := 38) dX10_firstFalse_33 rfl (fun h33_3 => ?_) (fun h33_3 => ?_)
        · refine r_iinc C (v := 1) dX10_firstFalse_38 rfl (by decide) rfl ?_
          refine r_goto C (tgt := 2) dX10_firstFalse_41 rfl ?_
          rw [nI_s]
          rw [hst, if_pos (lgc0.mp (by assumption))] at hu
          exact ih (i + 1) _ (by omega) hT2 hu
        · refine r_iload_n C dX10_firstFalse_36 rfl ?_
          exact ri C Z dX10_firstFalse_37 ⟨by rw [← hu, hst, if_neg (fun z => absurd (lgc0.mpr z) (by assumption))], hT2.1⟩
  refine r_iconst C (v := 0) dX10_firstFalse_0 (by decide) ?_
  refine r_istore_n C dX10_firstFalse_1 rfl rfl ?_
  exact loop n 0 I1 rfl hT rfl
set_option maxRecDepth 100000 in
set_option maxHeartbeats 400000 in
theorem sX10_judge {g : Gb} {d : Nat} (hd : 84 ≤ d) (k : Int32) (I : Is) (J : Js) (b : Bool) (hN : NM I) (hv : VOk (gvT I)) (hsz : ∀ t : Nat, t < 6 → 0 ≤ (I 88 t).toInt ∧ (I 88 t).toInt ≤ 60) : MC9 g d mX10_judge [.ref 64, .int k] I J b (Qi J b (fun v I' => ((ssM I k).toInt < 0 ∧ v = ssM I k ∧ I' = I) ∨ (0 ≤ (ssM I k).toInt ∧ v = fuF (rwM J k) (fun q => (goF (enM I) (bit 7) (bit 0) (bit 0) (q + 1) (bgF (gvT I))).1) (I 88 (ix k)).toInt.toNat 0 ∧ FrM RTM FTM I I'))) := by
  have hvb : VOk (bgF (gvT I)) := hv
  refine ent9 (own := RX10) rfl rfl rfl (fun X hg hx C Z => ?_)
  subst hg
  refine r_aload_n C dX10_judge_0 rfl ?_
  refine r_iload_n C dX10_judge_1 rfl ?_
  refine cV (ci := 10) C hx (sX10_shortsAre (d := d - 1) (by omega) k I J b) moX10_shortsAre mlX10_294 miX10_shortsAre msX10_shortsAre dX10_judge_2 rfl rfl rfl rfl rfl (by omega) rfl rfl (kp ?_)
  refine b_ifge C (tgt := 14) dX10_judge_5 rfl (fun h5_2 => ?_) (fun h5_2 => ?_)
  · have hkin : inR k 5 := ss_in (by assumption)
    obtain ⟨z1, z2⟩ := hsz (ix k) (by have := ix_nn hkin.1; have := hkin.2; omega)
    have hnn : (I 88 (ix k)).toInt = (((I 88 (ix k)).toInt.toNat : Nat) : Int) := by omega
    refine r_aload_n C dX10_judge_14 rfl ?_
    refine cV (ci := 10) C hx (sX10_begins1 (d := d - 1) (by omega) I J b) moX10_begins1 mlX10_258 miX10_begins1 msX10_begins1 dX10_judge_15 rfl rfl rfl rfl rfl (by omega) rfl rfl (kv (fun I_15_3 q_15_3 => ?_))
    have hT := th_bg (I := I) hN FrM.rf q_15_3
    refine r_aload_n C dX10_judge_18 rfl ?_
    refine r_iload_n C dX10_judge_19 rfl ?_
    refine cV (ci := 10) C hx (sX10_firstFalse (d := d - 1) (by omega) k hkin (I 88 (ix k)).toInt.toNat I _ J b hnn (by omega) hN hvb hT) moX10_firstFalse mlX10_297 miX10_firstFalse msX10_firstFalse dX10_judge_20 rfl rfl rfl rfl rfl (by omega) rfl rfl (ki (fun v_20_4 I_20_4 q_20_4 => ?_))
    obtain ⟨hff, hFf⟩ := q_20_4
    exact ri C Z dX10_judge_23 (Or.inr ⟨by assumption, hff, hFf⟩)
  · refine r_aload_n C dX10_judge_8 rfl ?_
    refine r_iload_n C dX10_judge_9 rfl ?_
    refine cV (ci := 10) C hx (sX10_shortsAre (d := d - 1) (by omega) k I J b) moX10_shortsAre mlX10_294 miX10_shortsAre msX10_shortsAre dX10_judge_10 rfl rfl rfl rfl rfl (by omega) rfl rfl (kp ?_)
    exact ri C Z dX10_judge_13 (Or.inl ⟨by assumption, rfl, rfl⟩)
set_option maxRecDepth 100000 in
set_option maxHeartbeats 400000 in
theorem sX10_who {g : Gb} {d : Nat} (hd : 84 ≤ d) (k w : Int32) (I : Is) (J : Js) (b : Bool) (hN : NM I) (hv : VOk (gvT I)) (hsz : ∀ t : Nat, t < 6 → 0 ≤ (I 88 t).toInt ∧ (I 88 t).toInt ≤ 60) : MC9 g d mX10_who [.ref 64, .int k, .int w] I J b (Qi J b (fun v I' => ((ssM I k = -1 ∨ ¬ inR w 1) ∧ v = -1 ∧ I' = I) ∨ (¬ (ssM I k = -1 ∨ ¬ inR w 1) ∧ (ssM I k).toInt < 0 ∧ v = ssM I k ∧ I' = I) ∨ (¬ (ssM I k = -1 ∨ ¬ inR w 1) ∧ 0 ≤ (ssM I k).toInt ∧ v = (if w = 0 then sfF (fun q_ => fuF (rwM J k) (fun q => (goF (enM I) (bit (nI q_)) (bit 0) (bit 0) (q + 1) (bgF (gvT I))).1) (I 88 (ix k)).toInt.toNat 0) (2 ^ (I 64 6).toInt.toNat) 0 0 else lsetF (fun q_ => fuF (rwM J k) (fun q => (goF (enM I) (bit (nI q_)) (bit 0) (bit 0) (q + 1) (bgF (gvT I))).1) (I 88 (ix k)).toInt.toNat 0) (2 ^ (I 64 6).toInt.toNat) 0) ∧ FrM RTM FTM I I'))) := by
  have hvb : VOk (bgF (gvT I)) := hv
  have hs0 := hN.1.1
  have hs3 := hN.1.2.1
  obtain ⟨s, hs⟩ : ∃ s : Nat, (I 64 6).toInt = (s : Int) := ⟨(I 64 6).toInt.toNat, by omega⟩
  have hsn : (I 64 6).toInt.toNat = s := by omega
  rw [hsn]
  have hs6 : I 64 6 = nI s := Int32.toInt_inj.mp (by rw [nIint (by omega)]; exact hs)
  have h2s : (1 <<< (nI s &&& 31) : Int32).toInt = ((2 ^ s : Nat) : Int) := by
    have key : ∀ s, s < 4 → (1 <<< (nI s &&& 31) : Int32).toInt = ((2 ^ s : Nat) : Int) := by decide +kernel
    exact key s (by omega)
  have h28 : 2 ^ s ≤ 8 := by
    rcases (show s = 0 ∨ s = 1 ∨ s = 2 ∨ s = 3 by omega) with rfl | rfl | rfl | rfl <;> decide
  refine ent9 (own := RX10) rfl rfl rfl (fun X hg hx C Z => ?_)
  subst hg
  have loop : ∀ (u : Nat → Int32) (m t cn : Nat) (fi : Int32) (I' : Is), u = (fun q_ => fuF (rwM J k) (fun q => (goF (enM I) (bit (nI q_)) (bit 0) (bit 0) (q + 1) (bgF (gvT I))).1) (I 88 (ix k)).toInt.toNat 0) → ¬ (ssM I k = -1 ∨ ¬ inR w 1) → 0 ≤ (ssM I k).toInt → m + t = 2 ^ s → cn ≤ t → FrM RTM FTM I I' → sfF u m t (nI cn) = sfF u (2 ^ s) 0 0 → (if cn = 0 then fi = -2 ∧ lsetF u m t = lsetF u (2 ^ s) 0 else fi = lsetF u (2 ^ s) 0) → Aw X 44 [some (.ref 64), some (.int k), some (.int w), some (.int (nI cn)), some (.int fi), some (.int (nI t))] [] (st9 I' J b) := by
    intro u m
    induction m with
    | zero =>
      intro t cn fi I' hu hnb hss hm hct hF hsf hls
      have int_ : (nI t).toInt = (t : Int) := nIint (by omega)
      have e6 : I' 64 6 = I 64 6 := hF.2 6 (by decide)
      have hfin : fi = lsetF u (2 ^ s) 0 := by
        by_cases c : cn = 0
        · rw [if_pos c] at hls
          rw [← hls.2]; exact hls.1
        · rw [if_neg c] at hls; exact hls
      refine r_iload C dX10_who_44 rfl ?_
      refine r_iconst C (v := 1) dX10_who_46 (by decide) ?_
      refine r_aload_n C dX10_who_47 rfl ?_
      refine r_getI C flX10_102 dX10_who_48 rfl rfl ?_
      rw [e6, hs6]
      refine r_ishl C dX10_who_51 ?_
      skip
      refine b_icge C (tgt := 97) rfl rfl dX10_who_52 rfl (fun h52_1 => ?_) (fun h52_1 => ?_)
      · refine r_iload_n C dX10_who_97 rfl ?_
        refine r_ifne C (tgt := 105) dX10_who_98 rfl (fun h98_2 => ?_) (fun h98_2 => ?_)
        · refine r_iload C dX10_who_105 rfl ?_
          exact ri C Z dX10_who_107 (show (_ ∨ _ ∨ _) from Or.inr (Or.inr ⟨hnb, hss, by rw [← hu]; exact hfin.trans (if_neg (by assumption)).symm, hF⟩))
        · refine r_iload_n C dX10_who_101 rfl ?_
          refine r_goto C (tgt := 107) dX10_who_102 rfl ?_
          exact ri C Z dX10_who_107 (show (_ ∨ _ ∨ _) from Or.inr (Or.inr ⟨hnb, hss, by rw [← hu]; exact ((if_pos (by assumption)).trans hsf.symm).symm, hF⟩))
      · exfalso; omega
    | succ m ih =>
      intro t cn fi I' hu hnb hss hm hct hF hsf hls
      have int_ : (nI t).toInt = (t : Int) := nIint (by omega)
      have inc : (nI cn).toInt = (cn : Int) := nIint (by omega)
      have e6 : I' 64 6 = I 64 6 := hF.2 6 (by decide)
      have hut : fuF (rwM J k) (fun q => (goF (enM I) (bit (nI t)) (bit 0) (bit 0) (q + 1) (bgF (gvT I))).1) (I 88 (ix k)).toInt.toNat 0 = u t := by rw [hu]
      have hsf1 : sfF u (m + 1) t (nI cn) = sfF u m (t + 1) (if u t = -2 then nI cn + 1 else nI cn) := rfl
      have hls1 : lsetF u (m + 1) t = if u t = -2 then nI t else lsetF u m (t + 1) := rfl
      have hkin : inR k 5 := ss_in (hss)
      obtain ⟨z1, z2⟩ := hsz (ix k) (by have := ix_nn hkin.1; have := hkin.2; omega)
      have hnn : (I 88 (ix k)).toInt = (((I 88 (ix k)).toInt.toNat : Nat) : Int) := by omega
      refine r_iload C dX10_who_44 rfl ?_
      refine r_iconst C (v := 1) dX10_who_46 (by decide) ?_
      refine r_aload_n C dX10_who_47 rfl ?_
      refine r_getI C flX10_102 dX10_who_48 rfl rfl ?_
      rw [e6, hs6]
      refine r_ishl C dX10_who_51 ?_
      refine b_icge C (tgt := 97) rfl rfl dX10_who_52 rfl (fun h52_1 => ?_) (fun h52_1 => ?_)
      · exfalso; omega
      · refine r_aload_n C dX10_who_55 rfl ?_
        refine cV (ci := 10) C hx (sX10_begins1 (d := d - 1) (by omega) I' J b) moX10_begins1 mlX10_258 miX10_begins1 msX10_begins1 dX10_who_56 rfl rfl rfl rfl rfl (by omega) rfl rfl (kv (fun I_56_2 q_56_2 => ?_))
        have hT := th_bg (I := I) hN hF q_56_2
        refine r_aload_n C dX10_who_59 rfl ?_
        refine r_iload C dX10_who_60 rfl ?_
        refine r_putI C flX10_234 dX10_who_62 rfl rfl rfl rfl rfl ?_
        have hT3 := hT.pt hN (nI t)
        refine r_aload_n C dX10_who_65 rfl ?_
        refine r_iload_n C dX10_who_66 rfl ?_
        refine cV (ci := 10) C hx (sX10_firstFalse (d := d - 1) (by omega) k hkin (I 88 (ix k)).toInt.toNat I _ J b hnn (by omega) hN hvb hT3) moX10_firstFalse mlX10_297 miX10_firstFalse msX10_firstFalse dX10_who_67 rfl rfl rfl rfl rfl (by omega) rfl rfl (ki (fun v_67_3 I_67_3 q_67_3 => ?_))
        obtain ⟨hff, hFf⟩ := q_67_3
        rw [hff, hut]
        refine r_bipush C (v := -2) dX10_who_70 (by decide) ?_
        refine r_icne C (tgt := 91) dX10_who_72 rfl (fun h72_4 => ?_) (fun h72_4 => ?_)
        · refine r_iinc C (v := 1) dX10_who_91 rfl (by decide) rfl ?_
          refine r_goto C (tgt := 44) dX10_who_94 rfl ?_
          rw [nI_s]
          rw [hsf1, if_neg (by assumption)] at hsf
          rw [hls1.trans (if_neg (by assumption))] at hls
          exact ih (t + 1) cn fi _ hu hnb hss (by omega) (by omega) hFf hsf hls
        · refine r_iload_n C dX10_who_75 rfl ?_
          refine r_ifne C (tgt := 84) dX10_who_76 rfl (fun h76_5 => ?_) (fun h76_5 => ?_)
          · refine r_iload C dX10_who_84 rfl ?_
            refine r_istore C dX10_who_86 rfl rfl ?_
            refine r_iinc C (v := 1) dX10_who_88 rfl (by decide) rfl ?_
            refine r_iinc C (v := 1) dX10_who_91 rfl (by decide) rfl ?_
            refine r_goto C (tgt := 44) dX10_who_94 rfl ?_
            rw [nI_s, nI_s]
            rw [hsf1, if_pos (by assumption), nI_s] at hsf
            rw [hls1.trans (if_pos (by assumption))] at hls
            have hc0 : ¬ cn = 0 := fun e => absurd (show nI cn = 0 by rw [e]; rfl) (by assumption)
            rw [if_neg hc0] at hls
            exact ih (t + 1) (cn + 1) _ _ hu hnb hss (by omega) (by omega) hFf hsf (by rw [if_neg (Nat.succ_ne_zero cn)]; exact hls)
          · refine r_iload C dX10_who_79 rfl ?_
            refine r_goto C (tgt := 86) dX10_who_81 rfl ?_
            refine r_istore C dX10_who_86 rfl rfl ?_
            refine r_iinc C (v := 1) dX10_who_88 rfl (by decide) rfl ?_
            refine r_iinc C (v := 1) dX10_who_91 rfl (by decide) rfl ?_
            refine r_goto C (tgt := 44) dX10_who_94 rfl ?_
            rw [nI_s, nI_s]
            rw [hsf1, if_pos (by assumption), nI_s] at hsf
            rw [hls1.trans (if_pos (by assumption))] at hls
            have hc0 : cn = 0 := by have := congrArg Int32.toInt (show nI cn = 0 by assumption); rw [show (0 : Int32).toInt = 0 from rfl] at this; omega
            rw [if_pos hc0] at hls
            exact ih (t + 1) (cn + 1) _ _ hu hnb hss (by omega) (by omega) hFf hsf (by rw [if_neg (Nat.succ_ne_zero cn)]; exact hls.2)
  refine r_aload_n C dX10_who_0 rfl ?_
  refine r_iload_n C dX10_who_1 rfl ?_
  refine cV (ci := 10) C hx (sX10_shortsAre (d := d - 1) (by omega) k I J b) moX10_shortsAre mlX10_294 miX10_shortsAre msX10_shortsAre dX10_who_2 rfl rfl rfl rfl rfl (by omega) rfl rfl (kp ?_)
  refine r_iconst C (v := -1) dX10_who_5 (by decide) ?_
  refine r_iceq C (tgt := 19) dX10_who_6 rfl (fun h6_2 => ?_) (fun h6_2 => ?_)
  · refine r_iconst C (v := -1) dX10_who_19 (by decide) ?_
    exact ri C Z dX10_who_20 (show (_ ∨ _ ∨ _) from Or.inl ⟨Or.inl (by assumption), rfl, rfl⟩)
  · refine r_iload_n C dX10_who_9 rfl ?_
    refine r_i2l C dX10_who_10 ?_
    refine r_lconst C (v := 0) dX10_who_11 (by decide) ?_
    refine r_lconst C (v := 1) dX10_who_12 (by decide) ?_
    refine cS C hx (sWi (d := d - 1) _ (lo := 0) (hi := 1) rfl rfl I J b) moX10_within mlX10_105 mtX10_within dX10_who_13 rfl rfl (by omega) rfl rfl (kp ?_)
    refine z_ifne C (tgt := 21) dX10_who_16 rfl (fun h16_4 => ?_) (fun h16_4 => ?_)
    · have hnb : ¬ (ssM I k = -1 ∨ ¬ inR w 1) := fun z => z.elim (by assumption) (fun y => y (by assumption))
      refine r_aload_n C dX10_who_21 rfl ?_
      refine r_iload_n C dX10_who_22 rfl ?_
      refine cV (ci := 10) C hx (sX10_shortsAre (d := d - 1) (by omega) k I J b) moX10_shortsAre mlX10_294 miX10_shortsAre msX10_shortsAre dX10_who_23 rfl rfl rfl rfl rfl (by omega) rfl rfl (kp ?_)
      refine b_ifge C (tgt := 35) dX10_who_26 rfl (fun h26_6 => ?_) (fun h26_6 => ?_)
      · refine r_iconst C (v := 0) dX10_who_35 (by decide) ?_
        refine r_istore_n C dX10_who_36 rfl rfl ?_
        refine r_bipush C (v := -2) dX10_who_37 (by decide) ?_
        refine r_istore C dX10_who_39 rfl rfl ?_
        refine r_iconst C (v := 0) dX10_who_41 (by decide) ?_
        refine r_istore C dX10_who_42 rfl rfl ?_
        exact loop _ (2 ^ s) 0 0 (-2) I rfl hnb (by assumption) rfl (Nat.le_refl 0) FrM.rf rfl (by rw [if_pos rfl]; exact ⟨rfl, rfl⟩)
      · refine r_aload_n C dX10_who_29 rfl ?_
        refine r_iload_n C dX10_who_30 rfl ?_
        refine cV (ci := 10) C hx (sX10_shortsAre (d := d - 1) (by omega) k I J b) moX10_shortsAre mlX10_294 miX10_shortsAre msX10_shortsAre dX10_who_31 rfl rfl rfl rfl rfl (by omega) rfl rfl (kp ?_)
        exact ri C Z dX10_who_34 (show (_ ∨ _ ∨ _) from Or.inr (Or.inl ⟨hnb, by assumption, rfl, rfl⟩))
    · refine r_iconst C (v := -1) dX10_who_19 (by decide) ?_
      exact ri C Z dX10_who_20 (show (_ ∨ _ ∨ _) from Or.inl ⟨Or.inr (by assumption), rfl, rfl⟩)
