abbrev inPM (I : Is) (ab : Int32) : Prop := 0 ≤ ab.toInt ∧ (0 ≤ (ab / 10).toInt ∧ (ab / 10).toInt < (I 64 6).toInt) ∧ (0 ≤ (ab - ab / 10 * 10).toInt ∧ (ab - ab / 10 * 10).toInt < (I 64 6).toInt) ∧ ¬ ab / 10 = ab - ab / 10 * 10
/-- one hands over at a mark: the first i seconds, then the others -/
def mkA (I : Is) (ja i : Nat) : GV := goF (enM I) (b1 ja) (fun _ => true) (bit 0) i (bgF (gvT I))
def mkB (I : Is) (ja jb i : Nat) : GV := goF (enM I) (b1 jb) (fun _ => true) (bit 0) (99 - i) (mkA I ja i)
def mkF (lv ga gb : Nat → Int32) (l0 : Int32) : Nat → Int32
  | 0 => l0
  | n + 1 => if (lv n).toInt < (mkF lv ga gb l0 n).toInt ∧ (ga n).toInt ≤ (gb n).toInt then lv n else mkF lv ga gb l0 n
def mkR (I : Is) (ja jb : Nat) (n : Nat) : Int32 := mkF (fun i => (mkA I ja i).1) (fun i => (mkB I ja jb i).2.2.2.2.1 ja) (fun i => (mkB I ja jb i).2.2.2.2.1 jb) (I 64 7) n
/-- alone at a glass of level l -/
def alM (I : Is) (j : Nat) (l : Int32) : Int32 := (goF (enM I) (b1 j) (fun _ => true) (bit 0) 60 (l, 0, (bgF (gvT I)).2.2)).2.2.2.2.1 j
def haF (A B : Nat → Int32) (W : Nat) : Nat → Nat × Int32 × Int32
  | 0 => (0, -1, 0)
  | n + 1 => if (haF A B W n).2.1.toInt < (if (B (W - n)).toInt ≤ (B n).toInt then A (W - n) else A n).toInt then (n, (if (B (W - n)).toInt ≤ (B n).toInt then A (W - n) else A n), (if (B (W - n)).toInt ≤ (B n).toInt then B n else B (W - n))) else haF A B W n
theorem gvT_fr {I I' : Is} {l f : List Nat} (h : FrM l f I I') (h1 : 69 ∉ l) (h2 : 81 ∉ l) (h3 : 82 ∉ l) (h4 : 83 ∉ l) (h5 : 7 ∉ f) (h6 : 8 ∉ f) (h7 : 9 ∉ f) : gvT I' = gvT I := by
  unfold gvT
  rw [h.1 69 (by decide) h1, h.1 81 (by decide) h2, h.1 82 (by decide) h3, h.1 83 (by decide) h4, h.2 7 h5, h.2 8 h6, h.2 9 h7]
set_option maxRecDepth 100000 in
set_option maxHeartbeats 400000 in
theorem sX10_mark {g : Gb} {d : Nat} (hd : 84 ≤ d) (ab : Int32) (I : Is) (J : Js) (b : Bool) (hN : NM I) (hv : VOk (gvT I)) : MC9 g d mX10_mark [.ref 64, .int ab] I J b (Qi J b (fun v I' => (¬ inPM I ab ∧ v = -1 ∧ I' = I) ∨ (inPM I ab ∧ v = mkR I (ix (ab / 10)) (ix (ab - ab / 10 * 10)) 100 ∧ FrM RTM FTM I I'))) := by
  have hvb : VOk (bgF (gvT I)) := hv
  have hEO := enM_ok hN
  have hs0 := hN.1.1
  have hs3 := hN.1.2.1
  refine ent9 (own := RX10) rfl rfl rfl (fun X hg hx C Z => ?_)
  subst hg
  have loop : ∀ (m i : Nat) (I' : Is) (x4 : Option Value), m + i = 100 → inPM I ab → FrM RTM FTM I I' → Aw X 17 [some (.ref 64), some (.int ab), some (.int (mkR I (ix (ab / 10)) (ix (ab - ab / 10 * 10)) i)), some (.int (nI i)), x4] [] (st9 I' J b) := by
    intro m
    induction m with
    | zero =>
      intro i I' x4 hm hin hF
      have ini : (nI i).toInt = (i : Int) := nIint (by omega)
      refine r_iload_n C dX10_mark_17 rfl ?_
      refine r_bipush C (v := 99) dX10_mark_18 (by decide) ?_
      refine b_icgt C (tgt := 111) (my := 99) rfl rfl dX10_mark_20 rfl (fun h20_1 => ?_) (fun h20_1 => ?_)
      · refine r_iload_n C dX10_mark_111 rfl ?_
        exact ri C Z dX10_mark_112 (show (_ ∨ _) from Or.inr ⟨hin, by rw [show i = 100 by omega], hF⟩)
      · exfalso; omega
    | succ m ih =>
      intro i I' x4 hm hin hF
      have ini : (nI i).toInt = (i : Int) := nIint (by omega)
      obtain ⟨ja, haj, hja⟩ := nI_get hin.2.1.1 hin.2.1.2 (by omega)
      obtain ⟨jb, hbj, hjb⟩ := nI_get hin.2.2.1.1 hin.2.2.1.2 (by omega)
      have ajx : ix (ab / 10) = ja := by rw [hja]; exact nIix (by omega)
      have bjx : ix (ab - ab / 10 * 10) = jb := by rw [hjb]; exact nIix (by omega)
      have aji : (ab / 10).toInt = (ja : Int) := by rw [hja]; exact nIint (by omega)
      have bji : (ab - ab / 10 * 10).toInt = (jb : Int) := by rw [hjb]; exact nIint (by omega)
      have h99 : (99 - nI i).toInt = ((99 - i : Nat) : Int) := by rw [tI_sub (x := 99) (by rw [show (99 : Int32).toInt = 99 from rfl]; omega) (by rw [show (99 : Int32).toInt = 99 from rfl]; omega), show (99 : Int32).toInt = 99 from rfl, ini]; omega
      rw [ajx, bjx] at ih ⊢
      have hmk : mkR I ja jb (i + 1) = if ((mkA I ja i).1).toInt < (mkR I ja jb i).toInt ∧ ((mkB I ja jb i).2.2.2.2.1 ja).toInt ≤ ((mkB I ja jb i).2.2.2.2.1 jb).toInt then (mkA I ja i).1 else mkR I ja jb i := rfl
      refine r_iload_n C dX10_mark_17 rfl ?_
      refine r_bipush C (v := 99) dX10_mark_18 (by decide) ?_
      refine b_icgt C (tgt := 111) (my := 99) rfl rfl dX10_mark_20 rfl (fun h20_1 => ?_) (fun h20_1 => ?_)
      · exfalso; omega
      · refine r_aload_n C dX10_mark_23 rfl ?_
        refine cV (ci := 10) C hx (sX10_begins1 (d := d - 1) (by omega) I' J b) moX10_begins1 mlX10_258 miX10_begins1 msX10_begins1 dX10_mark_24 rfl rfl rfl rfl rfl (by omega) rfl rfl (kv (fun I_24_2 q_24_2 => ?_))
        have hT := th_bg (I := I) hN hF q_24_2
        refine r_aload_n C dX10_mark_27 rfl ?_
        refine r_iconst C (v := 1) dX10_mark_28 (by decide) ?_
        refine r_putI C flX10_237 dX10_mark_29 rfl rfl rfl rfl rfl ?_
        refine r_aload_n C dX10_mark_32 rfl ?_
        refine r_iconst C (v := 1) dX10_mark_33 (by decide) ?_
        refine r_iload_n C dX10_mark_34 rfl ?_
        refine r_bipush C (v := 10) dX10_mark_35 (by decide) ?_
        refine r_idiv C dX10_mark_37 (by decide) ?_
        rw [hja]
        refine r_ishl C dX10_mark_38 ?_
        refine r_putI C flX10_234 dX10_mark_39 rfl rfl rfl rfl rfl ?_
        have hT3 := (hT.fr).pt hN (1 <<< (nI ja &&& 31))
        refine r_aload_n C dX10_mark_42 rfl ?_
        refine r_iload_n C dX10_mark_43 rfl ?_
        refine cV (ci := 10) C hx (sX10_goes (d := d - 1) (by omega) i (nI i) ini I _ J b hN hvb hT3) moX10_goes mlX10_261 miX10_goes msX10_goes dX10_mark_44 rfl rfl rfl rfl rfl (by omega) rfl rfl (kv (fun I_44_3 q_44_3 => ?_))
        have hT4 := q_44_3
        have e21 : I_44_3 64 21 = (mkA I ja i).1 := hT4.2.1.1
        refine r_aload_n C dX10_mark_47 rfl ?_
        refine r_getI C flX10_225 dX10_mark_48 rfl rfl ?_
        rw [e21]
        refine r_istore C dX10_mark_51 rfl rfl ?_
        refine r_aload_n C dX10_mark_53 rfl ?_
        refine r_iconst C (v := 1) dX10_mark_54 (by decide) ?_
        refine r_iload_n C dX10_mark_55 rfl ?_
        refine r_bipush C (v := 10) dX10_mark_56 (by decide) ?_
        refine r_irem C dX10_mark_58 (by decide) ?_
        rw [hjb]
        refine r_ishl C dX10_mark_59 ?_
        refine r_putI C flX10_234 dX10_mark_60 rfl rfl rfl rfl rfl ?_
        have hT4b := hT4.pt hN (1 <<< (nI jb &&& 31))
        refine r_aload_n C dX10_mark_63 rfl ?_
        refine r_bipush C (v := 99) dX10_mark_64 (by decide) ?_
        refine r_iload_n C dX10_mark_66 rfl ?_
        refine r_isub C dX10_mark_67 ?_
        refine cV (ci := 10) C hx (sX10_goes (d := d - 1) (by omega) (99 - i) (99 - nI i) h99 I _ J b hN (go_ok hEO hvb i) hT4b) moX10_goes mlX10_261 miX10_goes msX10_goes dX10_mark_68 rfl rfl rfl rfl rfl (by omega) rfl rfl (kv (fun I_68_4 q_68_4 => ?_))
        have hT5 := q_68_4
        have ga : I_68_4 74 (ix (ab / 10)) = (mkB I ja jb i).2.2.2.2.1 ja := by rw [ajx]; exact hT5.2.1.2.2.2.2.1 ja (by omega)
        have gb : I_68_4 74 (ix (ab - ab / 10 * 10)) = (mkB I ja jb i).2.2.2.2.1 jb := by rw [bjx]; exact hT5.2.1.2.2.2.2.1 jb (by omega)
        refine r_iload C dX10_mark_71 rfl ?_
        refine r_iload_n C dX10_mark_73 rfl ?_
        refine b_icge C (tgt := 103) rfl rfl dX10_mark_74 rfl (fun h74_5 => ?_) (fun h74_5 => ?_)
        · refine r_iload_n C dX10_mark_103 rfl ?_
          refine r_istore_n C dX10_mark_104 rfl rfl ?_
          refine r_iinc C (v := 1) dX10_mark_105 rfl (by decide) rfl ?_
          refine r_goto C (tgt := 17) dX10_mark_108 rfl ?_
          rw [nI_s]
          have h2 := ih (i + 1) _ (some (.int (mkA I ja i).1)) (by omega) hin hT5.1
          rw [hmk, if_neg (fun z => by have := z.1; omega)] at h2
          exact h2
        · refine r_aload_n C dX10_mark_77 rfl ?_
          refine r_getR C flX10_37 dX10_mark_78 rfl rfl rfl ?_
          refine r_iload_n C dX10_mark_81 rfl ?_
          refine r_bipush C (v := 10) dX10_mark_82 (by decide) ?_
          refine r_idiv C dX10_mark_84 (by decide) ?_
          refine r_iald C rfl dX10_mark_85 (vin (by omega) (show (ab / 10).toInt < 3 by omega)) ?_
          refine r_aload_n C dX10_mark_86 rfl ?_
          refine r_getR C flX10_37 dX10_mark_87 rfl rfl rfl ?_
          refine r_iload_n C dX10_mark_90 rfl ?_
          refine r_bipush C (v := 10) dX10_mark_91 (by decide) ?_
          refine r_irem C dX10_mark_93 (by decide) ?_
          refine r_iald C rfl dX10_mark_94 (vin (by omega) (show (ab - ab / 10 * 10).toInt < 3 by omega)) ?_
          refine b_icgt C (tgt := 103) rfl rfl dX10_mark_95 rfl (fun h95_6 => ?_) (fun h95_6 => ?_)
          · refine r_iload_n C dX10_mark_103 rfl ?_
            refine r_istore_n C dX10_mark_104 rfl rfl ?_
            refine r_iinc C (v := 1) dX10_mark_105 rfl (by decide) rfl ?_
            refine r_goto C (tgt := 17) dX10_mark_108 rfl ?_
            rw [nI_s]
            have h2 := ih (i + 1) _ (some (.int (mkA I ja i).1)) (by omega) hin hT5.1
            rw [hmk, if_neg (fun z => by have z2 := z.2; rw [← ga, ← gb] at z2; omega)] at h2
            exact h2
          · refine r_iload C dX10_mark_98 rfl ?_
            refine r_goto C (tgt := 104) dX10_mark_100 rfl ?_
            refine r_istore_n C dX10_mark_104 rfl rfl ?_
            refine r_iinc C (v := 1) dX10_mark_105 rfl (by decide) rfl ?_
            refine r_goto C (tgt := 17) dX10_mark_108 rfl ?_
            rw [nI_s]
            have h2 := ih (i + 1) _ (some (.int (mkA I ja i).1)) (by omega) hin hT5.1
            rw [hmk, if_pos ⟨by assumption, by rw [← ga, ← gb]; assumption⟩] at h2
            exact h2
  refine r_aload_n C dX10_mark_0 rfl ?_
  refine r_iload_n C dX10_mark_1 rfl ?_
  refine cV (ci := 10) C hx (sX10_areTwo (d := d - 1) (by omega) _ I J b hs0 hs3) moX10_areTwo mlX10_272 miX10_areTwo msX10_areTwo dX10_mark_2 rfl rfl rfl rfl rfl (by omega) rfl rfl (kp ?_)
  refine z_ifne C (tgt := 10) dX10_mark_5 rfl (fun h5_2 => ?_) (fun h5_2 => ?_)
  · refine r_aload_n C dX10_mark_10 rfl ?_
    refine r_getI C flX10_93 dX10_mark_11 rfl rfl ?_
    refine r_istore_n C dX10_mark_14 rfl rfl ?_
    refine r_iconst C (v := 0) dX10_mark_15 (by decide) ?_
    refine r_istore_n C dX10_mark_16 rfl rfl ?_
    exact loop 100 0 _ _ rfl (by assumption) FrM.rf
  · refine r_iconst C (v := -1) dX10_mark_8 (by decide) ?_
    exact ri C Z dX10_mark_9 (show (_ ∨ _) from Or.inl ⟨by assumption, rfl, rfl⟩)
set_option maxRecDepth 100000 in
set_option maxHeartbeats 400000 in
theorem sX10_alone {g : Gb} {d : Nat} (hd : 84 ≤ d) (j : Nat) (hj : j < 3) (l : Int32) (hl0 : 0 ≤ l.toInt) (hl9 : l.toInt ≤ 999) (I : Is) (J : Js) (b : Bool) (hN : NM I) (hv : VOk (gvT I)) : MC9 g d mX10_alone [.ref 64, .int (nI j), .int l] I J b (Qi J b (fun v I' => v = alM I j l ∧ FrM RTM FTM I I')) := by
  refine ent9 (own := RX10) rfl rfl rfl (fun X hg hx C Z => ?_)
  subst hg
  refine r_aload_n C dX10_alone_0 rfl ?_
  refine cV (ci := 10) C hx (sX10_begins1 (d := d - 1) (by omega) I J b) moX10_begins1 mlX10_258 miX10_begins1 msX10_begins1 dX10_alone_1 rfl rfl rfl rfl rfl (by omega) rfl rfl (kv (fun I_1_1 q_1_1 => ?_))
  have hT := th_bg (I := I) hN FrM.rf q_1_1
  refine r_aload_n C dX10_alone_4 rfl ?_
  refine r_iconst C (v := 1) dX10_alone_5 (by decide) ?_
  refine r_putI C flX10_237 dX10_alone_6 rfl rfl rfl rfl rfl ?_
  refine r_aload_n C dX10_alone_9 rfl ?_
  refine r_iload_n C dX10_alone_10 rfl ?_
  refine r_putI C flX10_225 dX10_alone_11 rfl rfl rfl rfl rfl ?_
  refine r_aload_n C dX10_alone_14 rfl ?_
  refine r_iconst C (v := 0) dX10_alone_15 (by decide) ?_
  refine r_putI C flX10_228 dX10_alone_16 rfl rfl rfl rfl rfl ?_
  refine r_aload_n C dX10_alone_19 rfl ?_
  refine r_iconst C (v := 1) dX10_alone_20 (by decide) ?_
  refine r_iload_n C dX10_alone_21 rfl ?_
  refine r_ishl C dX10_alone_22 ?_
  refine r_putI C flX10_234 dX10_alone_23 rfl rfl rfl rfl rfl ?_
  have hT3 := (((hT.fr).lv l).ic 0).pt hN (1 <<< (nI j &&& 31))
  refine r_aload_n C dX10_alone_26 rfl ?_
  refine r_bipush C (v := 60) dX10_alone_27 (by decide) ?_
  refine cV (ci := 10) C hx (sX10_goes (d := d - 1) (by omega) 60 60 rfl I _ J b hN ⟨⟨hl0, hl9⟩, (by decide : 0 ≤ (0 : Int32).toInt ∧ (0 : Int32).toInt ≤ 99)⟩ hT3) moX10_goes mlX10_261 miX10_goes msX10_goes dX10_alone_29 rfl rfl rfl rfl rfl (by omega) rfl rfl (kv (fun I_29_2 q_29_2 => ?_))
  have hT4 := q_29_2
  refine r_aload_n C dX10_alone_32 rfl ?_
  refine r_getR C flX10_37 dX10_alone_33 rfl rfl rfl ?_
  refine r_iload_n C dX10_alone_36 rfl ?_
  refine r_iald C rfl dX10_alone_37 (vin (by rw [nIint (by omega)]; omega) (show (nI j).toInt < 3 by rw [nIint (by omega)]; omega)) ?_
  rw [nIix (show j < 1000000 by omega)]
  exact ri C Z dX10_alone_38 ⟨hT4.2.1.2.2.2.2.1 j hj, hT4.1⟩
theorem alM_fr {I I' : Is} {l f : List Nat} (h : FrM l f I I') (h0 : enM I' = enM I) (h1 : gvT I' = gvT I) : alM I' = alM I := by
  funext j x
  unfold alM
  rw [h0, h1]
set_option maxRecDepth 100000 in
set_option maxHeartbeats 400000 in
theorem sX10_halves {g : Gb} {d : Nat} (hd : 85 ≤ d) (ab w : Int32) (I : Is) (J : Js) (b : Bool) (hN : NM I) (hv : VOk (gvT I)) : MC9 g d mX10_halves [.ref 64, .int ab, .int w] I J b (Qi J b (fun v I' => (¬ (inPM I ab ∧ inR w 2) ∧ v = -1 ∧ I' = I) ∨ ((inPM I ab ∧ inR w 2) ∧ v = (if w = 0 then nI (haF (fun x => alM I (ix (ab / 10)) (nI x)) (fun x => alM I (ix (ab - ab / 10 * 10)) (nI x)) (ix (I 64 7)) (ix (I 64 7) + 1)).1 else if w = 1 then (haF (fun x => alM I (ix (ab / 10)) (nI x)) (fun x => alM I (ix (ab - ab / 10 * 10)) (nI x)) (ix (I 64 7)) (ix (I 64 7) + 1)).2.1 else (haF (fun x => alM I (ix (ab / 10)) (nI x)) (fun x => alM I (ix (ab - ab / 10 * 10)) (nI x)) (ix (I 64 7)) (ix (I 64 7) + 1)).2.2) ∧ FrM (77 :: 78 :: RTM) FTM I I'))) := by
  have hs0 := hN.1.1
  have hs3 := hN.1.2.1
  have hLv : 0 ≤ (I 64 7).toInt ∧ (I 64 7).toInt ≤ 999 := hv.1
  obtain ⟨WW, hW⟩ : ∃ W, W = ix (I 64 7) := ⟨_, rfl⟩
  have hWi : (I 64 7).toInt = (WW : Int) := by rw [hW]; exact ix_of0 hLv.1
  rw [← hW]
  refine ent9 (own := RX10) rfl rfl rfl (fun X hg hx C Z => ?_)
  subst hg
  obtain ⟨A, hA⟩ : ∃ A : Nat → Int32, A = fun x => alM I (ix (ab / 10)) (nI x) := ⟨_, rfl⟩
  obtain ⟨B, hB⟩ : ∃ B : Nat → Int32, B = fun x => alM I (ix (ab - ab / 10 * 10)) (nI x) := ⟨_, rfl⟩
  rw [← hA, ← hB] at Z
  have loop2 : ∀ (m l : Nat) (I' : Is) (x7 x8 : Option Value), m + l = WW + 1 → (inPM I ab ∧ inR w 2) → FrM (77 :: 78 :: RTM) FTM I I' → (∀ x, x ≤ WW → I' 77 x = A x ∧ I' 78 x = B x) → Aw X 79 [some (.ref 64), some (.int ab), some (.int w), some (.int (nI (haF A B WW l).1)), some (.int (haF A B WW l).2.1), some (.int (haF A B WW l).2.2), some (.int (nI l)), x7, x8] [] (st9 I' J b) := by
    intro m
    induction m with
    | zero =>
      intro l I' x7 x8 hm hin hF hr
      have inl : (nI l).toInt = (l : Int) := nIint (by omega)
      have e7 : (I' 64 7).toInt = (WW : Int) := by rw [hF.2 7 (by decide)]; exact hWi
      rw [show l = WW + 1 by omega]
      rw [show l = WW + 1 by omega] at inl
      refine r_iload C dX10_halves_79 rfl ?_
      refine r_aload_n C dX10_halves_81 rfl ?_
      refine r_getI C flX10_93 dX10_halves_82 rfl rfl ?_
      refine b_icgt C (tgt := 195) rfl rfl dX10_halves_85 rfl (fun h85_1 => ?_) (fun h85_1 => ?_)
      · refine r_iload_n C dX10_halves_195 rfl ?_
        refine r_ifne C (tgt := 203) dX10_halves_196 rfl (fun h196_2 => ?_) (fun h196_2 => ?_)
        · refine r_iload_n C dX10_halves_203 rfl ?_
          refine r_iconst C (v := 1) dX10_halves_204 (by decide) ?_
          refine r_icne C (tgt := 213) dX10_halves_205 rfl (fun h205_3 => ?_) (fun h205_3 => ?_)
          · refine r_iload C dX10_halves_213 rfl ?_
            exact ri C Z dX10_halves_215 (show (_ ∨ _) from Or.inr ⟨hin, ((if_neg (by assumption)).trans (if_neg (by assumption))).symm, hF⟩)
          · refine r_iload C dX10_halves_208 rfl ?_
            refine r_goto C (tgt := 215) dX10_halves_210 rfl ?_
            exact ri C Z dX10_halves_215 (show (_ ∨ _) from Or.inr ⟨hin, ((if_neg (by assumption)).trans (if_pos (by assumption))).symm, hF⟩)
        · refine r_iload_n C dX10_halves_199 rfl ?_
          refine r_goto C (tgt := 215) dX10_halves_200 rfl ?_
          exact ri C Z dX10_halves_215 (show (_ ∨ _) from Or.inr ⟨hin, (if_pos (by assumption)).symm, hF⟩)
      · exfalso; omega
    | succ m ih =>
      intro l I' x7 x8 hm hin hF hr
      have inl : (nI l).toInt = (l : Int) := nIint (by omega)
      have lx : ix (nI l) = l := nIix (by omega)
      have e7 : (I' 64 7).toInt = (WW : Int) := by rw [hF.2 7 (by decide)]; exact hWi
      have es : (I' 64 7 - nI l).toInt = ((WW - l : Nat) : Int) := by rw [tI_sub (by omega) (by omega)]; omega
      have sx : ix (I' 64 7 - nI l) = WW - l := ix_of es
      obtain ⟨r1, r2⟩ := hr l (by omega)
      obtain ⟨r3, r4⟩ := hr (WW - l) (by omega)
      have hst : haF A B WW (l + 1) = if (haF A B WW l).2.1.toInt < (if (B (WW - l)).toInt ≤ (B l).toInt then A (WW - l) else A l).toInt then (l, (if (B (WW - l)).toInt ≤ (B l).toInt then A (WW - l) else A l), (if (B (WW - l)).toInt ≤ (B l).toInt then B l else B (WW - l))) else haF A B WW l := rfl
      refine r_iload C dX10_halves_79 rfl ?_
      refine r_aload_n C dX10_halves_81 rfl ?_
      refine r_getI C flX10_93 dX10_halves_82 rfl rfl ?_
      refine b_icgt C (tgt := 195) rfl rfl dX10_halves_85 rfl (fun h85_1 => ?_) (fun h85_1 => ?_)
      · exfalso; omega
      · refine r_aload_n C dX10_halves_88 rfl ?_
        refine r_getR C flX10_49 dX10_halves_89 rfl rfl rfl ?_
        refine r_iload C dX10_halves_92 rfl ?_
        refine r_iald C rfl dX10_halves_94 (vin (by omega) (show (nI l).toInt < 1000 by omega)) ?_
        rw [lx, r2]
        refine r_aload_n C dX10_halves_95 rfl ?_
        refine r_getR C flX10_49 dX10_halves_96 rfl rfl rfl ?_
        refine r_aload_n C dX10_halves_99 rfl ?_
        refine r_getI C flX10_93 dX10_halves_100 rfl rfl ?_
        refine r_iload C dX10_halves_103 rfl ?_
        refine r_isub C dX10_halves_105 ?_
        refine r_iald C rfl dX10_halves_106 (vin (by omega) (show (I' 64 7 - nI l).toInt < 1000 by omega)) ?_
        rw [sx, r4]
        refine b_iclt C (tgt := 114) rfl rfl dX10_halves_107 rfl (fun h107_2 => ?_) (fun h107_2 => ?_)
        · refine r_iconst C (v := 0) dX10_halves_114 (by decide) ?_
          refine r_istore C dX10_halves_115 rfl rfl ?_
          refine r_iload C dX10_halves_117 rfl ?_
          refine r_ifeq C (tgt := 137) dX10_halves_119 rfl (fun h119_3 => ?_) (fun h119_3 => ?_)
          · refine r_aload_n C dX10_halves_137 rfl ?_
            refine r_getR C flX10_46 dX10_halves_138 rfl rfl rfl ?_
            refine r_iload C dX10_halves_141 rfl ?_
            refine r_iald C rfl dX10_halves_143 (vin (by omega) (show (nI l).toInt < 1000 by omega)) ?_
            rw [lx, r1]
            refine r_istore C dX10_halves_144 rfl rfl ?_
            refine r_iload C dX10_halves_146 rfl ?_
            refine r_iload C dX10_halves_148 rfl ?_
            refine b_icle C (tgt := 189) rfl rfl dX10_halves_150 rfl (fun h150_4 => ?_) (fun h150_4 => ?_)
            · refine r_iinc C (v := 1) dX10_halves_189 rfl (by decide) rfl ?_
              refine r_goto C (tgt := 79) dX10_halves_192 rfl ?_
              rw [nI_s]
              have hfi : ¬ (B (WW - l)).toInt ≤ (B l).toInt := by omega
              have h2 := ih (l + 1) I' (some (.int 0)) (some (.int (A l))) (by omega) hin hF hr
              rw [hst, if_neg hfi, if_neg hfi, if_neg (by omega)] at h2
              exact h2
            · refine r_iload C dX10_halves_153 rfl ?_
              refine r_istore_n C dX10_halves_155 rfl rfl ?_
              refine r_iload C dX10_halves_156 rfl ?_
              refine r_istore C dX10_halves_158 rfl rfl ?_
              refine r_iload C dX10_halves_160 rfl ?_
              refine r_ifeq C (tgt := 175) dX10_halves_162 rfl (fun h162_5 => ?_) (fun h162_5 => ?_)
              · refine r_aload_n C dX10_halves_175 rfl ?_
                refine r_getR C flX10_49 dX10_halves_176 rfl rfl rfl ?_
                refine r_aload_n C dX10_halves_179 rfl ?_
                refine r_getI C flX10_93 dX10_halves_180 rfl rfl ?_
                refine r_iload C dX10_halves_183 rfl ?_
                refine r_isub C dX10_halves_185 ?_
                refine r_iald C rfl dX10_halves_186 (vin (by omega) (show (I' 64 7 - nI l).toInt < 1000 by omega)) ?_
                rw [sx, r4]
                refine r_istore C dX10_halves_187 rfl rfl ?_
                refine r_iinc C (v := 1) dX10_halves_189 rfl (by decide) rfl ?_
                refine r_goto C (tgt := 79) dX10_halves_192 rfl ?_
                rw [nI_s]
                have hfi : ¬ (B (WW - l)).toInt ≤ (B l).toInt := by omega
                have h2 := ih (l + 1) I' (some (.int 0)) (some (.int (A l))) (by omega) hin hF hr
                rw [hst, if_neg hfi, if_neg hfi, if_pos (by assumption)] at h2
                exact h2
              · exact absurd rfl (show ¬ (0 : Int32) = 0 by assumption)
          · exact absurd rfl (show ¬ (0 : Int32) = 0 by assumption)
        · refine r_iconst C (v := 1) dX10_halves_110 (by decide) ?_
          refine r_goto C (tgt := 115) dX10_halves_111 rfl ?_
          refine r_istore C dX10_halves_115 rfl rfl ?_
          refine r_iload C dX10_halves_117 rfl ?_
          refine r_ifeq C (tgt := 137) dX10_halves_119 rfl (fun h119_6 => ?_) (fun h119_6 => ?_)
          · exact absurd (show (1 : Int32) = 0 by assumption) (by decide)
          · refine r_aload_n C dX10_halves_122 rfl ?_
            refine r_getR C flX10_46 dX10_halves_123 rfl rfl rfl ?_
            refine r_aload_n C dX10_halves_126 rfl ?_
            refine r_getI C flX10_93 dX10_halves_127 rfl rfl ?_
            refine r_iload C dX10_halves_130 rfl ?_
            refine r_isub C dX10_halves_132 ?_
            refine r_iald C rfl dX10_halves_133 (vin (by omega) (show (I' 64 7 - nI l).toInt < 1000 by omega)) ?_
            rw [sx, r3]
            refine r_goto C (tgt := 144) dX10_halves_134 rfl ?_
            refine r_istore C dX10_halves_144 rfl rfl ?_
            refine r_iload C dX10_halves_146 rfl ?_
            refine r_iload C dX10_halves_148 rfl ?_
            refine b_icle C (tgt := 189) rfl rfl dX10_halves_150 rfl (fun h150_7 => ?_) (fun h150_7 => ?_)
            · refine r_iinc C (v := 1) dX10_halves_189 rfl (by decide) rfl ?_
              refine r_goto C (tgt := 79) dX10_halves_192 rfl ?_
              rw [nI_s]
              have hfi : (B (WW - l)).toInt ≤ (B l).toInt := by omega
              have h2 := ih (l + 1) I' (some (.int 1)) (some (.int (A (WW - l)))) (by omega) hin hF hr
              rw [hst, if_pos hfi, if_pos hfi, if_neg (by omega)] at h2
              exact h2
            · refine r_iload C dX10_halves_153 rfl ?_
              refine r_istore_n C dX10_halves_155 rfl rfl ?_
              refine r_iload C dX10_halves_156 rfl ?_
              refine r_istore C dX10_halves_158 rfl rfl ?_
              refine r_iload C dX10_halves_160 rfl ?_
              refine r_ifeq C (tgt := 175) dX10_halves_162 rfl (fun h162_8 => ?_) (fun h162_8 => ?_)
              · exact absurd (show (1 : Int32) = 0 by assumption) (by decide)
              · refine r_aload_n C dX10_halves_165 rfl ?_
                refine r_getR C flX10_49 dX10_halves_166 rfl rfl rfl ?_
                refine r_iload C dX10_halves_169 rfl ?_
                refine r_iald C rfl dX10_halves_171 (vin (by omega) (show (nI l).toInt < 1000 by omega)) ?_
                rw [lx, r2]
                refine r_goto C (tgt := 187) dX10_halves_172 rfl ?_
                refine r_istore C dX10_halves_187 rfl rfl ?_
                refine r_iinc C (v := 1) dX10_halves_189 rfl (by decide) rfl ?_
                refine r_goto C (tgt := 79) dX10_halves_192 rfl ?_
                rw [nI_s]
                have hfi : (B (WW - l)).toInt ≤ (B l).toInt := by omega
                have h2 := ih (l + 1) I' (some (.int 1)) (some (.int (A (WW - l)))) (by omega) hin hF hr
                rw [hst, if_pos hfi, if_pos hfi, if_pos (by assumption)] at h2
                exact h2
  have loop1 : ∀ (m l : Nat) (I' : Is) (x4 x5 x6 x7 x8 : Option Value), m + l = WW + 1 → (inPM I ab ∧ inR w 2) → FrM (77 :: 78 :: RTM) FTM I I' → (∀ x, x < l → I' 77 x = A x ∧ I' 78 x = B x) → Aw X 24 [some (.ref 64), some (.int ab), some (.int w), some (.int (nI l)), x4, x5, x6, x7, x8] [] (st9 I' J b) := by
    intro m
    induction m with
    | zero =>
      intro l I' x4 x5 x6 x7 x8 hm hin hF hr
      have inl : (nI l).toInt = (l : Int) := nIint (by omega)
      have e7 : (I' 64 7).toInt = (WW : Int) := by rw [hF.2 7 (by decide)]; exact hWi
      refine r_iload_n C dX10_halves_24 rfl ?_
      refine r_aload_n C dX10_halves_25 rfl ?_
      refine r_getI C flX10_93 dX10_halves_26 rfl rfl ?_
      refine b_icgt C (tgt := 68) rfl rfl dX10_halves_29 rfl (fun h29_1 => ?_) (fun h29_1 => ?_)
      · refine r_iconst C (v := 0) dX10_halves_68 (by decide) ?_
        refine r_istore_n C dX10_halves_69 rfl rfl ?_
        refine r_iconst C (v := -1) dX10_halves_70 (by decide) ?_
        refine r_istore C dX10_halves_71 rfl rfl ?_
        refine r_iconst C (v := 0) dX10_halves_73 (by decide) ?_
        refine r_istore C dX10_halves_74 rfl rfl ?_
        refine r_iconst C (v := 0) dX10_halves_76 (by decide) ?_
        refine r_istore C dX10_halves_77 rfl rfl ?_
        exact loop2 (WW + 1) 0 I' _ _ rfl hin hF (fun x hx => hr x (by omega))
      · exfalso; omega
    | succ m ih =>
      intro l I' x4 x5 x6 x7 x8 hm hin hF hr
      have inl : (nI l).toInt = (l : Int) := nIint (by omega)
      have lx : ix (nI l) = l := nIix (by omega)
      have e7 : (I' 64 7).toInt = (WW : Int) := by rw [hF.2 7 (by decide)]; exact hWi
      obtain ⟨ja, haj, hja⟩ := nI_get hin.1.2.1.1 hin.1.2.1.2 (by omega)
      obtain ⟨jb, hbj, hjb⟩ := nI_get hin.1.2.2.1.1 hin.1.2.2.1.2 (by omega)
      have ajx : ix (ab / 10) = ja := by rw [hja]; exact nIix (by omega)
      have bjx : ix (ab - ab / 10 * 10) = jb := by rw [hjb]; exact nIix (by omega)
      have aji : (ab / 10).toInt = (ja : Int) := by rw [hja]; exact nIint (by omega)
      have bji : (ab - ab / 10 * 10).toInt = (jb : Int) := by rw [hjb]; exact nIint (by omega)
      have hAl : A l = alM I ja (nI l) := by rw [hA, ← ajx]
      have hBl : B l = alM I jb (nI l) := by rw [hB, ← bjx]
      have hen := enM_fr hF (by decide) (by decide) (by decide) (by decide)
      have hgt := gvT_fr hF (by decide) (by decide) (by decide) (by decide) (by decide) (by decide) (by decide)
      have hNM := NM_fr hF (by decide) (by decide) (by decide) hN
      refine r_iload_n C dX10_halves_24 rfl ?_
      refine r_aload_n C dX10_halves_25 rfl ?_
      refine r_getI C flX10_93 dX10_halves_26 rfl rfl ?_
      refine b_icgt C (tgt := 68) rfl rfl dX10_halves_29 rfl (fun h29_1 => ?_) (fun h29_1 => ?_)
      · exfalso; omega
      · refine r_aload_n C dX10_halves_32 rfl ?_
        refine r_getR C flX10_46 dX10_halves_33 rfl rfl rfl ?_
        refine r_iload_n C dX10_halves_36 rfl ?_
        refine r_aload_n C dX10_halves_37 rfl ?_
        refine r_iload_n C dX10_halves_38 rfl ?_
        refine r_bipush C (v := 10) dX10_halves_39 (by decide) ?_
        refine r_idiv C dX10_halves_41 (by decide) ?_
        rw [hja]
        refine r_iload_n C dX10_halves_42 rfl ?_
        refine cV (ci := 10) C hx (sX10_alone (d := d - 1) (by omega) ja (by omega) (nI l) (by omega) (by omega) I' J b hNM (by rw [hgt]; exact hv)) moX10_alone mlX10_275 miX10_alone msX10_alone dX10_halves_43 rfl rfl rfl rfl rfl (by omega) rfl rfl (ki (fun v_43_2 I_43_2 q_43_2 => ?_))
        obtain ⟨hva, hFa⟩ := q_43_2
        rw [alM_fr hF hen hgt, ← hAl] at hva
        rw [hva]
        have hF1 : FrM (77 :: 78 :: RTM) FTM I (u2 I_43_2 77 l (A l)) := (hF.tr hFa (by decide) (by decide) (by decide) (by decide)).st (by decide) (by decide)
        have hr1 : ∀ x, x < l + 1 → u2 I_43_2 77 l (A l) 77 x = A x := fun x hx => by
          by_cases e : x = l
          · subst e; exact u2_same ..
          · rw [u2_ne _ _ _ _ (Or.inr e), hFa.1 77 (by decide) (by decide)]; exact (hr x (by omega)).1
        have hr2 : ∀ x, x < l → u2 I_43_2 77 l (A l) 78 x = B x := fun x hx => by rw [u2_row (t := 77) (t' := 78) (by decide), hFa.1 78 (by decide) (by decide)]; exact (hr x hx).2
        refine r_iast C rfl dX10_halves_46 (vin (by omega) (show (nI l).toInt < 1000 by omega)) ?_
        rw [lx]
        generalize hI1 : u2 _ 77 l (A l) = I1 at *
        refine r_aload_n C dX10_halves_47 rfl ?_
        refine r_getR C flX10_49 dX10_halves_48 rfl rfl rfl ?_
        refine r_iload_n C dX10_halves_51 rfl ?_
        refine r_aload_n C dX10_halves_52 rfl ?_
        refine r_iload_n C dX10_halves_53 rfl ?_
        refine r_bipush C (v := 10) dX10_halves_54 (by decide) ?_
        refine r_irem C dX10_halves_56 (by decide) ?_
        rw [hjb]
        refine r_iload_n C dX10_halves_57 rfl ?_
        refine cV (ci := 10) C hx (sX10_alone (d := d - 1) (by omega) jb (by omega) (nI l) (by omega) (by omega) I1 J b (NM_fr hF1 (by decide) (by decide) (by decide) hN) (by rw [gvT_fr hF1 (by decide) (by decide) (by decide) (by decide) (by decide) (by decide) (by decide)]; exact hv)) moX10_alone mlX10_275 miX10_alone msX10_alone dX10_halves_58 rfl rfl rfl rfl rfl (by omega) rfl rfl (ki (fun v_58_3 I_58_3 q_58_3 => ?_))
        obtain ⟨hvb, hFb⟩ := q_58_3
        rw [alM_fr hF1 (enM_fr hF1 (by decide) (by decide) (by decide) (by decide)) (gvT_fr hF1 (by decide) (by decide) (by decide) (by decide) (by decide) (by decide) (by decide)), ← hBl] at hvb
        rw [hvb]
        refine r_iast C rfl dX10_halves_61 (vin (by omega) (show (nI l).toInt < 1000 by omega)) ?_
        rw [lx]
        refine r_iinc C (v := 1) dX10_halves_62 rfl (by decide) rfl ?_
        refine r_goto C (tgt := 24) dX10_halves_65 rfl ?_
        rw [nI_s]
        exact ih (l + 1) _ _ _ _ _ _ (by omega) hin ((hF1.tr hFb (by decide) (by decide) (by decide) (by decide)).st (by decide) (by decide)) (fun x hx => by
          refine ⟨?_, ?_⟩
          · rw [u2_row (t := 78) (t' := 77) (by decide), hFb.1 77 (by decide) (by decide)]; exact hr1 x hx
          · by_cases e : x = l
            · subst e; exact u2_same ..
            · rw [u2_ne _ _ _ _ (Or.inr e), hFb.1 78 (by decide) (by decide)]; exact hr2 x (by omega))
  refine r_aload_n C dX10_halves_0 rfl ?_
  refine r_iload_n C dX10_halves_1 rfl ?_
  refine cV (ci := 10) C hx (sX10_areTwo (d := d - 1) (by omega) _ I J b hs0 hs3) moX10_areTwo mlX10_272 miX10_areTwo msX10_areTwo dX10_halves_2 rfl rfl rfl rfl rfl (by omega) rfl rfl (kp ?_)
  refine z_ifeq C (tgt := 20) dX10_halves_5 rfl (fun h5_2 => ?_) (fun h5_2 => ?_)
  · refine r_iconst C (v := -1) dX10_halves_20 (by decide) ?_
    exact ri C Z dX10_halves_21 (show (_ ∨ _) from Or.inl ⟨fun z => absurd z.1 (by assumption), rfl, rfl⟩)
  · refine r_iload_n C dX10_halves_8 rfl ?_
    refine r_i2l C dX10_halves_9 ?_
    refine r_lconst C (v := 0) dX10_halves_10 (by decide) ?_
    refine r_ldc2 C kkX10_256 dX10_halves_11 ?_
    refine cS C hx (sWi (d := d - 1) _ (lo := 0) (hi := 2) rfl rfl I J b) moX10_within mlX10_105 mtX10_within dX10_halves_14 rfl rfl (by omega) rfl rfl (kp ?_)
    refine z_ifne C (tgt := 22) dX10_halves_17 rfl (fun h17_4 => ?_) (fun h17_4 => ?_)
    · have hin : (inPM I ab ∧ inR w 2) := ⟨by assumption, by assumption⟩
      refine r_iconst C (v := 0) dX10_halves_22 (by decide) ?_
      refine r_istore_n C dX10_halves_23 rfl rfl ?_
      exact loop1 (WW + 1) 0 I _ _ _ _ _ rfl hin FrM.rf (fun x hx => absurd hx (Nat.not_lt_zero x))
    · refine r_iconst C (v := -1) dX10_halves_20 (by decide) ?_
      exact ri C Z dX10_halves_21 (show (_ ∨ _) from Or.inl ⟨fun z => absurd z.2 (by assumption), rfl, rfl⟩)
