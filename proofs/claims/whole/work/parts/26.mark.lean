theorem gv_rows {I I' : Is} {t : Nat} (h : ∀ c, c ∈ [t, t + 1, t + 2, t + 3, t + 4] → I' c = I c) : gv I' t = gv I t := by
  unfold gv
  rw [h t (by simp), h (t + 1) (by simp), h (t + 2) (by simp), h (t + 3) (by simp), h (t + 4) (by simp)]
theorem h99 : ∀ i, i < 100 → (99 : Int32) - nI i = nI (99 - i) := by decide +kernel
abbrev b1 (j : Nat) : Nat → Bool := bit (1 <<< (nI j &&& 31))
theorem bg_eqv {v w : GV} (h : EqV v w) : EqV (bgF v) (bgF w) := ⟨h.1, h.2.1, h.2.2.1, h.2.2.2.1, fun _ _ => rfl, fun _ _ => rfl, fun _ _ => rfl⟩
def lmF (e : EV) (ja jb : Nat) : Nat → Nat → GV → Int32 → Int32
  | 0, _, _, least => least
  | m + 1, i, v, least => lmF e ja jb m (i + 1) (secF e (b1 ja) (b1 ja) (bit 0) v) (if (secF e (b1 ja) (b1 ja) (bit 0) v).1.toInt < least.toInt ∧ ((secF e (b1 ja) (b1 ja) (bit 0) v).2.2.2.2.1 ja).toInt ≤ ((goF e (b1 jb) (b1 jb) (bit 0) (99 - i) (bgF (secF e (b1 ja) (b1 ja) (bit 0) v))).2.2.2.2.1 jb).toInt then (secF e (b1 ja) (b1 ja) (bit 0) v).1 else least)
set_option maxRecDepth 100000 in
set_option maxHeartbeats 400000 in
theorem sX8_leastMark {g : Gb} {d : Nat} (hd : 8 ≤ d) (ja jb : Nat) (hja : ja < 3) (hjb : jb < 3) (I : Is) (J : Js) (b : Bool) (hNW : NW (I 1 1) (I 2)) (hTW : TW I b) (hv : VOk (gv I 16)) : MC9 g d mX8_leastMark [.ref 28, .int (nI ja), .int (nI jb)] I J b (Qi J b (fun v I' => v = lmF (en I b) ja jb 99 1 (bgF (gv I 16)) (I 16 0) ∧ Fr [32, 33, 34, 35, 36, 37, 38, 39, 40, 41, 42, 43, 14, 15] I I')) := by
  refine ent9 (own := RX8) rfl rfl rfl (fun X hg hx C Z => ?_)
  subst hg
  have he := en_ok (b := b) hNW
  have ija : ix (nI ja) = ja := nIix (by omega)
  have loop : ∀ (m i : Nat) (I' : Is) (v : GV) (least : Int32), m + i = 100 → 1 ≤ i → VOk v → EqV (gv I' 32) v → Fr [32, 33, 34, 35, 36, 37, 38, 39, 40, 41, 42, 43, 14, 15] I I' → lmF (en I b) ja jb m i v least = lmF (en I b) ja jb 99 1 (bgF (gv I 16)) (I 16 0) →
      Aw X 22 [some (.ref 28), some (.int (nI ja)), some (.int (nI jb)), some (.int least), some (.int (nI i))] [] (st9 I' J b) := by
    intro m
    induction m with
    | zero =>
      intro i I' v least hm h1 hvo hE hF hg
      have ini : (nI i).toInt = (i : Int) := nIint (by omega)
      refine r_iload C dX8_leastMark_22 rfl ?_
      refine r_bipush C (v := 99) dX8_leastMark_24 (by decide) ?_
      refine b_icgt C (tgt := 90) (my := 99) rfl rfl dX8_leastMark_26 rfl (fun h26_1 => ?_) (fun h26_1 => ?_)
      · refine r_iload_n C dX8_leastMark_90 rfl ?_
        exact ri C Z dX8_leastMark_91 ⟨hg, hF⟩
      · exfalso; omega
    | succ m ih =>
      intro i I' v least hm h1 hvo hE hF hg
      have ini : (nI i).toInt = (i : Int) := nIint (by omega)
      have hvi : VOk (gv I' 32) := VOk.eqv hE hvo
      have hen : en I' b = en I b := en_rows (fun c hc => hF c (by revert hc; revert c; decide))
      have hstep : lmF (en I b) ja jb (m + 1) i v least = lmF (en I b) ja jb m (i + 1) (secF (en I b) (b1 ja) (b1 ja) (bit 0) v) (if (secF (en I b) (b1 ja) (b1 ja) (bit 0) v).1.toInt < least.toInt ∧ ((secF (en I b) (b1 ja) (b1 ja) (bit 0) v).2.2.2.2.1 ja).toInt ≤ ((goF (en I b) (b1 jb) (b1 jb) (bit 0) (99 - i) (bgF (secF (en I b) (b1 ja) (b1 ja) (bit 0) v))).2.2.2.2.1 jb).toInt then (secF (en I b) (b1 ja) (b1 ja) (bit 0) v).1 else least) := rfl
      rw [hstep] at hg
      clear hstep
      refine r_iload C dX8_leastMark_22 rfl ?_
      refine r_bipush C (v := 99) dX8_leastMark_24 (by decide) ?_
      refine b_icgt C (tgt := 90) (my := 99) rfl rfl dX8_leastMark_26 rfl (fun h26_1 => ?_) (fun h26_1 => ?_)
      · exfalso; omega
      · refine r_aload_n C dX8_leastMark_29 rfl ?_
        refine r_getR C flX8_34 dX8_leastMark_30 rfl rfl rfl ?_
        refine r_iconst C (v := 1) dX8_leastMark_33 (by decide) ?_
        refine r_iload_n C dX8_leastMark_34 rfl ?_
        refine r_ishl C dX8_leastMark_35 ?_
        refine r_iconst C (v := 1) dX8_leastMark_36 (by decide) ?_
        refine r_iload_n C dX8_leastMark_37 rfl ?_
        refine r_ishl C dX8_leastMark_38 ?_
        refine r_iconst C (v := 0) dX8_leastMark_39 (by decide) ?_
        refine cV (ci := 1) C hx (passT_32 (d := d - 1) (by omega) _ _ 0 I' J b (NW_rows (fun c hc => hF c (by revert hc; revert c; decide)) hNW) (TW_rows (fun c hc => hF c (by revert hc; revert c; decide)) hTW) hvi) moX1_pass mlX8_44 miX1_pass msX1_pass dX8_leastMark_40 rfl rfl rfl rfl rfl (by omega) rfl rfl (kv (fun I_40_2 q_40_2 => ?_))
        have hq := q_40_2
        have hE2 : EqV (gv I_40_2 32) (secF (en I b) (b1 ja) (b1 ja) (bit 0) v) := by rw [hq.1, hen]; exact secF_eqv he.1 hE
        have hgo2 : I_40_2 34 ja = (secF (en I b) (b1 ja) (b1 ja) (bit 0) v).2.2.2.2.1 ja := hE2.2.2.2.2.1 ja hja
        have hl2 : I_40_2 32 0 = (secF (en I b) (b1 ja) (b1 ja) (bit 0) v).1 := hE2.1
        have hF2 : Fr [32, 33, 34, 35, 36, 37, 38, 39, 40, 41, 42, 43, 14, 15] I I_40_2 := hF.tr hq.2.2.2 (by decide) (by decide)
        have hv2 : VOk (gv I_40_2 32) := VOk.eqv hE2 (sec_ok he hvo)
        have hen2 : en I_40_2 b = en I b := en_rows (fun c hc => hF2 c (by revert hc; revert c; decide))
        have hgb := (go_eqv (e := en I b) he.1 (pt := b1 jb) (fr := b1 jb) (hc := bit 0) (bg_eqv hE2) (99 - i)).2.2.2.2.1 jb hjb
        generalize hIP : I_40_2 = I2 at hE2 hgo2 hl2 hF2 hv2 hen2 hgb ⊢
        refine r_aload_n C dX8_leastMark_43 rfl ?_
        refine r_getR C flX8_34 dX8_leastMark_44 rfl rfl rfl ?_
        refine r_getI C flX8_58 dX8_leastMark_47 rfl rfl ?_
        refine r_iload_n C dX8_leastMark_50 rfl ?_
        refine b_icge C (tgt := 84) rfl rfl dX8_leastMark_51 rfl (fun h51_3 => ?_) (fun h51_3 => ?_)
        · refine r_iinc C (v := 1) dX8_leastMark_84 rfl (by decide) rfl ?_
          refine r_goto C (tgt := 22) dX8_leastMark_87 rfl ?_
          rw [if_neg (fun z => by have := z.1; rw [← hl2] at this; omega)] at hg
          rw [nI_s]
          exact ih (i + 1) _ _ _ (by omega) (by omega) (sec_ok he hvo) hE2 hF2 hg
        · refine r_aload_n C dX8_leastMark_54 rfl ?_
          refine r_getR C flX8_34 dX8_leastMark_55 rfl rfl rfl ?_
          refine r_getR C flX8_68 dX8_leastMark_58 rfl rfl rfl ?_
          refine r_iload_n C dX8_leastMark_61 rfl ?_
          refine r_iald C rfl dX8_leastMark_62 (nIin hja (by decide)) ?_
          refine r_aload_n C dX8_leastMark_63 rfl ?_
          refine r_iload_n C dX8_leastMark_64 rfl ?_
          refine r_bipush C (v := 99) dX8_leastMark_65 (by decide) ?_
          refine r_iload C dX8_leastMark_67 rfl ?_
          refine r_isub C dX8_leastMark_69 ?_
          rw [h99 i (by omega)]
          refine cV (ci := 8) C hx (sX8_gotBehind (d := d - 1) (by omega) jb (99 - i) hjb (by omega) I2 J b (NW_rows (fun c hc => hF2 c (by revert hc; revert c; decide)) hNW) (TW_rows (fun c hc => hF2 c (by revert hc; revert c; decide)) hTW) hv2) moX8_gotBehind mlX8_71 miX8_gotBehind msX8_gotBehind dX8_leastMark_70 rfl rfl rfl rfl rfl (by omega) rfl rfl (ki (fun v_70_4 I_70_4 q_70_4 => ?_))
          refine b_icgt C (tgt := 84) rfl rfl dX8_leastMark_73 rfl (fun h73_5 => ?_) (fun h73_5 => ?_)
          · refine r_iinc C (v := 1) dX8_leastMark_84 rfl (by decide) rfl ?_
            refine r_goto C (tgt := 22) dX8_leastMark_87 rfl ?_
            have hh := ‹_ < (I2 34 (ix (nI ja))).toInt›
            rw [ija, hgo2, q_70_4.1, hen2, hgb] at hh
            rw [if_neg (fun z => by have := z.2; omega)] at hg
            rw [nI_s]
            exact ih (i + 1) _ _ _ (by omega) (by omega) (sec_ok he hvo) (by rw [gv_rows (t := 32) (fun c hc => q_70_4.2 c (by revert hc; revert c; decide))]; exact hE2) (hF2.tr q_70_4.2 (by decide) (by decide)) hg
          · refine r_aload_n C dX8_leastMark_76 rfl ?_
            refine r_getR C flX8_34 dX8_leastMark_77 rfl rfl rfl ?_
            refine r_getI C flX8_58 dX8_leastMark_80 rfl rfl ?_
            refine r_istore_n C dX8_leastMark_83 rfl rfl ?_
            refine r_iinc C (v := 1) dX8_leastMark_84 rfl (by decide) rfl ?_
            refine r_goto C (tgt := 22) dX8_leastMark_87 rfl ?_
            have hh := ‹(I2 34 (ix (nI ja))).toInt ≤ _›
            rw [ija, hgo2, q_70_4.1, hen2, hgb] at hh
            rw [if_pos ⟨by rw [← hl2]; assumption, hh⟩] at hg
            rw [nI_s, q_70_4.2 32 (by decide), hl2]
            exact ih (i + 1) _ _ _ (by omega) (by omega) (sec_ok he hvo) (by rw [gv_rows (t := 32) (fun c hc => q_70_4.2 c (by revert hc; revert c; decide))]; exact hE2) (hF2.tr q_70_4.2 (by decide) (by decide)) hg
  refine r_aload_n C dX8_leastMark_0 rfl ?_
  refine r_getR C flX8_25 dX8_leastMark_1 rfl rfl rfl ?_
  refine r_getI C flX8_58 dX8_leastMark_4 rfl rfl ?_
  refine r_istore_n C dX8_leastMark_7 rfl rfl ?_
  refine r_aload_n C dX8_leastMark_8 rfl ?_
  refine r_getR C flX8_34 dX8_leastMark_9 rfl rfl rfl ?_
  refine r_aload_n C dX8_leastMark_12 rfl ?_
  refine r_getR C flX8_25 dX8_leastMark_13 rfl rfl rfl ?_
  refine cV (ci := 1) C hx (sX1_begin_32_16 (d := d - 1) (by omega) I J b) moX1_begin mlX8_40 miX1_begin msX1_begin dX8_leastMark_16 rfl rfl rfl rfl rfl (by omega) rfl rfl (kv (fun I_16_1 q_16_1 => ?_))
  have hq := q_16_1
  refine r_iconst C (v := 1) dX8_leastMark_19 (by decide) ?_
  refine r_istore C dX8_leastMark_20 rfl rfl ?_
  exact loop 99 1 _ _ _ rfl (by omega) (bg_ok hv) hq.1 (hq.2.2.mo (by decide)) rfl
theorem shl_s {x : Int32} {s : Nat} (h : x.toInt = (s : Int)) (hs : s ≤ 3) : (1 <<< (x &&& 31) : Int32).toInt = ((2 ^ s : Nat) : Int) := by
  have e : x = nI s := Int32.toInt_inj.mp (h.trans (nIint (by omega)).symm)
  subst e
  have key : ∀ s, s < 4 → (1 <<< (nI s &&& 31) : Int32).toInt = ((2 ^ s : Nat) : Int) := by decide +kernel
  exact key s (by omega)
/-- the first ring that is not so, if those of set k drew -/
def fitF (I : Is) (J : Js) (b : Bool) (t n k : Nat) : Int32 := fuF (J (t + 1)) (fun q => (goF (en I b) (bit (nI k)) (bit 0) (bit 0) (q + 1) (bgF (gv I 16))).1) n 0
def sfF (u : Nat → Int32) : Nat → Nat → Int32 → Int32
  | 0, _, f => f
  | m + 1, k, f => sfF u m (k + 1) (if u k = -2 then f + 1 else f)
def lsetF (u : Nat → Int32) : Nat → Nat → Int32
  | 0, _ => -2
  | m + 1, k => if u k = -2 then nI k else lsetF u m (k + 1)
set_option maxRecDepth 100000 in
set_option maxHeartbeats 400000 in
theorem sX8_setsThatFit {g : Gb} {d : Nat} (hd : 8 ≤ d) (t : Nat) (ht : isSh t) (n : Nat) (I : Is) (J : Js) (b : Bool) (hn : (I t 1).toInt = (n : Int)) (hn9 : n ≤ 60) (s : Nat) (hs : (I 1 1).toInt = (s : Int)) (hs3 : s ≤ 3) (hNW : NW (I 1 1) (I 2)) (hTW : TW I b) (hv : VOk (gv I 16)) : MC9 g d mX8_setsThatFit [.ref 28, .ref t] I J b (Qi J b (fun v I' => v = sfF (fitF I J b t n) (2 ^ s) 0 0 ∧ Fr [32, 33, 34, 35, 36, 37, 14, 15] I I')) := by
  refine ent9 (own := RX8) rfl rfl rfl (fun X hg hx C Z => ?_)
  subst hg
  have htT : t ∉ [32, 33, 34, 35, 36, 37, 14, 15] := by rcases ht with rfl | rfl | rfl | rfl | rfl | rfl <;> decide
  have hsh := shl_s hs hs3
  have hp9 : 2 ^ s ≤ 8 := by rcases (show s = 0 ∨ s = 1 ∨ s = 2 ∨ s = 3 by omega) with rfl | rfl | rfl | rfl <;> decide
  have loop : ∀ (m k : Nat) (f : Int32) (I' : Is), m + k = 2 ^ s → Fr [32, 33, 34, 35, 36, 37, 14, 15] I I' → sfF (fitF I J b t n) m k f = sfF (fitF I J b t n) (2 ^ s) 0 0 → Aw X 4 [some (.ref 28), some (.ref t), some (.int f), some (.int (nI k))] [] (st9 I' J b) := by
    intro m
    induction m with
    | zero =>
      intro k f I' hm hF hg
      have r1 : I' 1 = I 1 := hF 1 (by decide)
      have ink : (nI k).toInt = (k : Int) := nIint (by omega)
      refine r_iload_n C dX8_setsThatFit_4 rfl ?_
      refine r_iconst C (v := 1) dX8_setsThatFit_5 (by decide) ?_
      refine r_aload_n C dX8_setsThatFit_6 rfl ?_
      refine r_getR C flX8_21 dX8_setsThatFit_7 rfl rfl rfl ?_
      refine r_getI C flX8_65 dX8_setsThatFit_10 rfl rfl ?_
      refine r_ishl C dX8_setsThatFit_13 ?_
      rw [r1]
      refine b_icge C (tgt := 37) rfl rfl dX8_setsThatFit_14 rfl (fun h14_1 => ?_) (fun h14_1 => ?_)
      · refine r_iload_n C dX8_setsThatFit_37 rfl ?_
        exact ri C Z dX8_setsThatFit_38 ⟨hg, hF⟩
      · exfalso; omega
    | succ m ih =>
      intro k f I' hm hF hg
      have r1 : I' 1 = I 1 := hF 1 (by decide)
      have ink : (nI k).toInt = (k : Int) := nIint (by omega)
      refine r_iload_n C dX8_setsThatFit_4 rfl ?_
      refine r_iconst C (v := 1) dX8_setsThatFit_5 (by decide) ?_
      refine r_aload_n C dX8_setsThatFit_6 rfl ?_
      refine r_getR C flX8_21 dX8_setsThatFit_7 rfl rfl rfl ?_
      refine r_getI C flX8_65 dX8_setsThatFit_10 rfl rfl ?_
      refine r_ishl C dX8_setsThatFit_13 ?_
      rw [r1]
      refine b_icge C (tgt := 37) rfl rfl dX8_setsThatFit_14 rfl (fun h14_1 => ?_) (fun h14_1 => ?_)
      · exfalso; omega
      · refine r_aload_n C dX8_setsThatFit_17 rfl ?_
        refine r_aload_n C dX8_setsThatFit_18 rfl ?_
        refine r_iload_n C dX8_setsThatFit_19 rfl ?_
        refine cV (ci := 8) C hx (sX8_firstUnlike (d := d - 1) (by omega) t ht _ n I' J b (by rw [hF t htT]; exact hn) hn9 (NW_rows (fun c hc => hF c (by revert hc; revert c; decide)) hNW) (TW_rows (fun c hc => hF c (by revert hc; revert c; decide)) hTW) (by rw [gv_rows (t := 16) (fun c hc => hF c (by revert hc; revert c; decide))]; exact hv)) moX8_firstUnlike mlX8_136 miX8_firstUnlike msX8_firstUnlike dX8_setsThatFit_20 rfl rfl rfl rfl rfl (by omega) rfl rfl (ki (fun v_20_2 I_20_2 q_20_2 => ?_))
        have hq := q_20_2
        rw [en_rows (b := b) (fun c hc => hF c (by revert hc; revert c; decide)), gv_rows (t := 16) (fun c hc => hF c (by revert hc; revert c; decide))] at hq
        have hu : v_20_2 = fitF I J b t n k := hq.1
        rw [hu]
        refine r_bipush C (v := -2) dX8_setsThatFit_23 (by decide) ?_
        refine r_icne C (tgt := 31) dX8_setsThatFit_25 rfl (fun h25_3 => ?_) (fun h25_3 => ?_)
        · refine r_iinc C (v := 1) dX8_setsThatFit_31 rfl (by decide) rfl ?_
          refine r_goto C (tgt := 4) dX8_setsThatFit_34 rfl ?_
          rw [show sfF (fitF I J b t n) (m + 1) k f = sfF (fitF I J b t n) m (k + 1) f from by show sfF _ m (k + 1) (if _ then _ else _) = _; rw [if_neg (by assumption)]] at hg
          rw [nI_s]
          exact ih (k + 1) _ _ (by omega) (hF.tr hq.2 (by decide) (by decide)) hg
        · refine r_iinc C (v := 1) dX8_setsThatFit_28 rfl (by decide) rfl ?_
          refine r_iinc C (v := 1) dX8_setsThatFit_31 rfl (by decide) rfl ?_
          refine r_goto C (tgt := 4) dX8_setsThatFit_34 rfl ?_
          rw [show sfF (fitF I J b t n) (m + 1) k f = sfF (fitF I J b t n) m (k + 1) (f + 1) from by show sfF _ m (k + 1) (if _ then _ else _) = _; rw [if_pos (by assumption)]] at hg
          rw [nI_s]
          exact ih (k + 1) _ _ (by omega) (hF.tr hq.2 (by decide) (by decide)) hg
  refine r_iconst C (v := 0) dX8_setsThatFit_0 (by decide) ?_
  refine r_istore_n C dX8_setsThatFit_1 rfl rfl ?_
  refine r_iconst C (v := 0) dX8_setsThatFit_2 (by decide) ?_
  refine r_istore_n C dX8_setsThatFit_3 rfl rfl ?_
  exact loop (2 ^ s) 0 0 I rfl Fr.rf rfl
set_option maxRecDepth 100000 in
set_option maxHeartbeats 400000 in
theorem sX8_leastSet {g : Gb} {d : Nat} (hd : 8 ≤ d) (t : Nat) (ht : isSh t) (n : Nat) (I : Is) (J : Js) (b : Bool) (hn : (I t 1).toInt = (n : Int)) (hn9 : n ≤ 60) (s : Nat) (hs : (I 1 1).toInt = (s : Int)) (hs3 : s ≤ 3) (hNW : NW (I 1 1) (I 2)) (hTW : TW I b) (hv : VOk (gv I 16)) : MC9 g d mX8_leastSet [.ref 28, .ref t] I J b (Qi J b (fun v I' => v = lsetF (fitF I J b t n) (2 ^ s) 0 ∧ Fr [32, 33, 34, 35, 36, 37, 14, 15] I I')) := by
  refine ent9 (own := RX8) rfl rfl rfl (fun X hg hx C Z => ?_)
  subst hg
  have htT : t ∉ [32, 33, 34, 35, 36, 37, 14, 15] := by rcases ht with rfl | rfl | rfl | rfl | rfl | rfl <;> decide
  have hsh := shl_s hs hs3
  have hp9 : 2 ^ s ≤ 8 := by rcases (show s = 0 ∨ s = 1 ∨ s = 2 ∨ s = 3 by omega) with rfl | rfl | rfl | rfl <;> decide
  have loop : ∀ (m k : Nat) (I' : Is), m + k = 2 ^ s → Fr [32, 33, 34, 35, 36, 37, 14, 15] I I' → lsetF (fitF I J b t n) m k = lsetF (fitF I J b t n) (2 ^ s) 0 → Aw X 2 [some (.ref 28), some (.ref t), some (.int (nI k))] [] (st9 I' J b) := by
    intro m
    induction m with
    | zero =>
      intro k I' hm hF hg
      have r1 : I' 1 = I 1 := hF 1 (by decide)
      have ink : (nI k).toInt = (k : Int) := nIint (by omega)
      refine r_iload_n C dX8_leastSet_2 rfl ?_
      refine r_iconst C (v := 1) dX8_leastSet_3 (by decide) ?_
      refine r_aload_n C dX8_leastSet_4 rfl ?_
      refine r_getR C flX8_21 dX8_leastSet_5 rfl rfl rfl ?_
      refine r_getI C flX8_65 dX8_leastSet_8 rfl rfl ?_
      refine r_ishl C dX8_leastSet_11 ?_
      rw [r1]
      refine b_icge C (tgt := 34) rfl rfl dX8_leastSet_12 rfl (fun h12_1 => ?_) (fun h12_1 => ?_)
      · refine r_bipush C (v := -2) dX8_leastSet_34 (by decide) ?_
        exact ri C Z dX8_leastSet_36 ⟨hg, hF⟩
      · exfalso; omega
    | succ m ih =>
      intro k I' hm hF hg
      have r1 : I' 1 = I 1 := hF 1 (by decide)
      have ink : (nI k).toInt = (k : Int) := nIint (by omega)
      refine r_iload_n C dX8_leastSet_2 rfl ?_
      refine r_iconst C (v := 1) dX8_leastSet_3 (by decide) ?_
      refine r_aload_n C dX8_leastSet_4 rfl ?_
      refine r_getR C flX8_21 dX8_leastSet_5 rfl rfl rfl ?_
      refine r_getI C flX8_65 dX8_leastSet_8 rfl rfl ?_
      refine r_ishl C dX8_leastSet_11 ?_
      rw [r1]
      refine b_icge C (tgt := 34) rfl rfl dX8_leastSet_12 rfl (fun h12_1 => ?_) (fun h12_1 => ?_)
      · exfalso; omega
      · refine r_aload_n C dX8_leastSet_15 rfl ?_
        refine r_aload_n C dX8_leastSet_16 rfl ?_
        refine r_iload_n C dX8_leastSet_17 rfl ?_
        refine cV (ci := 8) C hx (sX8_firstUnlike (d := d - 1) (by omega) t ht _ n I' J b (by rw [hF t htT]; exact hn) hn9 (NW_rows (fun c hc => hF c (by revert hc; revert c; decide)) hNW) (TW_rows (fun c hc => hF c (by revert hc; revert c; decide)) hTW) (by rw [gv_rows (t := 16) (fun c hc => hF c (by revert hc; revert c; decide))]; exact hv)) moX8_firstUnlike mlX8_136 miX8_firstUnlike msX8_firstUnlike dX8_leastSet_18 rfl rfl rfl rfl rfl (by omega) rfl rfl (ki (fun v_18_2 I_18_2 q_18_2 => ?_))
        have hq := q_18_2
        rw [en_rows (b := b) (fun c hc => hF c (by revert hc; revert c; decide)), gv_rows (t := 16) (fun c hc => hF c (by revert hc; revert c; decide))] at hq
        have hu : v_18_2 = fitF I J b t n k := hq.1
        rw [hu]
        refine r_bipush C (v := -2) dX8_leastSet_21 (by decide) ?_
        refine r_icne C (tgt := 28) dX8_leastSet_23 rfl (fun h23_3 => ?_) (fun h23_3 => ?_)
        · refine r_iinc C (v := 1) dX8_leastSet_28 rfl (by decide) rfl ?_
          refine r_goto C (tgt := 2) dX8_leastSet_31 rfl ?_
          rw [show lsetF (fitF I J b t n) (m + 1) k = lsetF (fitF I J b t n) m (k + 1) from if_neg (by assumption)] at hg
          rw [nI_s]
          exact ih (k + 1) _ (by omega) (hF.tr hq.2 (by decide) (by decide)) hg
        · refine r_iload_n C dX8_leastSet_26 rfl ?_
          exact ri C Z dX8_leastSet_27 ⟨by rw [← hg]; exact (if_pos (by assumption)).symm, hF.tr hq.2 (by decide) (by decide)⟩
  refine r_iconst C (v := 0) dX8_leastSet_0 (by decide) ?_
  refine r_istore_n C dX8_leastSet_1 rfl rfl ?_
  exact loop (2 ^ s) 0 I rfl Fr.rf rfl
