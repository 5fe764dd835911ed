set_option maxRecDepth 100000 in
set_option maxHeartbeats 400000 in
theorem sX8_drunk {g : Gb} {d : Nat} (hd : 7 ≤ d) (N : Nat) (hN : N < 100000) (I : Is) (J : Js) (b : Bool) (s : Nat) (hs : (I 1 1).toInt = (s : Int)) (hs3 : s ≤ 3) (hNW : NW (I 1 1) (I 2)) (hTW : TW I b) (hv : VOk (gv I 16)) : MC9 g d mX8_drunk [.ref 28, .int (nI N)] I J b (Qr J b (fun t I' => t = 32 ∧ EqV (gv I' 32) (whF (drT (lrF (I 2) s)) (en I b) (bit 7) (bit 0) (bit 0) N (bgF (gv I 16))) ∧ Fr [32, 33, 34, 35, 36, 37, 14, 15] I I')) := by
  refine ent9 (own := RX8) rfl rfl rfl (fun X hg hx C Z => ?_)
  subst hg
  have he := en_ok (b := b) hNW
  generalize hr : lrF (I 2) s = r
  have loop : ∀ (m i : Nat) (I' : Is) (v : GV), m + i = N → VOk v → EqV (gv I' 32) v → Fr [32, 33, 34, 35, 36, 37, 14, 15] I I' → whF (drT r) (en I b) (bit 7) (bit 0) (bit 0) m v = whF (drT r) (en I b) (bit 7) (bit 0) (bit 0) N (bgF (gv I 16)) → Aw X 21 [some (.ref 28), some (.int (nI N)), some (.int r), some (.int (nI i))] [] (st9 I' J b) := by
    intro m
    induction m with
    | zero =>
      intro i I' v hm hvo hE hF hg
      have hi : i = N := by omega
      subst hi
      refine r_iload_n C dX8_drunk_21 rfl ?_
      refine r_iload_n C dX8_drunk_22 rfl ?_
      refine b_icge C (tgt := 64) rfl rfl dX8_drunk_23 rfl (fun h23_1 => ?_) (fun h23_1 => ?_)
      · refine r_aload_n C dX8_drunk_64 rfl ?_
        refine r_getR C flX8_34 dX8_drunk_65 rfl rfl rfl ?_
        exact rr C Z dX8_drunk_68 ⟨rfl, by rw [hr, ← hg]; exact hE, hF⟩
      · exfalso; omega
    | succ m ih =>
      intro i I' v hm hvo hE hF hg
      have ini : (nI i).toInt = (i : Int) := nIint (by omega)
      have inN : (nI N).toInt = (N : Int) := nIint (by omega)
      have hvi : VOk (gv I' 32) := VOk.eqv hE hvo
      have hen : en I' b = en I b := en_rows (fun c hc => hF c (by revert hc; revert c; decide))
      have hlv : I' 32 0 = v.1 := hE.1
      have hic : I' 32 1 = v.2.1 := hE.2.1
      refine r_iload_n C dX8_drunk_21 rfl ?_
      refine r_iload_n C dX8_drunk_22 rfl ?_
      refine b_icge C (tgt := 64) rfl rfl dX8_drunk_23 rfl (fun h23_1 => ?_) (fun h23_1 => ?_)
      · exfalso; omega
      · refine r_aload_n C dX8_drunk_26 rfl ?_
        refine r_getR C flX8_34 dX8_drunk_27 rfl rfl rfl ?_
        refine r_getI C flX8_54 dX8_drunk_30 rfl rfl ?_
        refine b_ifgt C (tgt := 47) dX8_drunk_33 rfl (fun h33_2 => ?_) (fun h33_2 => ?_)
        · refine r_aload_n C dX8_drunk_47 rfl ?_
          refine r_getR C flX8_34 dX8_drunk_48 rfl rfl rfl ?_
          refine r_bipush C (v := 7) dX8_drunk_51 (by decide) ?_
          refine r_iconst C (v := 0) dX8_drunk_53 (by decide) ?_
          refine r_iconst C (v := 0) dX8_drunk_54 (by decide) ?_
          refine cV (ci := 1) C hx (passT_32 (d := d - 1) (by omega) 7 0 0 I' J b (NW_rows (fun c hc => hF c (by revert hc; revert c; decide)) hNW) (TW_rows (fun c hc => hF c (by revert hc; revert c; decide)) hTW) hvi) moX1_pass mlX8_44 miX1_pass msX1_pass dX8_drunk_55 rfl rfl rfl rfl rfl (by omega) rfl rfl (kv (fun I_55_3 q_55_3 => ?_))
          have hq := q_55_3
          refine r_iinc C (v := 1) dX8_drunk_58 rfl (by decide) rfl ?_
          refine r_goto C (tgt := 21) dX8_drunk_61 rfl ?_
          have ht : drT r v = true := decide_eq_true (Or.inl (by rw [← hic]; assumption))
          rw [show whF (drT r) (en I b) (bit 7) (bit 0) (bit 0) (m + 1) v = whF (drT r) (en I b) (bit 7) (bit 0) (bit 0) m (secF (en I b) (bit 7) (bit 0) (bit 0) v) from if_pos ht] at hg
          rw [nI_s]
          exact ih (i + 1) _ _ (by omega) (sec_ok he hvo) (by rw [hq.1, hen]; exact secF_eqv he.1 hE) (hF.tr hq.2.2.2 (by decide) (by decide)) hg
        · refine r_aload_n C dX8_drunk_36 rfl ?_
          refine r_getR C flX8_34 dX8_drunk_37 rfl rfl rfl ?_
          refine r_getI C flX8_58 dX8_drunk_40 rfl rfl ?_
          refine r_iload_n C dX8_drunk_43 rfl ?_
          refine b_icle C (tgt := 64) rfl rfl dX8_drunk_44 rfl (fun h44_4 => ?_) (fun h44_4 => ?_)
          · refine r_aload_n C dX8_drunk_64 rfl ?_
            refine r_getR C flX8_34 dX8_drunk_65 rfl rfl rfl ?_
            exact rr C Z dX8_drunk_68 ⟨rfl, by
        have ht : ¬ drT r v = true := fun z => by
          have := of_decide_eq_true z
          rw [← hlv, ← hic] at this
          omega
        rw [show whF (drT r) (en I b) (bit 7) (bit 0) (bit 0) (m + 1) v = v from if_neg ht] at hg
        rw [hr, ← hg]; exact hE, hF⟩
          · refine r_aload_n C dX8_drunk_47 rfl ?_
            refine r_getR C flX8_34 dX8_drunk_48 rfl rfl rfl ?_
            refine r_bipush C (v := 7) dX8_drunk_51 (by decide) ?_
            refine r_iconst C (v := 0) dX8_drunk_53 (by decide) ?_
            refine r_iconst C (v := 0) dX8_drunk_54 (by decide) ?_
            refine cV (ci := 1) C hx (passT_32 (d := d - 1) (by omega) 7 0 0 I' J b (NW_rows (fun c hc => hF c (by revert hc; revert c; decide)) hNW) (TW_rows (fun c hc => hF c (by revert hc; revert c; decide)) hTW) hvi) moX1_pass mlX8_44 miX1_pass msX1_pass dX8_drunk_55 rfl rfl rfl rfl rfl (by omega) rfl rfl (kv (fun I_55_5 q_55_5 => ?_))
            have hq := q_55_5
            refine r_iinc C (v := 1) dX8_drunk_58 rfl (by decide) rfl ?_
            refine r_goto C (tgt := 21) dX8_drunk_61 rfl ?_
            have ht : drT r v = true := decide_eq_true (Or.inr (by rw [← hlv]; assumption))
            rw [show whF (drT r) (en I b) (bit 7) (bit 0) (bit 0) (m + 1) v = whF (drT r) (en I b) (bit 7) (bit 0) (bit 0) m (secF (en I b) (bit 7) (bit 0) (bit 0) v) from if_pos ht] at hg
            rw [nI_s]
            exact ih (i + 1) _ _ (by omega) (sec_ok he hvo) (by rw [hq.1, hen]; exact secF_eqv he.1 hE) (hF.tr hq.2.2.2 (by decide) (by decide)) hg
  refine r_aload_n C dX8_drunk_0 rfl ?_
  refine r_getR C flX8_21 dX8_drunk_1 rfl rfl rfl ?_
  refine cV (ci := 3) C hx (sX3_lowestReach (d := d - 1) (by omega) I J b s hs hs3) moX3_lowestReach mlX8_48 miX3_lowestReach msX3_lowestReach dX8_drunk_4 rfl rfl rfl rfl rfl (by omega) rfl rfl (kp ?_)
  rw [hr]
  refine r_istore_n C dX8_drunk_7 rfl rfl ?_
  refine r_aload_n C dX8_drunk_8 rfl ?_
  refine r_getR C flX8_34 dX8_drunk_9 rfl rfl rfl ?_
  refine r_aload_n C dX8_drunk_12 rfl ?_
  refine r_getR C flX8_25 dX8_drunk_13 rfl rfl rfl ?_
  refine cV (ci := 1) C hx (sX1_begin_32_16 (d := d - 1) (by omega) I J b) moX1_begin mlX8_40 miX1_begin msX1_begin dX8_drunk_16 rfl rfl rfl rfl rfl (by omega) rfl rfl (kv (fun I_16_2 q_16_2 => ?_))
  have hq := q_16_2
  refine r_iconst C (v := 0) dX8_drunk_19 (by decide) ?_
  refine r_istore_n C dX8_drunk_20 rfl rfl ?_
  exact loop N 0 _ (bgF (gv I 16)) rfl (bg_ok hv) hq.1 (hq.2.2.mo (by decide)) rfl
theorem ov_eqv {e : EV} {v w : GV} (h : EqV v w) : ovF e v ↔ ovF e w := by
  unfold ovF
  rw [h.1, h.2.1, h.2.2.1]
set_option maxRecDepth 100000 in
set_option maxHeartbeats 400000 in
theorem sX8_emptyBehind {g : Gb} {d : Nat} (hd : 7 ≤ d) (I : Is) (J : Js) (b : Bool) (s : Nat) (hs : (I 1 1).toInt = (s : Int)) (hs3 : s ≤ 3) (hNW : NW (I 1 1) (I 2)) (hTW : TW I b) (hv : VOk (gv I 16)) : MC9 g d mX8_emptyBehind [.ref 28] I J b (Qi J b (fun v I' => ((∃ i : Nat, i ≤ 999 ∧ v = nI i ∧ ovF (en I b) (goF (en I b) (bit 7) (bit 0) (bit 0) i (bgF (gv I 16))) ∧ ∀ k, k < i → ¬ ovF (en I b) (goF (en I b) (bit 7) (bit 0) (bit 0) k (bgF (gv I 16)))) ∨ (v = -2 ∧ ∀ k, k ≤ 999 → ¬ ovF (en I b) (goF (en I b) (bit 7) (bit 0) (bit 0) k (bgF (gv I 16))))) ∧ Fr [32, 33, 34, 35, 36, 37, 14, 15] I I')) := by
  refine ent9 (own := RX8) rfl rfl rfl (fun X hg hx C Z => ?_)
  subst hg
  have he := en_ok (b := b) hNW
  have loop : ∀ (m i : Nat) (I' : Is), m + i = 999 → EqV (gv I' 32) (goF (en I b) (bit 7) (bit 0) (bit 0) i (bgF (gv I 16))) → Fr [32, 33, 34, 35, 36, 37, 14, 15] I I' → (∀ k, k < i → ¬ ovF (en I b) (goF (en I b) (bit 7) (bit 0) (bit 0) k (bgF (gv I 16)))) → Aw X 13 [some (.ref 28), some (.int (nI i))] [] (st9 I' J b) := by
    intro m
    induction m with
    | zero =>
      intro i I' hm hE hF hn
      have hi : i = 999 := by omega
      subst hi
      have r1 : I' 1 = I 1 := hF 1 (by decide)
      have hen : en I' b = en I b := en_rows (fun c hc => hF c (by revert hc; revert c; decide))
      refine r_iload_n C dX8_emptyBehind_13 rfl ?_
      refine r_sipush C (v := 999) dX8_emptyBehind_14 (by decide) ?_
      refine b_icge C (tgt := 49) (my := 999) rfl rfl dX8_emptyBehind_17 rfl (fun h17_1 => ?_) (fun h17_1 => ?_)
      · refine r_aload_n C dX8_emptyBehind_49 rfl ?_
        refine r_getR C flX8_34 dX8_emptyBehind_50 rfl rfl rfl ?_
        refine cV (ci := 1) C hx (sX1_isOver (d := d - 1) (by omega) I' J b s (by rw [r1]; exact hs) hs3) moX1_isOver mlX8_61 miX1_isOver msX1_isOver dX8_emptyBehind_53 rfl rfl rfl rfl rfl (by omega) rfl rfl (ki (fun v_53_2 I_53_2 q_53_2 => ?_))
        obtain ⟨hII, ho⟩ := q_53_2
        rw [hII]
        clear hII
        rw [hen, ov_eqv hE] at ho
        have hvv := ho
        generalize v_53_2 = vv at ho hvv ⊢
        refine r_ifeq C (tgt := 65) dX8_emptyBehind_56 rfl (fun h56_3 => ?_) (fun h56_3 => ?_)
        · refine r_bipush C (v := -2) dX8_emptyBehind_65 (by decide) ?_
          exact ri C Z dX8_emptyBehind_67 ⟨Or.inr ⟨rfl, fun k hk => (Nat.lt_or_ge k 999).elim (hn k) (fun hge => by
        have : k = 999 := by omega
        subst this
        exact ho.elim (fun z => by have h0 := ‹vv = 0›; rw [z.1] at h0; exact absurd h0 (by decide)) (fun z => z.2))⟩, hF⟩
        · refine r_sipush C (v := 999) dX8_emptyBehind_59 (by decide) ?_
          refine r_goto C (tgt := 67) dX8_emptyBehind_62 rfl ?_
          exact ri C Z dX8_emptyBehind_67 ⟨Or.inl ⟨999, by omega, rfl, ho.elim (fun z => z.2) (fun z => absurd z.1 (by assumption)), hn⟩, hF⟩
      · exfalso; have := nIint (j := 999) (by omega); omega
    | succ m ih =>
      intro i I' hm hE hF hn
      have r1 : I' 1 = I 1 := hF 1 (by decide)
      have ini : (nI i).toInt = (i : Int) := nIint (by omega)
      have hvi : VOk (gv I' 32) := VOk.eqv hE (go_ok he (bg_ok hv) i)
      have hen : en I' b = en I b := en_rows (fun c hc => hF c (by revert hc; revert c; decide))
      refine r_iload_n C dX8_emptyBehind_13 rfl ?_
      refine r_sipush C (v := 999) dX8_emptyBehind_14 (by decide) ?_
      refine b_icge C (tgt := 49) (my := 999) rfl rfl dX8_emptyBehind_17 rfl (fun h17_1 => ?_) (fun h17_1 => ?_)
      · exfalso; omega
      · refine r_aload_n C dX8_emptyBehind_20 rfl ?_
        refine r_getR C flX8_34 dX8_emptyBehind_21 rfl rfl rfl ?_
        refine cV (ci := 1) C hx (sX1_isOver (d := d - 1) (by omega) I' J b s (by rw [r1]; exact hs) hs3) moX1_isOver mlX8_61 miX1_isOver msX1_isOver dX8_emptyBehind_24 rfl rfl rfl rfl rfl (by omega) rfl rfl (ki (fun v_24_2 I_24_2 q_24_2 => ?_))
        obtain ⟨hII, ho⟩ := q_24_2
        rw [hII]
        clear hII
        rw [hen, ov_eqv hE] at ho
        have hvv := ho
        generalize v_24_2 = vv at ho hvv ⊢
        refine r_ifeq C (tgt := 32) dX8_emptyBehind_27 rfl (fun h27_3 => ?_) (fun h27_3 => ?_)
        · refine r_aload_n C dX8_emptyBehind_32 rfl ?_
          refine r_getR C flX8_34 dX8_emptyBehind_33 rfl rfl rfl ?_
          refine r_bipush C (v := 7) dX8_emptyBehind_36 (by decide) ?_
          refine r_iconst C (v := 0) dX8_emptyBehind_38 (by decide) ?_
          refine r_iconst C (v := 0) dX8_emptyBehind_39 (by decide) ?_
          refine cV (ci := 1) C hx (passT_32 (d := d - 1) (by omega) 7 0 0 I' J b (NW_rows (fun c hc => hF c (by revert hc; revert c; decide)) hNW) (TW_rows (fun c hc => hF c (by revert hc; revert c; decide)) hTW) hvi) moX1_pass mlX8_44 miX1_pass msX1_pass dX8_emptyBehind_40 rfl rfl rfl rfl rfl (by omega) rfl rfl (kv (fun I_40_4 q_40_4 => ?_))
          have hq := q_40_4
          refine r_iinc C (v := 1) dX8_emptyBehind_43 rfl (by decide) rfl ?_
          refine r_goto C (tgt := 13) dX8_emptyBehind_46 rfl ?_
          rw [nI_s]
          exact ih (i + 1) _ (by omega) (go_step he hen hE hq.1) (hF.tr hq.2.2.2 (by decide) (by decide)) (fun k hk => (Nat.lt_or_ge k i).elim (hn k) (fun hge => by
            have : k = i := by omega
            subst this
            exact ho.elim (fun z => by have h0 := ‹vv = 0›; rw [z.1] at h0; exact absurd h0 (by decide)) (fun z => z.2)))
        · refine r_iload_n C dX8_emptyBehind_30 rfl ?_
          exact ri C Z dX8_emptyBehind_31 ⟨Or.inl ⟨i, by omega, rfl, ho.elim (fun z => z.2) (fun z => absurd z.1 (by assumption)), hn⟩, hF⟩
  refine r_aload_n C dX8_emptyBehind_0 rfl ?_
  refine r_getR C flX8_34 dX8_emptyBehind_1 rfl rfl rfl ?_
  refine r_aload_n C dX8_emptyBehind_4 rfl ?_
  refine r_getR C flX8_25 dX8_emptyBehind_5 rfl rfl rfl ?_
  refine cV (ci := 1) C hx (sX1_begin_32_16 (d := d - 1) (by omega) I J b) moX1_begin mlX8_40 miX1_begin msX1_begin dX8_emptyBehind_8 rfl rfl rfl rfl rfl (by omega) rfl rfl (kv (fun I_8_1 q_8_1 => ?_))
  have hq := q_8_1
  refine r_iconst C (v := 0) dX8_emptyBehind_11 (by decide) ?_
  refine r_istore_n C dX8_emptyBehind_12 rfl rfl ?_
  exact loop 999 0 _ rfl hq.1 (hq.2.2.mo (by decide)) (fun k hk => absurd hk (Nat.not_lt_zero k))
/-- n seconds, each with its own who and who hiccups -/
def gwF (e : EV) (pt fr hc : Nat → Nat → Bool) : Nat → GV → GV
  | 0, v => v
  | n + 1, v => secF e (pt n) (fr n) (hc n) (gwF e pt fr hc n v)
theorem gw_ok {e : EV} (he : EvOk e) {pt fr hc : Nat → Nat → Bool} {v : GV} (hv : VOk v) : ∀ n, VOk (gwF e pt fr hc n v) := by
  intro n
  induction n with
  | zero => exact hv
  | succ n ih => exact sec_ok he ih
theorem gw_eqv {e : EV} (he : e.1 ≤ 3) {pt fr hc : Nat → Nat → Bool} {v w : GV} (h : EqV v w) : ∀ n, EqV (gwF e pt fr hc n v) (gwF e pt fr hc n w) := by
  intro n
  induction n with
  | zero => exact h
  | succ n ih => exact secF_eqv he ih
/-- who drinks in second i, by turns -/
def tnF (s m f : Int32) (i : Nat) : Nat → Bool := bit (1 <<< (irm (f + nI i / m) s &&& 31))
set_option maxRecDepth 100000 in
set_option maxHeartbeats 400000 in
theorem sX8_byTurns {g : Gb} {d : Nat} (hd : 7 ≤ d) (N : Nat) (hN : N < 100000) (m f : Int32) (I : Is) (J : Js) (b : Bool) (hm1 : 1 ≤ m.toInt) (hs1 : 1 ≤ (I 1 1).toInt) (hNW : NW (I 1 1) (I 2)) (hTW : TW I b) (hv : VOk (gv I 16)) : MC9 g d mX8_byTurns [.ref 28, .int (nI N), .int m, .int f] I J b (Qr J b (fun t I' => t = 32 ∧ EqV (gv I' 32) (gwF (en I b) (tnF (I 1 1) m f) (tnF (I 1 1) m f) (fun _ => bit 0) N (bgF (gv I 16))) ∧ Fr [32, 33, 34, 35, 36, 37, 14, 15] I I')) := by
  refine ent9 (own := RX8) rfl rfl rfl (fun X hg hx C Z => ?_)
  subst hg
  have he := en_ok (b := b) hNW
  generalize hss : I 1 1 = ss1 at hs1
  have loop : ∀ (q i : Nat) (I' : Is) (x6 : Option Value), q + i = N → EqV (gv I' 32) (gwF (en I b) (tnF ss1 m f) (tnF ss1 m f) (fun _ => bit 0) i (bgF (gv I 16))) → Fr [32, 33, 34, 35, 36, 37, 14, 15] I I' → Aw X 32 [some (.ref 28), some (.int (nI N)), some (.int m), some (.int f), some (.int ss1), some (.int (nI i)), x6] [] (st9 I' J b) := by
    intro q
    induction q with
    | zero =>
      intro i I' x6 hm hE hF
      have hi : i = N := by omega
      subst hi
      refine r_iload C dX8_byTurns_32 rfl ?_
      refine r_iload_n C dX8_byTurns_34 rfl ?_
      refine b_icge C (tgt := 69) rfl rfl dX8_byTurns_35 rfl (fun h35_1 => ?_) (fun h35_1 => ?_)
      · refine r_aload_n C dX8_byTurns_69 rfl ?_
        refine r_getR C flX8_34 dX8_byTurns_70 rfl rfl rfl ?_
        exact rr C Z dX8_byTurns_73 ⟨rfl, by rw [hss]; exact hE, hF⟩
      · exfalso; omega
    | succ q ih =>
      intro i I' x6 hm hE hF
      have ini : (nI i).toInt = (i : Int) := nIint (by omega)
      have inN : (nI N).toInt = (N : Int) := nIint (by omega)
      have hvi : VOk (gv I' 32) := VOk.eqv hE (gw_ok he (bg_ok hv) i)
      have hen : en I' b = en I b := en_rows (fun c hc => hF c (by revert hc; revert c; decide))
      refine r_iload C dX8_byTurns_32 rfl ?_
      refine r_iload_n C dX8_byTurns_34 rfl ?_
      refine b_icge C (tgt := 69) rfl rfl dX8_byTurns_35 rfl (fun h35_1 => ?_) (fun h35_1 => ?_)
      · exfalso; omega
      · refine r_iconst C (v := 1) dX8_byTurns_38 (by decide) ?_
        refine r_iload_n C dX8_byTurns_39 rfl ?_
        refine r_iload C dX8_byTurns_40 rfl ?_
        refine r_iload_n C dX8_byTurns_42 rfl ?_
        refine r_idiv C dX8_byTurns_43 (fun z => by rw [z] at hm1; exact absurd hm1 (by decide)) ?_
        refine r_iadd C dX8_byTurns_44 ?_
        refine r_iload C dX8_byTurns_45 rfl ?_
        refine r_irem C dX8_byTurns_47 (fun z => by rw [z] at hs1; exact absurd hs1 (by decide)) ?_
        refine r_ishl C dX8_byTurns_48 ?_
        refine r_istore C dX8_byTurns_49 rfl rfl ?_
        refine r_aload_n C dX8_byTurns_51 rfl ?_
        refine r_getR C flX8_34 dX8_byTurns_52 rfl rfl rfl ?_
        refine r_iload C dX8_byTurns_55 rfl ?_
        refine r_iload C dX8_byTurns_57 rfl ?_
        refine r_iconst C (v := 0) dX8_byTurns_59 (by decide) ?_
        refine cV (ci := 1) C hx (passT_32 (d := d - 1) (by omega) _ _ 0 I' J b (NW_rows (fun c hc => hF c (by revert hc; revert c; decide)) hNW) (TW_rows (fun c hc => hF c (by revert hc; revert c; decide)) hTW) hvi) moX1_pass mlX8_44 miX1_pass msX1_pass dX8_byTurns_60 rfl rfl rfl rfl rfl (by omega) rfl rfl (kv (fun I_60_2 q_60_2 => ?_))
        have hq := q_60_2
        refine r_iinc C (v := 1) dX8_byTurns_63 rfl (by decide) rfl ?_
        refine r_goto C (tgt := 32) dX8_byTurns_66 rfl ?_
        rw [nI_s]
        exact ih (i + 1) _ _ (by omega) (by rw [hq.1, hen]; exact secF_eqv he.1 hE) (hF.tr hq.2.2.2 (by decide) (by decide))
  refine r_aload_n C dX8_byTurns_0 rfl ?_
  refine r_getR C flX8_34 dX8_byTurns_1 rfl rfl rfl ?_
  refine r_aload_n C dX8_byTurns_4 rfl ?_
  refine r_getR C flX8_25 dX8_byTurns_5 rfl rfl rfl ?_
  refine cV (ci := 1) C hx (sX1_begin_32_16 (d := d - 1) (by omega) I J b) moX1_begin mlX8_40 miX1_begin msX1_begin dX8_byTurns_8 rfl rfl rfl rfl rfl (by omega) rfl rfl (kv (fun I_8_1 q_8_1 => ?_))
  have hq := q_8_1
  have hr1 : I_8_1 1 1 = ss1 := by rw [hq.2.2 1 (by decide)]; exact hss
  refine r_aload_n C dX8_byTurns_11 rfl ?_
  refine r_getR C flX8_21 dX8_byTurns_12 rfl rfl rfl ?_
  refine r_getI C flX8_65 dX8_byTurns_15 rfl rfl ?_
  rw [hr1]
  refine r_istore C dX8_byTurns_18 rfl rfl ?_
  refine r_iload_n C dX8_byTurns_20 rfl ?_
  refine b_ifle C (tgt := 69) dX8_byTurns_21 rfl (fun h21_2 => ?_) (fun h21_2 => ?_)
  · exfalso; omega
  · refine r_iload C dX8_byTurns_24 rfl ?_
    refine b_ifle C (tgt := 69) dX8_byTurns_26 rfl (fun h26_3 => ?_) (fun h26_3 => ?_)
    · exfalso; omega
    · refine r_iconst C (v := 0) dX8_byTurns_29 (by decide) ?_
      refine r_istore C dX8_byTurns_30 rfl rfl ?_
      exact loop N 0 _ none rfl hq.1 (hq.2.2.mo (by decide))
