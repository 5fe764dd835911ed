theorem passT_16 {g : Gb} {d : Nat} (hd : 6 ≤ d) (who free hic : Int32) (I : Is) (J : Js) (b : Bool) (hNW : NW (I 1 1) (I 2)) (hTW : TW I b) (hv : VOk (gv I 16)) : MC9 g d mX1_pass [.ref 16, .int who, .int free, .int hic] I J b (Qv J b (fun I' =>
    gv I' 16 = secF (en I b) (bit who) (bit free) (bit hic) (gv I 16) ∧ I' 16 3 = I 16 3 ∧ I' 16 4 = I 16 4 ∧ Fr [16, 17, 18, 19, 20, 21, 14, 15] I I')) :=
  sX1_pass_16 hd who free hic I J b hNW hTW hv.1.1 hv.1.2 (fun k hk => by
    have h0 := hNW.1
    have e : ((ix (I 1 1) : Nat) : Int) = (I 1 1).toInt := ix_nn h0
    have := (wVF_rng (en_ok (b := b) hNW) (pt := bit who) (fr := bit free) (hc := bit hic) (j := k) (by show k < ix (I 1 1); omega) hv).1
    omega)
theorem passT_32 {g : Gb} {d : Nat} (hd : 6 ≤ d) (who free hic : Int32) (I : Is) (J : Js) (b : Bool) (hNW : NW (I 1 1) (I 2)) (hTW : TW I b) (hv : VOk (gv I 32)) : MC9 g d mX1_pass [.ref 32, .int who, .int free, .int hic] I J b (Qv J b (fun I' =>
    gv I' 32 = secF (en I b) (bit who) (bit free) (bit hic) (gv I 32) ∧ I' 32 3 = I 32 3 ∧ I' 32 4 = I 32 4 ∧ Fr [32, 33, 34, 35, 36, 37, 14, 15] I I')) :=
  sX1_pass_32 hd who free hic I J b hNW hTW hv.1.1 hv.1.2 (fun k hk => by
    have h0 := hNW.1
    have e : ((ix (I 1 1) : Nat) : Int) = (I 1 1).toInt := ix_nn h0
    have := (wVF_rng (en_ok (b := b) hNW) (pt := bit who) (fr := bit free) (hc := bit hic) (j := k) (by show k < ix (I 1 1); omega) hv).1
    omega)
theorem passT_38 {g : Gb} {d : Nat} (hd : 6 ≤ d) (who free hic : Int32) (I : Is) (J : Js) (b : Bool) (hNW : NW (I 1 1) (I 2)) (hTW : TW I b) (hv : VOk (gv I 38)) : MC9 g d mX1_pass [.ref 38, .int who, .int free, .int hic] I J b (Qv J b (fun I' =>
    gv I' 38 = secF (en I b) (bit who) (bit free) (bit hic) (gv I 38) ∧ I' 38 3 = I 38 3 ∧ I' 38 4 = I 38 4 ∧ Fr [38, 39, 40, 41, 42, 43, 14, 15] I I')) :=
  sX1_pass_38 hd who free hic I J b hNW hTW hv.1.1 hv.1.2 (fun k hk => by
    have h0 := hNW.1
    have e : ((ix (I 1 1) : Nat) : Int) = (I 1 1).toInt := ix_nn h0
    have := (wVF_rng (en_ok (b := b) hNW) (pt := bit who) (fr := bit free) (hc := bit hic) (j := k) (by show k < ix (I 1 1); omega) hv).1
    omega)
theorem NW_rows {I I' : Is} (h : ∀ c, c ∈ [1, 2] → I' c = I c) (hw : NW (I 1 1) (I 2)) : NW (I' 1 1) (I' 2) := by
  rw [h 1 (by decide), h 2 (by decide)]
  exact hw
theorem go_step {I I' I'' : Is} {b : Bool} {pt fr hc : Nat → Bool} {v0 : GV} {i t : Nat} (he : EvOk (en I b)) (hen : en I' b = en I b) (hE : EqV (gv I' t) (goF (en I b) pt fr hc i v0)) (hq : gv I'' t = secF (en I' b) pt fr hc (gv I' t)) : EqV (gv I'' t) (goF (en I b) pt fr hc (i + 1) v0) := by
  rw [hq, hen]
  exact secF_eqv he.1 hE
theorem bg_ok {v : GV} (h : VOk v) : VOk (bgF v) := h
theorem nat_of {x : Int32} (h : 0 ≤ x.toInt) : ∃ n : Nat, x = nI n ∧ (n : Int) = x.toInt := ⟨x.toInt.toNat, by
  apply Int32.toInt_inj.mp
  have := Int32.toInt_lt x
  rw [nI_toInt (by omega)]
  omega, by omega⟩
set_option maxRecDepth 100000 in
set_option maxHeartbeats 400000 in
theorem sX8_after {g : Gb} {d : Nat} (hd : 7 ≤ d) (N : Nat) (hN : N < 100000) (I : Is) (J : Js) (b : Bool) (hNW : NW (I 1 1) (I 2)) (hTW : TW I b) (hv : VOk (gv I 16)) : MC9 g d mX8_after [.ref 28, .int (nI N)] I J b (Qr J b (fun t I' => t = 32 ∧ EqV (gv I' 32) (goF (en I b) (bit 7) (bit 0) (bit 0) N (bgF (gv I 16))) ∧ Fr [32, 33, 34, 35, 36, 37, 14, 15] I I')) := by
  refine ent9 (own := RX8) rfl rfl rfl (fun X hg hx C Z => ?_)
  subst hg
  have he := en_ok (b := b) hNW
  have loop : ∀ (m i : Nat) (I' : Is), m + i = N → EqV (gv I' 32) (goF (en I b) (bit 7) (bit 0) (bit 0) i (bgF (gv I 16))) → Fr [32, 33, 34, 35, 36, 37, 14, 15] I I' → Aw X 13 [some (.ref 28), some (.int (nI N)), some (.int (nI i))] [] (st9 I' J b) := by
    intro m
    induction m with
    | zero =>
      intro i I' hm hE hF
      have hi : i = N := by omega
      subst hi
      refine r_iload_n C dX8_after_13 rfl ?_
      refine r_iload_n C dX8_after_14 rfl ?_
      refine b_icge C (tgt := 35) rfl rfl dX8_after_15 rfl (fun h15_1 => ?_) (fun h15_1 => ?_)
      · refine r_aload_n C dX8_after_35 rfl ?_
        refine r_getR C flX8_34 dX8_after_36 rfl rfl rfl ?_
        exact rr C Z dX8_after_39 ⟨rfl, hE, hF⟩
      · exfalso; omega
    | succ m ih =>
      intro i I' hm hE hF
      have ini : (nI i).toInt = (i : Int) := nIint (by omega)
      have inN : (nI N).toInt = (N : Int) := nIint (by omega)
      have hvi : VOk (gv I' 32) := VOk.eqv hE (go_ok he (bg_ok hv) i)
      have hen : en I' b = en I b := en_rows (fun c hc => hF c (by revert hc; revert c; decide))
      refine r_iload_n C dX8_after_13 rfl ?_
      refine r_iload_n C dX8_after_14 rfl ?_
      refine b_icge C (tgt := 35) rfl rfl dX8_after_15 rfl (fun h15_1 => ?_) (fun h15_1 => ?_)
      · exfalso; omega
      · refine r_aload_n C dX8_after_18 rfl ?_
        refine r_getR C flX8_34 dX8_after_19 rfl rfl rfl ?_
        refine r_bipush C (v := 7) dX8_after_22 (by decide) ?_
        refine r_iconst C (v := 0) dX8_after_24 (by decide) ?_
        refine r_iconst C (v := 0) dX8_after_25 (by decide) ?_
        refine cV (ci := 1) C hx (passT_32 (d := d - 1) (by omega) 7 0 0 I' J b (NW_rows (fun c hc => hF c (by revert hc; revert c; decide)) hNW) (TW_rows (fun c hc => hF c (by revert hc; revert c; decide)) hTW) hvi) moX1_pass mlX8_44 miX1_pass msX1_pass dX8_after_26 rfl rfl rfl rfl rfl (by omega) rfl rfl (kv (fun I_26_2 q_26_2 => ?_))
        have hq := q_26_2
        refine r_iinc C (v := 1) dX8_after_29 rfl (by decide) rfl ?_
        refine r_goto C (tgt := 13) dX8_after_32 rfl ?_
        rw [nI_s]
        exact ih (i + 1) _ (by omega) (go_step he hen hE hq.1) (hF.tr hq.2.2.2 (by decide) (by decide))
  refine r_aload_n C dX8_after_0 rfl ?_
  refine r_getR C flX8_34 dX8_after_1 rfl rfl rfl ?_
  refine r_aload_n C dX8_after_4 rfl ?_
  refine r_getR C flX8_25 dX8_after_5 rfl rfl rfl ?_
  refine cV (ci := 1) C hx (sX1_begin_32_16 (d := d - 1) (by omega) I J b) moX1_begin mlX8_40 miX1_begin msX1_begin dX8_after_8 rfl rfl rfl rfl rfl (by omega) rfl rfl (kv (fun I_8_1 q_8_1 => ?_))
  have hq := q_8_1
  refine r_iconst C (v := 0) dX8_after_11 (by decide) ?_
  refine r_istore_n C dX8_after_12 rfl rfl ?_
  exact loop N 0 _ rfl hq.1 (hq.2.2.mo (by decide))
set_option maxRecDepth 100000 in
set_option maxHeartbeats 400000 in
theorem sX8_gotBehind {g : Gb} {d : Nat} (hd : 7 ≤ d) (j N : Nat) (hj : j < 3) (hN : N < 100000) (I : Is) (J : Js) (b : Bool) (hNW : NW (I 1 1) (I 2)) (hTW : TW I b) (hv : VOk (gv I 32)) : MC9 g d mX8_gotBehind [.ref 28, .int (nI j), .int (nI N)] I J b (Qi J b (fun v I' => v = (goF (en I b) (bit (1 <<< (nI j &&& 31))) (bit (1 <<< (nI j &&& 31))) (bit 0) N (bgF (gv I 32))).2.2.2.2.1 j ∧ Fr [38, 39, 40, 41, 42, 43, 14, 15] I I')) := by
  refine ent9 (own := RX8) rfl rfl rfl (fun X hg hx C Z => ?_)
  subst hg
  have he := en_ok (b := b) hNW
  have ij : ix (nI j) = j := nIix (by omega)
  have loop : ∀ (m i : Nat) (I' : Is), m + i = N → EqV (gv I' 38) (goF (en I b) (bit (1 <<< (nI j &&& 31))) (bit (1 <<< (nI j &&& 31))) (bit 0) i (bgF (gv I 32))) → Fr [38, 39, 40, 41, 42, 43, 14, 15] I I' → Aw X 13 [some (.ref 28), some (.int (nI j)), some (.int (nI N)), some (.int (nI i))] [] (st9 I' J b) := by
    intro m
    induction m with
    | zero =>
      intro i I' hm hE hF
      have hi : i = N := by omega
      subst hi
      refine r_iload_n C dX8_gotBehind_13 rfl ?_
      refine r_iload_n C dX8_gotBehind_14 rfl ?_
      refine b_icge C (tgt := 38) rfl rfl dX8_gotBehind_15 rfl (fun h15_1 => ?_) (fun h15_1 => ?_)
      · refine r_aload_n C dX8_gotBehind_38 rfl ?_
        refine r_getR C flX8_37 dX8_gotBehind_39 rfl rfl rfl ?_
        refine r_getR C flX8_68 dX8_gotBehind_42 rfl rfl rfl ?_
        refine r_iload_n C dX8_gotBehind_45 rfl ?_
        refine r_iald C rfl dX8_gotBehind_46 (nIin hj (by decide)) ?_
        exact ri C Z dX8_gotBehind_47 ⟨by rw [ij]; exact hE.2.2.2.2.1 j hj, hF⟩
      · exfalso; omega
    | succ m ih =>
      intro i I' hm hE hF
      have ini : (nI i).toInt = (i : Int) := nIint (by omega)
      have inN : (nI N).toInt = (N : Int) := nIint (by omega)
      have hvi : VOk (gv I' 38) := VOk.eqv hE (go_ok he (bg_ok hv) i)
      have hen : en I' b = en I b := en_rows (fun c hc => hF c (by revert hc; revert c; decide))
      refine r_iload_n C dX8_gotBehind_13 rfl ?_
      refine r_iload_n C dX8_gotBehind_14 rfl ?_
      refine b_icge C (tgt := 38) rfl rfl dX8_gotBehind_15 rfl (fun h15_1 => ?_) (fun h15_1 => ?_)
      · exfalso; omega
      · refine r_aload_n C dX8_gotBehind_18 rfl ?_
        refine r_getR C flX8_37 dX8_gotBehind_19 rfl rfl rfl ?_
        refine r_iconst C (v := 1) dX8_gotBehind_22 (by decide) ?_
        refine r_iload_n C dX8_gotBehind_23 rfl ?_
        refine r_ishl C dX8_gotBehind_24 ?_
        refine r_iconst C (v := 1) dX8_gotBehind_25 (by decide) ?_
        refine r_iload_n C dX8_gotBehind_26 rfl ?_
        refine r_ishl C dX8_gotBehind_27 ?_
        refine r_iconst C (v := 0) dX8_gotBehind_28 (by decide) ?_
        refine cV (ci := 1) C hx (passT_38 (d := d - 1) (by omega) _ _ 0 I' J b (NW_rows (fun c hc => hF c (by revert hc; revert c; decide)) hNW) (TW_rows (fun c hc => hF c (by revert hc; revert c; decide)) hTW) hvi) moX1_pass mlX8_44 miX1_pass msX1_pass dX8_gotBehind_29 rfl rfl rfl rfl rfl (by omega) rfl rfl (kv (fun I_29_2 q_29_2 => ?_))
        have hq := q_29_2
        refine r_iinc C (v := 1) dX8_gotBehind_32 rfl (by decide) rfl ?_
        refine r_goto C (tgt := 13) dX8_gotBehind_35 rfl ?_
        rw [nI_s]
        exact ih (i + 1) _ (by omega) (go_step he hen hE hq.1) (hF.tr hq.2.2.2 (by decide) (by decide))
  refine r_aload_n C dX8_gotBehind_0 rfl ?_
  refine r_getR C flX8_37 dX8_gotBehind_1 rfl rfl rfl ?_
  refine r_aload_n C dX8_gotBehind_4 rfl ?_
  refine r_getR C flX8_34 dX8_gotBehind_5 rfl rfl rfl ?_
  refine cV (ci := 1) C hx (sX1_begin_38_32 (d := d - 1) (by omega) I J b) moX1_begin mlX8_40 miX1_begin msX1_begin dX8_gotBehind_8 rfl rfl rfl rfl rfl (by omega) rfl rfl (kv (fun I_8_1 q_8_1 => ?_))
  have hq := q_8_1
  refine r_iconst C (v := 0) dX8_gotBehind_11 (by decide) ?_
  refine r_istore_n C dX8_gotBehind_12 rfl rfl ?_
  exact loop N 0 _ rfl hq.1 (hq.2.2.mo (by decide))
/-- how many seconds are gone through: up to n while the test holds -/
def whF (tst : GV → Bool) (e : EV) (pt fr hc : Nat → Bool) : Nat → GV → GV
  | 0, v => v
  | n + 1, v => if tst v = true then whF tst e pt fr hc n (secF e pt fr hc v) else v
theorem wh_eqv {tst : GV → Bool} (ht : ∀ v w, EqV v w → tst v = tst w) {e : EV} (he : e.1 ≤ 3) {pt fr hc : Nat → Bool} : ∀ (n : Nat) (v w : GV), EqV v w → EqV (whF tst e pt fr hc n v) (whF tst e pt fr hc n w) := by
  intro n
  induction n with
  | zero => intro v w h; exact h
  | succ n ih =>
    intro v w h
    show EqV (if _ then _ else _) (if _ then _ else _)
    rw [ht v w h]
    by_cases hh : tst w = true
    · rw [if_pos hh, if_pos hh]; exact ih _ _ (secF_eqv he h)
    · rw [if_neg hh, if_neg hh]; exact h
def abT (r : Int32) (v : GV) : Bool := decide (r.toInt < v.1.toInt)
/-- drinking goes on while there is ice or the level is above the lowest reach -/
def drT (r : Int32) (v : GV) : Bool := decide (0 < v.2.1.toInt ∨ r.toInt < v.1.toInt)
set_option maxRecDepth 100000 in
set_option maxHeartbeats 400000 in
theorem sX8_gotFromGlass {g : Gb} {d : Nat} (hd : 7 ≤ d) (j : Nat) (hj : j < 3) (l : Int32) (hl : 0 ≤ l.toInt ∧ l.toInt ≤ 999) (I : Is) (J : Js) (b : Bool) (hNW : NW (I 1 1) (I 2)) (hTW : TW I b) : MC9 g d mX8_gotFromGlass [.ref 28, .int (nI j), .int l] I J b (Qi J b (fun v I' => v = (whF (abT (I 2 (8 * j + 2))) (en I b) (bit (1 <<< (nI j &&& 31))) (bit (1 <<< (nI j &&& 31))) (bit 0) 60 (l, 0, (gv I 16).2.2.1, (gv I 16).2.2.2.1, fun _ => 0, fun _ => 0, fun _ => 0)).2.2.2.2.1 j ∧ Fr [32, 33, 34, 35, 36, 37, 14, 15] I I')) := by
  refine ent9 (own := RX8) rfl rfl rfl (fun X hg hx C Z => ?_)
  subst hg
  have he := en_ok (b := b) hNW
  have ij : ix (nI j) = j := nIix (by omega)
  generalize hr : I 2 (8 * j + 2) = r
  have loop : ∀ (m i : Nat) (I' : Is) (v : GV), m + i = 60 → VOk v → EqV (gv I' 32) v → Fr [32, 33, 34, 35, 36, 37, 14, 15] I I' → (whF (abT r) (en I b) (bit (1 <<< (nI j &&& 31))) (bit (1 <<< (nI j &&& 31))) (bit 0) m v).2.2.2.2.1 j = (whF (abT r) (en I b) (bit (1 <<< (nI j &&& 31))) (bit (1 <<< (nI j &&& 31))) (bit 0) 60 (l, 0, (gv I 16).2.2.1, (gv I 16).2.2.2.1, fun _ => 0, fun _ => 0, fun _ => 0)).2.2.2.2.1 j →
      Aw X 40 [some (.ref 28), some (.int (nI j)), some (.int l), some (.int r), some (.int (nI i))] [] (st9 I' J b) := by
    intro m
    induction m with
    | zero =>
      intro i I' v hm hvo hE hF hg
      have hi : i = 60 := by omega
      subst hi
      refine r_iload C dX8_gotFromGlass_40 rfl ?_
      refine r_bipush C (v := 60) dX8_gotFromGlass_42 (by decide) ?_
      refine b_icge C (tgt := 78) (my := 60) rfl rfl dX8_gotFromGlass_44 rfl (fun h44_1 => ?_) (fun h44_1 => ?_)
      · refine r_aload_n C dX8_gotFromGlass_78 rfl ?_
        refine r_getR C flX8_34 dX8_gotFromGlass_79 rfl rfl rfl ?_
        refine r_getR C flX8_68 dX8_gotFromGlass_82 rfl rfl rfl ?_
        refine r_iload_n C dX8_gotFromGlass_85 rfl ?_
        refine r_iald C rfl dX8_gotFromGlass_86 (nIin hj (by decide)) ?_
        exact ri C Z dX8_gotFromGlass_87 ⟨by rw [ij, hr, ← hg]; exact hE.2.2.2.2.1 j hj, hF⟩
      · exfalso; have := nIint (j := 60) (by omega); omega
    | succ m ih =>
      intro i I' v hm hvo hE hF hg
      have ini : (nI i).toInt = (i : Int) := nIint (by omega)
      have hvi : VOk (gv I' 32) := VOk.eqv hE hvo
      have hen : en I' b = en I b := en_rows (fun c hc => hF c (by revert hc; revert c; decide))
      have hlv : I' 32 0 = v.1 := hE.1
      refine r_iload C dX8_gotFromGlass_40 rfl ?_
      refine r_bipush C (v := 60) dX8_gotFromGlass_42 (by decide) ?_
      refine b_icge C (tgt := 78) (my := 60) rfl rfl dX8_gotFromGlass_44 rfl (fun h44_1 => ?_) (fun h44_1 => ?_)
      · exfalso; omega
      · refine r_aload_n C dX8_gotFromGlass_47 rfl ?_
        refine r_getR C flX8_34 dX8_gotFromGlass_48 rfl rfl rfl ?_
        refine r_getI C flX8_58 dX8_gotFromGlass_51 rfl rfl ?_
        refine r_iload_n C dX8_gotFromGlass_54 rfl ?_
        refine b_icle C (tgt := 78) rfl rfl dX8_gotFromGlass_55 rfl (fun h55_2 => ?_) (fun h55_2 => ?_)
        · refine r_aload_n C dX8_gotFromGlass_78 rfl ?_
          refine r_getR C flX8_34 dX8_gotFromGlass_79 rfl rfl rfl ?_
          refine r_getR C flX8_68 dX8_gotFromGlass_82 rfl rfl rfl ?_
          refine r_iload_n C dX8_gotFromGlass_85 rfl ?_
          refine r_iald C rfl dX8_gotFromGlass_86 (nIin hj (by decide)) ?_
          exact ri C Z dX8_gotFromGlass_87 ⟨by
        have ht : ¬ abT r v = true := fun z => by
          have := of_decide_eq_true z
          rw [← hlv] at this
          omega
        rw [show whF (abT r) (en I b) (bit (1 <<< (nI j &&& 31))) (bit (1 <<< (nI j &&& 31))) (bit 0) (m + 1) v = v from if_neg ht] at hg
        rw [ij, hr, ← hg]; exact hE.2.2.2.2.1 j hj, hF⟩
        · refine r_aload_n C dX8_gotFromGlass_58 rfl ?_
          refine r_getR C flX8_34 dX8_gotFromGlass_59 rfl rfl rfl ?_
          refine r_iconst C (v := 1) dX8_gotFromGlass_62 (by decide) ?_
          refine r_iload_n C dX8_gotFromGlass_63 rfl ?_
          refine r_ishl C dX8_gotFromGlass_64 ?_
          refine r_iconst C (v := 1) dX8_gotFromGlass_65 (by decide) ?_
          refine r_iload_n C dX8_gotFromGlass_66 rfl ?_
          refine r_ishl C dX8_gotFromGlass_67 ?_
          refine r_iconst C (v := 0) dX8_gotFromGlass_68 (by decide) ?_
          refine cV (ci := 1) C hx (passT_32 (d := d - 1) (by omega) _ _ 0 I' J b (NW_rows (fun c hc => hF c (by revert hc; revert c; decide)) hNW) (TW_rows (fun c hc => hF c (by revert hc; revert c; decide)) hTW) hvi) moX1_pass mlX8_44 miX1_pass msX1_pass dX8_gotFromGlass_69 rfl rfl rfl rfl rfl (by omega) rfl rfl (kv (fun I_69_3 q_69_3 => ?_))
          have hq := q_69_3
          refine r_iinc C (v := 1) dX8_gotFromGlass_72 rfl (by decide) rfl ?_
          refine r_goto C (tgt := 40) dX8_gotFromGlass_75 rfl ?_
          have ht : abT r v = true := decide_eq_true (by rw [← hlv]; assumption)
          rw [show whF (abT r) (en I b) (bit (1 <<< (nI j &&& 31))) (bit (1 <<< (nI j &&& 31))) (bit 0) (m + 1) v = whF (abT r) (en I b) (bit (1 <<< (nI j &&& 31))) (bit (1 <<< (nI j &&& 31))) (bit 0) m (secF (en I b) (bit (1 <<< (nI j &&& 31))) (bit (1 <<< (nI j &&& 31))) (bit 0) v) from if_pos ht] at hg
          rw [nI_s]
          exact ih (i + 1) _ _ (by omega) (sec_ok he hvo) (by rw [hq.1, hen]; exact secF_eqv he.1 hE) (hF.tr hq.2.2.2 (by decide) (by decide)) hg
  refine r_aload_n C dX8_gotFromGlass_0 rfl ?_
  refine r_getR C flX8_21 dX8_gotFromGlass_1 rfl rfl rfl ?_
  refine r_iload_n C dX8_gotFromGlass_4 rfl ?_
  refine r_iconst C (v := 2) dX8_gotFromGlass_5 (by decide) ?_
  refine cV (ci := 3) C hx (sOf (d := d - 1) j 2 hj (by decide) I J b) moX3_ofStraw mlX8_83 miX3_ofStraw msX3_ofStraw dX8_gotFromGlass_6 rfl rfl rfl rfl rfl (by omega) rfl rfl (kp ?_)
  rw [hr]
  refine r_istore_n C dX8_gotFromGlass_9 rfl rfl ?_
  refine r_aload_n C dX8_gotFromGlass_10 rfl ?_
  refine r_getR C flX8_34 dX8_gotFromGlass_11 rfl rfl rfl ?_
  refine r_aload_n C dX8_gotFromGlass_14 rfl ?_
  refine r_getR C flX8_25 dX8_gotFromGlass_15 rfl rfl rfl ?_
  refine cV (ci := 1) C hx (sX1_begin_32_16 (d := d - 1) (by omega) I J b) moX1_begin mlX8_40 miX1_begin msX1_begin dX8_gotFromGlass_18 rfl rfl rfl rfl rfl (by omega) rfl rfl (kv (fun I_18_2 q_18_2 => ?_))
  have hq := q_18_2
  generalize I_18_2 = I1 at hq ⊢
  refine r_aload_n C dX8_gotFromGlass_21 rfl ?_
  refine r_getR C flX8_34 dX8_gotFromGlass_22 rfl rfl rfl ?_
  refine r_iload_n C dX8_gotFromGlass_25 rfl ?_
  refine r_putI C flX8_58 dX8_gotFromGlass_26 rfl rfl rfl rfl rfl ?_
  refine r_aload_n C dX8_gotFromGlass_29 rfl ?_
  refine r_getR C flX8_34 dX8_gotFromGlass_30 rfl rfl rfl ?_
  refine r_iconst C (v := 0) dX8_gotFromGlass_33 (by decide) ?_
  refine r_putI C flX8_54 dX8_gotFromGlass_34 rfl rfl rfl rfl rfl ?_
  obtain ⟨I2, hI2⟩ : ∃ z, z = u2 (u2 I1 32 0 l) 32 1 0 := ⟨_, rfl⟩
  rw [← hI2]
  obtain ⟨⟨q1, q2, q3, q4, q5, q6, q7⟩, -, qF⟩ := hq
  have f0 : I2 32 0 = l := by rw [hI2, u2_ne _ _ _ _ (Or.inr (by decide)), u2_same]
  have f1 : I2 32 1 = 0 := by rw [hI2, u2_same]
  have f2 : I2 32 2 = I 16 2 := by rw [hI2, u2_ne _ _ _ _ (Or.inr (by decide)), u2_ne _ _ _ _ (Or.inr (by decide))]; exact q3
  have f3 : ∀ c, c ≠ 32 → I2 c = I1 c := fun c hc => by rw [hI2, u2_row hc, u2_row hc]
  have fF : Fr [32, 33, 34, 35, 36, 37, 14, 15] I I2 := by rw [hI2]; exact ((qF.mo (by decide)).st (by decide)).st (by decide)
  refine r_iconst C (v := 0) dX8_gotFromGlass_37 (by decide) ?_
  refine r_istore C dX8_gotFromGlass_38 rfl rfl ?_
  exact loop 60 0 I2 (l, 0, (gv I 16).2.2.1, (gv I 16).2.2.2.1, fun _ => 0, fun _ => 0, fun _ => 0) rfl ⟨hl, (by show 0 ≤ (0 : Int32).toInt; decide), (by show (0 : Int32).toInt ≤ 99; decide)⟩ ⟨f0, f1, f2, fun k hk => by show I2 33 k = _; rw [f3 33 (by decide)]; exact q4 k hk, fun k hk => by show I2 34 k = _; rw [f3 34 (by decide)]; exact q5 k hk, fun k hk => by show I2 35 k = _; rw [f3 35 (by decide)]; exact q6 k hk, fun k hk => by show I2 36 k = _; rw [f3 36 (by decide)]; exact q7 k hk⟩ fF rfl
