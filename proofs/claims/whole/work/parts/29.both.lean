def st2 (I : Is) (x y : Int32) : Is := u2 (u2 I 2 0 x) 2 8 y
theorem st2_ne {I : Is} {x y : Int32} {c : Nat} (h : c ≠ 2) : st2 I x y c = I c := (u2_row h).trans (u2_row h)
theorem st2_2 {I I' : Is} {x y : Int32} (h : ∀ q, q ≠ 0 → q ≠ 8 → I' 2 q = I 2 q) : (st2 I' x y) 2 = (st2 I x y) 2 := by
  funext q
  unfold st2
  by_cases e8 : q = 8
  · subst e8; rw [u2_same, u2_same]
  · rw [u2_ne _ _ _ _ (Or.inr e8), u2_ne _ _ _ _ (Or.inr e8)]
    by_cases e0 : q = 0
    · subst e0; rw [u2_same, u2_same]
    · rw [u2_ne _ _ _ _ (Or.inr e0), u2_ne _ _ _ _ (Or.inr e0)]; exact h q e0 e8
theorem st2_NW {I : Is} {x y : Int32} (h : NW (I 1 1) (I 2)) (hs : 2 ≤ (I 1 1).toInt) (hx : 0 ≤ x.toInt ∧ x.toInt ≤ 20) (hy : 0 ≤ y.toInt ∧ y.toInt ≤ 20) : NW (I 1 1) ((st2 I x y) 2) := by
  have h1 : NW (I 1 1) ((u2 I 2 (8 * 0 + 0) x) 2) := by rw [u2_2]; exact NW_upd h (by omega) (Or.inl ⟨rfl, hx⟩)
  have h2 : NW (I 1 1) ((u2 (u2 I 2 (8 * 0 + 0) x) 2 (8 * 1 + 0) y) 2) := by rw [u2_2]; exact NW_upd h1 (by omega) (Or.inl ⟨rfl, hy⟩)
  exact h2
/-- drunk in thought for n seconds, with the strengths of the first two told otherwise -/
def drS (I : Is) (b : Bool) (x y : Int32) (s n : Nat) : GV := whF (drT (lrF ((st2 I x y) 2) s)) (en (st2 I x y) b) (bit 7) (bit 0) (bit 0) n (bgF (gv I 16))
/-- with strengths x and y told: what the calls in the loops stand on -/
theorem st2_world {g : Gb} {d : Nat} (hd : 7 ≤ d) {I I' : Is} {J : Js} {b : Bool} {L : List Nat} (hL : ∀ c, c ∈ [1, 5, 6, 7, 8, 10, 11, 12, 13, 16, 17, 18, 19, 20] → c ∉ L) (hF : Fr (2 :: L) I I') (h2 : ∀ q, q ≠ 0 → q ≠ 8 → I' 2 q = I 2 q) {x y : Int32} (s : Nat) (hs : (I 1 1).toInt = (s : Int)) (hs3 : s ≤ 3) (hs2 : 2 ≤ s) (hx : 0 ≤ x.toInt ∧ x.toInt ≤ 20) (hy : 0 ≤ y.toInt ∧ y.toInt ≤ 20) (hNW : NW (I 1 1) (I 2)) (hTW : TW I b) (hv : VOk (gv I 16)) (N : Nat) (hN : N < 100000) :
    MC9 g d mX8_drunk [.ref 28, .int (nI N)] (st2 I' x y) J b (Qr J b (fun t I2 => t = 32 ∧ EqV (gv I2 32) (drS I b x y s N) ∧ Fr [32, 33, 34, 35, 36, 37, 14, 15] (st2 I' x y) I2)) := by
  have hFc : ∀ c, c ∈ [1, 5, 6, 7, 8, 10, 11, 12, 13, 16, 17, 18, 19, 20] → (st2 I' x y) c = I c := fun c hc => by
    have c2 : c ≠ 2 := by revert hc; revert c; decide
    rw [st2_ne c2]
    exact hF c (fun z => (List.mem_cons.mp z).elim c2 (hL c hc))
  have row := st2_2 (x := x) (y := y) h2
  have hen : en (st2 I' x y) b = en (st2 I x y) b := en_rows (fun c hc => by
    by_cases e : c = 2
    · rw [e]; exact row
    · rw [st2_ne (I := I) e]; exact hFc c (by revert e; revert hc; revert c; decide))
  have hg : gv (st2 I' x y) 16 = gv I 16 := gv_rows (fun c hc => hFc c (by revert hc; revert c; decide))
  have h := sX8_drunk (g := g) (d := d) hd N hN (st2 I' x y) J b s (by rw [hFc 1 (by decide)]; exact hs) hs3 (by rw [hFc 1 (by decide), row]; exact st2_NW hNW (by omega) hx hy) (TW_rows (fun c hc => hFc c (by revert hc; revert c; decide)) hTW) (by rw [hg]; exact hv)
  rw [hen, hg, row] at h
  exact h
/-- the pair with most, by rows -/
def tiF (val : Nat → Nat → Int32) (i : Nat) : Nat → Nat → Int32 → Int32 → Int32 × Int32
  | 0, _, be, mo => (be, mo)
  | m + 1, j, be, mo => if mo.toInt < (val i j).toInt then tiF val i m (j + 1) (100 * nI i + nI j) (val i j) else tiF val i m (j + 1) be mo
def toF (val : Nat → Nat → Int32) (S : Nat) : Nat → Nat → Int32 → Int32 → Int32 × Int32
  | 0, _, be, mo => (be, mo)
  | m + 1, i, be, mo => toF val S m (i + 1) (tiF val i (S + 1) 0 be mo).1 (tiF val i (S + 1) 0 be mo).2
def tgV (I : Is) (b : Bool) (s n : Nat) (i j : Nat) : Int32 := (drS I b (nI i) (nI j) s n).2.2.2.2.2.1 0 + (drS I b (nI i) (nI j) s n).2.2.2.2.2.1 1
set_option maxRecDepth 100000 in
set_option maxHeartbeats 400000 in
theorem sX8_together {g : Gb} {d : Nat} (hd : 8 ≤ d) (N : Nat) (hN : N < 100000) (I : Is) (J : Js) (b : Bool) (s : Nat) (hs : (I 1 1).toInt = (s : Int)) (hs3 : s ≤ 3) (hs2 : 2 ≤ s) (f S : Nat) (hf : I 2 0 = nI f) (hS : I 2 8 = nI S) (hf9 : f ≤ 20) (hS9 : S ≤ 20) (hNW : NW (I 1 1) (I 2)) (hTW : TW I b) (hv : VOk (gv I 16)) : MC9 g d mX8_together [.ref 28, .int (nI N)] I J b (Qi J b (fun v I' => v = (toF (tgV I b s N) S (f + 1) 0 0 (-1)).1 ∧ Fr [32, 33, 34, 35, 36, 37, 14, 15] I I')) := by
  refine ent9 (own := RX8) rfl rfl rfl (fun X hg hx C Z => ?_)
  subst hg
  have hLd : ∀ c, c ∈ [1, 5, 6, 7, 8, 10, 11, 12, 13, 16, 17, 18, 19, 20] → c ∉ [32, 33, 34, 35, 36, 37, 14, 15] := by decide
  have inf_ : (nI f).toInt = (f : Int) := nIint (by omega)
  have inS : (nI S).toInt = (S : Int) := nIint (by omega)
  have inner : ∀ (m i j : Nat) (be mo : Int32) (x8 x9 : Option Value) (I' : Is), i ≤ f → m + j = S + 1 → Fr (2 :: [32, 33, 34, 35, 36, 37, 14, 15]) I I' → (∀ q, q ≠ 0 → q ≠ 8 → I' 2 q = I 2 q) →
      (∀ (be' mo' : Int32) (x7 : Int32) (x8 x9 : Option Value) (I2 : Is), (be', mo') = tiF (tgV I b s N) i m j be mo → Fr (2 :: [32, 33, 34, 35, 36, 37, 14, 15]) I I2 → (∀ q, q ≠ 0 → q ≠ 8 → I2 2 q = I 2 q) → Aw X 103 [some (.ref 28), some (.int (nI N)), some (.int (nI f)), some (.int (nI S)), some (.int be'), some (.int mo'), some (.int (nI i)), some (.int x7), x8, x9] [] (st9 I2 J b)) →
      Aw X 38 [some (.ref 28), some (.int (nI N)), some (.int (nI f)), some (.int (nI S)), some (.int be), some (.int mo), some (.int (nI i)), some (.int (nI j)), x8, x9] [] (st9 I' J b) := by
    intro m
    induction m with
    | zero =>
      intro i j be mo x8 x9 I' hi hm hF h2 K
      have inj : (nI j).toInt = (j : Int) := nIint (by omega)
      refine r_iload C dX8_together_38 rfl ?_
      refine r_iload_n C dX8_together_40 rfl ?_
      refine b_icgt C (tgt := 103) rfl rfl dX8_together_41 rfl (fun h41_1 => ?_) (fun h41_1 => ?_)
      · exact K _ _ _ _ _ _ rfl hF h2
      · exfalso; omega
    | succ m ih =>
      intro i j be mo x8 x9 I' hi hm hF h2 K
      have inj : (nI j).toInt = (j : Int) := nIint (by omega)
      have ini : (nI i).toInt = (i : Int) := nIint (by omega)
      have hst : tiF (tgV I b s N) i (m + 1) j be mo = if mo.toInt < (tgV I b s N i j).toInt then tiF (tgV I b s N) i m (j + 1) (100 * nI i + nI j) (tgV I b s N i j) else tiF (tgV I b s N) i m (j + 1) be mo := rfl
      rw [hst] at K
      clear hst
      refine r_iload C dX8_together_38 rfl ?_
      refine r_iload_n C dX8_together_40 rfl ?_
      refine b_icgt C (tgt := 103) rfl rfl dX8_together_41 rfl (fun h41_1 => ?_) (fun h41_1 => ?_)
      · exfalso; omega
      · refine r_aload_n C dX8_together_44 rfl ?_
        refine r_iload C dX8_together_45 rfl ?_
        refine r_iload C dX8_together_47 rfl ?_
        refine cV (ci := 8) C hx (sX8_setStrengths (d := d - 1) (by omega) _ _ I' J b) moX8_setStrengths mlX8_113 miX8_setStrengths msX8_setStrengths dX8_together_49 rfl rfl rfl rfl rfl (by omega) rfl rfl (kv (fun I_49_2 q_49_2 => ?_))
        have hq := q_49_2
        rw [hq]
        refine r_aload_n C dX8_together_52 rfl ?_
        refine r_iload_n C dX8_together_53 rfl ?_
        refine cV (ci := 8) C hx (st2_world (g := x_g X) (d := d - 1) (by omega) hLd hF h2 (x := nI i) (y := nI j) s hs hs3 hs2 (by omega) (by omega) hNW hTW hv N hN) moX8_drunk mlX8_102 miX8_drunk msX8_drunk dX8_together_54 rfl rfl rfl rfl rfl (by omega) rfl rfl (kr (fun t_54_3 I_54_3 q_54_3 => ?_))
        obtain ⟨rfl, hE, hFd⟩ := q_54_3
        have hF2 : Fr (2 :: [32, 33, 34, 35, 36, 37, 14, 15]) I I_54_3 := fun c hc => (hFd c (fun z => hc (List.mem_cons_of_mem _ z))).trans ((st2_ne (fun e => hc (by rw [e]; simp))).trans (hF c hc))
        have h22 : ∀ q, q ≠ 0 → q ≠ 8 → I_54_3 2 q = I 2 q := fun q q0 q8 => by rw [hFd 2 (by decide)]; unfold st2; rw [u2_ne _ _ _ _ (Or.inr q8), u2_ne _ _ _ _ (Or.inr q0)]; exact h2 q q0 q8
        generalize I_54_3 = I2 at hE hF2 h22 ⊢
        have e0 : I2 35 0 = (drS I b (nI i) (nI j) s N).2.2.2.2.2.1 0 := hE.2.2.2.2.2.1 0 (by omega)
        have e1 : I2 35 1 = (drS I b (nI i) (nI j) s N).2.2.2.2.2.1 1 := hE.2.2.2.2.2.1 1 (by omega)
        have ev : I2 35 0 + I2 35 1 = tgV I b s N i j := by rw [e0, e1]; rfl
        refine r_astore C dX8_together_57 rfl rfl ?_
        refine r_aload C dX8_together_59 rfl ?_
        refine r_getR C flX8_117 dX8_together_61 rfl rfl rfl ?_
        refine r_iconst C (v := 0) dX8_together_64 (by decide) ?_
        refine r_iald C rfl dX8_together_65 (vin (by decide) (by decide)) ?_
        refine r_aload C dX8_together_66 rfl ?_
        refine r_getR C flX8_117 dX8_together_68 rfl rfl rfl ?_
        refine r_iconst C (v := 1) dX8_together_71 (by decide) ?_
        refine r_iald C rfl dX8_together_72 (vin (by decide) (by decide)) ?_
        refine r_iadd C dX8_together_73 ?_
        rw [show I2 35 (ix 0) + I2 35 (ix 1) = tgV I b s N i j from ev]
        refine r_istore C dX8_together_74 rfl rfl ?_
        refine r_iload C dX8_together_76 rfl ?_
        refine r_iload C dX8_together_78 rfl ?_
        refine b_icle C (tgt := 97) rfl rfl dX8_together_80 rfl (fun h80_4 => ?_) (fun h80_4 => ?_)
        · refine r_iinc C (v := 1) dX8_together_97 rfl (by decide) rfl ?_
          refine r_goto C (tgt := 38) dX8_together_100 rfl ?_
          rw [if_neg (Int.not_lt.mpr ‹(tgV I b s N i j).toInt ≤ mo.toInt›)] at K
          rw [nI_s]
          exact ih i (j + 1) _ _ _ _ _ hi (by omega) hF2 h22 K
        · refine r_iload C dX8_together_83 rfl ?_
          refine r_istore C dX8_together_85 rfl rfl ?_
          refine r_bipush C (v := 100) dX8_together_87 (by decide) ?_
          refine r_iload C dX8_together_89 rfl ?_
          refine r_imul C dX8_together_91 ?_
          refine r_iload C dX8_together_92 rfl ?_
          refine r_iadd C dX8_together_94 ?_
          refine r_istore C dX8_together_95 rfl rfl ?_
          refine r_iinc C (v := 1) dX8_together_97 rfl (by decide) rfl ?_
          refine r_goto C (tgt := 38) dX8_together_100 rfl ?_
          rw [if_pos ‹mo.toInt < (tgV I b s N i j).toInt›] at K
          rw [nI_s]
          exact ih i (j + 1) _ _ _ _ _ hi (by omega) hF2 h22 K
  have outer : ∀ (m i : Nat) (be mo : Int32) (x7 x8 x9 : Option Value) (I' : Is), m + i = f + 1 → Fr (2 :: [32, 33, 34, 35, 36, 37, 14, 15]) I I' → (∀ q, q ≠ 0 → q ≠ 8 → I' 2 q = I 2 q) → (toF (tgV I b s N) S m i be mo).1 = (toF (tgV I b s N) S (f + 1) 0 0 (-1)).1 →
      Aw X 29 [some (.ref 28), some (.int (nI N)), some (.int (nI f)), some (.int (nI S)), some (.int be), some (.int mo), some (.int (nI i)), x7, x8, x9] [] (st9 I' J b) := by
    intro m
    induction m with
    | zero =>
      intro i be mo x7 x8 x9 I' hm hF h2 hg
      have ini : (nI i).toInt = (i : Int) := nIint (by omega)
      refine r_iload C dX8_together_29 rfl ?_
      refine r_iload_n C dX8_together_31 rfl ?_
      refine b_icgt C (tgt := 109) rfl rfl dX8_together_32 rfl (fun h32_1 => ?_) (fun h32_1 => ?_)
      · refine r_aload_n C dX8_together_109 rfl ?_
        refine r_iload_n C dX8_together_110 rfl ?_
        refine r_iload_n C dX8_together_111 rfl ?_
        refine cV (ci := 8) C hx (sX8_setStrengths (d := d - 1) (by omega) _ _ I' J b) moX8_setStrengths mlX8_113 miX8_setStrengths msX8_setStrengths dX8_together_112 rfl rfl rfl rfl rfl (by omega) rfl rfl (kv (fun I_112_2 q_112_2 => ?_))
        have hq := q_112_2
        rw [hq]
        refine r_iload C dX8_together_115 rfl ?_
        exact ri C Z dX8_together_117 ⟨hg, fun c hc => by
        by_cases e : c = 2
        · rw [e]
          have h3 := st2_2 (x := nI f) (y := nI S) h2
          refine h3.trans ?_
          funext q
          unfold st2
          by_cases e8 : q = 8
          · rw [e8, u2_same, hS]
          · rw [u2_ne _ _ _ _ (Or.inr e8)]
            by_cases e0 : q = 0
            · rw [e0, u2_same, hf]
            · rw [u2_ne _ _ _ _ (Or.inr e0)]
        · exact (st2_ne (x := nI f) (y := nI S) e).trans (hF c (fun z => (List.mem_cons.mp z).elim e hc))⟩
      · exfalso; omega
    | succ m ih =>
      intro i be mo x7 x8 x9 I' hm hF h2 hg
      have ini : (nI i).toInt = (i : Int) := nIint (by omega)
      refine r_iload C dX8_together_29 rfl ?_
      refine r_iload_n C dX8_together_31 rfl ?_
      refine b_icgt C (tgt := 109) rfl rfl dX8_together_32 rfl (fun h32_1 => ?_) (fun h32_1 => ?_)
      · exfalso; omega
      · refine r_iconst C (v := 0) dX8_together_35 (by decide) ?_
        refine r_istore C dX8_together_36 rfl rfl ?_
        refine inner (S + 1) i 0 _ _ _ _ _ (by omega) rfl hF h2 (fun be' mo' x7 x8 x9 I2 hbm hF2 h22 => ?_)
        refine r_iinc C (v := 1) dX8_together_103 rfl (by decide) rfl ?_
        refine r_goto C (tgt := 29) dX8_together_106 rfl ?_
        rw [nI_s]
        exact ih (i + 1) _ _ _ _ _ _ (by omega) hF2 h22 (by rw [← hg]; show _ = (toF _ S m (i + 1) (tiF _ i (S + 1) 0 be mo).1 (tiF _ i (S + 1) 0 be mo).2).1; rw [← hbm])
  refine r_aload_n C dX8_together_0 rfl ?_
  refine r_getR C flX8_21 dX8_together_1 rfl rfl rfl ?_
  refine r_iconst C (v := 0) dX8_together_4 (by decide) ?_
  refine r_iconst C (v := 0) dX8_together_5 (by decide) ?_
  refine cV (ci := 3) C hx (sOf (d := d - 1) 0 0 (by omega) (by omega) I J b) moX3_ofStraw mlX8_83 miX3_ofStraw msX3_ofStraw dX8_together_6 rfl rfl rfl rfl rfl (by omega) rfl rfl (kp ?_)
  rw [show I 2 (8 * 0 + 0) = nI f from hf]
  refine r_istore_n C dX8_together_9 rfl rfl ?_
  refine r_aload_n C dX8_together_10 rfl ?_
  refine r_getR C flX8_21 dX8_together_11 rfl rfl rfl ?_
  refine r_iconst C (v := 1) dX8_together_14 (by decide) ?_
  refine r_iconst C (v := 0) dX8_together_15 (by decide) ?_
  refine cV (ci := 3) C hx (sOf (d := d - 1) 1 0 (by omega) (by omega) I J b) moX3_ofStraw mlX8_83 miX3_ofStraw msX3_ofStraw dX8_together_16 rfl rfl rfl rfl rfl (by omega) rfl rfl (kp ?_)
  rw [show I 2 (8 * 1 + 0) = nI S from hS]
  refine r_istore_n C dX8_together_19 rfl rfl ?_
  refine r_iconst C (v := 0) dX8_together_20 (by decide) ?_
  refine r_istore C dX8_together_21 rfl rfl ?_
  refine r_iconst C (v := -1) dX8_together_23 (by decide) ?_
  refine r_istore C dX8_together_24 rfl rfl ?_
  refine r_iconst C (v := 0) dX8_together_26 (by decide) ?_
  refine r_istore C dX8_together_27 rfl rfl ?_
  exact outer (f + 1) 0 _ _ _ _ _ I rfl Fr.rf (fun _ _ _ => rfl) rfl
