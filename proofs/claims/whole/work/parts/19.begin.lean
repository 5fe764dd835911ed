/-- the same glass as far as three straws see it -/
def EqV (v w : GV) : Prop := v.1 = w.1 ∧ v.2.1 = w.2.1 ∧ v.2.2.1 = w.2.2.1 ∧ (∀ k, k < 3 → v.2.2.2.1 k = w.2.2.2.1 k) ∧ (∀ k, k < 3 → v.2.2.2.2.1 k = w.2.2.2.2.1 k) ∧ (∀ k, k < 3 → v.2.2.2.2.2.1 k = w.2.2.2.2.2.1 k) ∧ (∀ k, k < 3 → v.2.2.2.2.2.2 k = w.2.2.2.2.2.2 k)
theorem EqV.rf {v : GV} : EqV v v := ⟨rfl, rfl, rfl, fun _ _ => rfl, fun _ _ => rfl, fun _ _ => rfl, fun _ _ => rfl⟩
theorem EqV.tr {u v w : GV} (h : EqV u v) (g : EqV v w) : EqV u w := ⟨h.1.trans g.1, h.2.1.trans g.2.1, h.2.2.1.trans g.2.2.1, fun k hk => (h.2.2.2.1 k hk).trans (g.2.2.2.1 k hk), fun k hk => (h.2.2.2.2.1 k hk).trans (g.2.2.2.2.1 k hk), fun k hk => (h.2.2.2.2.2.1 k hk).trans (g.2.2.2.2.2.1 k hk), fun k hk => (h.2.2.2.2.2.2 k hk).trans (g.2.2.2.2.2.2 k hk)⟩
theorem EqV.sy {u v : GV} (h : EqV u v) : EqV v u := ⟨h.1.symm, h.2.1.symm, h.2.2.1.symm, fun k hk => (h.2.2.2.1 k hk).symm, fun k hk => (h.2.2.2.2.1 k hk).symm, fun k hk => (h.2.2.2.2.2.1 k hk).symm, fun k hk => (h.2.2.2.2.2.2 k hk).symm⟩
theorem smF_congr {f h : Nat → Int32} : ∀ n, (∀ k, k < n → f k = h k) → smF f n = smF h n := by
  intro n
  induction n with
  | zero => intro _; rfl
  | succ n ih => intro hh; show smF f n + f n = smF h n + h n; rw [ih (fun k hk => hh k (by omega)), hh n (by omega)]
theorem sbF_congr {f h : Nat → Int32} {l : Int32} : ∀ n, (∀ k, k < n → f k = h k) → sbF l f n = sbF l h n := by
  intro n
  induction n with
  | zero => intro _; rfl
  | succ n ih => intro hh; show sbF l f n - f n = sbF l h n - h n; rw [ih (fun k hk => hh k (by omega)), hh n (by omega)]
theorem secF_eqv {e : EV} {pt fr hc : Nat → Bool} {v w : GV} (he : e.1 ≤ 3) (h : EqV v w) : EqV (secF e pt fr hc v) (secF e pt fr hc w) := by
  obtain ⟨l, i, s, tr, go, sw, no⟩ := v
  obtain ⟨l', i', s', tr', go', sw', no'⟩ := w
  obtain ⟨h1, h2, h3, h4, h5, h6, h7⟩ := h
  dsimp only at h1 h2 h3 h4 h5 h6 h7
  subst h1; subst h2; subst h3
  have pd : ∀ k, pdF e pt fr (l, i, s, tr, go, sw, no) k = pdF e pt fr (l, i, s, tr', go', sw', no') k := fun k => rfl
  have wv : ∀ k, k < e.1 → wVF e pt fr hc (l, i, s, tr, go, sw, no) k = wVF e pt fr hc (l, i, s, tr', go', sw', no') k := fun k hk => by
    unfold wVF
    rw [pd k]
    show (if _ then trF e (hc k) l (tr k) k else 0) = (if _ then trF e (hc k) l (tr' k) k else 0)
    rw [h4 k (by omega)]
  have sm := smF_congr e.1 wv
  have sb := sbF_congr (l := l) (f := fun j => shF l (smF (wVF e pt fr hc (l, i, s, tr, go, sw, no)) e.1) (wVF e pt fr hc (l, i, s, tr, go, sw, no) j)) (h := fun j => shF l (smF (wVF e pt fr hc (l, i, s, tr', go', sw', no')) e.1) (wVF e pt fr hc (l, i, s, tr', go', sw', no') j)) e.1 (fun k hk => by rw [sm, wv k hk])
  unfold secF
  dsimp only
  refine ⟨by rw [sb], by rw [sb], rfl, fun k hk => ?_, fun k hk => ?_, fun k hk => ?_, fun k hk => ?_⟩
  · dsimp only
    rw [pd k, h4 k hk]
  · dsimp only
    by_cases hh : k < e.1
    · rw [if_pos hh, if_pos hh, sm, wv k hh, h5 k hk]
    · rw [if_neg hh, if_neg hh, h5 k hk]
  · dsimp only
    by_cases hh : k < e.1
    · rw [if_pos hh, if_pos hh, sm, wv k hh, h6 k hk]
    · rw [if_neg hh, if_neg hh, h6 k hk]
  · dsimp only
    rw [pd k, h7 k hk]
/-- a glass begun from another: nothing got yet -/
def bgF (v : GV) : GV := (v.1, v.2.1, v.2.2.1, v.2.2.2.1, fun _ => 0, fun _ => 0, fun _ => 0)
theorem three_int : (3 : Int32).toInt = 3 := rfl
set_option maxRecDepth 100000 in
set_option maxHeartbeats 400000 in
theorem sX1_begin_32_16 {g : Gb} {d : Nat} (hd : 0 ≤ d) (I : Is) (J : Js) (b : Bool) : MC9 g d mX1_begin [.ref 32, .ref 16] I J b (Qv J b (fun I' => EqV (gv I' 32) (bgF (gv I 16)) ∧ (∀ k, 3 ≤ k → I' 32 k = I 32 k) ∧ Fr [32, 33, 34, 35, 36] I I')) := by
  refine ent9 (own := RX1) rfl rfl rfl (fun X hg hx C Z => ?_)
  subst hg
  have loop : ∀ (m i : Nat) (I' : Is), m + i = 3 → I' 32 0 = I 16 0 → I' 32 1 = I 16 1 → I' 32 2 = I 16 2 → (∀ k, k < i → I' 33 k = I 17 k) → (∀ k, k < i → I' 34 k = 0) → (∀ k, k < i → I' 35 k = 0) → (∀ k, k < i → I' 36 k = 0) → (∀ k, 3 ≤ k → I' 32 k = I 32 k) → Fr [32, 33, 34, 35, 36] I I' →
      Aw X 26 [some (.ref 32), some (.ref 16), some (.int (nI i))] [] (st9 I' J b) := by
    intro m
    induction m with
    | zero =>
      intro i I' hm a0 a1 a2 b1 b2 b3 b4 ar hF
      have hi : i = 3 := by omega
      subst hi
      refine r_iload_n C dX1_begin_26 rfl ?_
      refine r_iconst C (v := 3) dX1_begin_27 (by decide) ?_
      refine b_icge C (tgt := 70) (my := 3) rfl rfl dX1_begin_28 rfl (fun h28_1 => ?_) (fun h28_1 => ?_)
      · exact rv C Z dX1_begin_70 ⟨⟨a0, a1, a2, b1, b2, b3, b4⟩, ar, hF⟩
      · exfalso; have := nIint (j := 3) (by omega); omega
    | succ m ih =>
      intro i I' hm a0 a1 a2 b1 b2 b3 b4 ar hF
      have hi3 : i < 3 := by omega
      have ii : ix (nI i) = i := nIix (by omega)
      have ini : (nI i).toInt = (i : Int) := nIint (by omega)
      refine r_iload_n C dX1_begin_26 rfl ?_
      refine r_iconst C (v := 3) dX1_begin_27 (by decide) ?_
      refine b_icge C (tgt := 70) (my := 3) rfl rfl dX1_begin_28 rfl (fun h28_1 => ?_) (fun h28_1 => ?_)
      · exfalso; omega
      · refine r_aload_n C dX1_begin_31 rfl ?_
        refine r_getR C flX1_15 dX1_begin_32 rfl rfl rfl ?_
        refine r_iload_n C dX1_begin_35 rfl ?_
        refine r_aload_n C dX1_begin_36 rfl ?_
        refine r_getR C flX1_15 dX1_begin_37 rfl rfl rfl ?_
        refine r_iload_n C dX1_begin_40 rfl ?_
        refine r_iald C rfl dX1_begin_41 (nIin hi3 (by decide)) ?_
        rw [ii]
        refine r_iast C rfl dX1_begin_42 (nIin hi3 (by decide)) ?_
        rw [ii]
        refine r_aload_n C dX1_begin_43 rfl ?_
        refine r_getR C flX1_19 dX1_begin_44 rfl rfl rfl ?_
        refine r_iload_n C dX1_begin_47 rfl ?_
        refine r_iconst C (v := 0) dX1_begin_48 (by decide) ?_
        refine r_iast C rfl dX1_begin_49 (nIin hi3 (by decide)) ?_
        rw [ii]
        refine r_aload_n C dX1_begin_50 rfl ?_
        refine r_getR C flX1_22 dX1_begin_51 rfl rfl rfl ?_
        refine r_iload_n C dX1_begin_54 rfl ?_
        refine r_iconst C (v := 0) dX1_begin_55 (by decide) ?_
        refine r_iast C rfl dX1_begin_56 (nIin hi3 (by decide)) ?_
        rw [ii]
        refine r_aload_n C dX1_begin_57 rfl ?_
        refine r_getR C flX1_25 dX1_begin_58 rfl rfl rfl ?_
        refine r_iload_n C dX1_begin_61 rfl ?_
        refine r_iconst C (v := 0) dX1_begin_62 (by decide) ?_
        refine r_iast C rfl dX1_begin_63 (nIin hi3 (by decide)) ?_
        rw [ii]
        refine r_iinc C (v := 1) dX1_begin_64 rfl (by decide) rfl ?_
        refine r_goto C (tgt := 26) dX1_begin_67 rfl ?_
        rw [nI_s]
        refine ih (i + 1) _ (by omega) ?_ ?_ ?_ (fun k hk => ?_) (fun k hk => ?_) (fun k hk => ?_) (fun k hk => ?_) (fun k hk => ?_) ((((hF.st (by decide)).st (by decide)).st (by decide)).st (by decide))
        · rw [u2_row (by decide), u2_row (by decide), u2_row (by decide), u2_row (by decide)]; exact a0
        · rw [u2_row (by decide), u2_row (by decide), u2_row (by decide), u2_row (by decide)]; exact a1
        · rw [u2_row (by decide), u2_row (by decide), u2_row (by decide), u2_row (by decide)]; exact a2
        · rw [u2_row (by decide), u2_row (by decide), u2_row (by decide)]
          by_cases e : k = i
          · subst e; rw [u2_same, hF 17 (by decide)]
          · rw [u2_ne _ _ _ _ (Or.inr e)]; exact b1 k (by omega)
        · rw [u2_row (by decide), u2_row (by decide)]
          by_cases e : k = i
          · subst e; rw [u2_same]
          · rw [u2_ne _ _ _ _ (Or.inr e), u2_row (by decide)]; exact b2 k (by omega)
        · rw [u2_row (by decide)]
          by_cases e : k = i
          · subst e; rw [u2_same]
          · rw [u2_ne _ _ _ _ (Or.inr e), u2_row (by decide), u2_row (by decide)]; exact b3 k (by omega)
        · by_cases e : k = i
          · subst e; rw [u2_same]
          · rw [u2_ne _ _ _ _ (Or.inr e), u2_row (by decide), u2_row (by decide), u2_row (by decide)]; exact b4 k (by omega)
        · rw [u2_row (by decide), u2_row (by decide), u2_row (by decide), u2_row (by decide)]; exact ar k hk
  refine r_aload_n C dX1_begin_0 rfl ?_
  refine r_aload_n C dX1_begin_1 rfl ?_
  refine r_getI C flX1_9 dX1_begin_2 rfl rfl ?_
  refine r_putI C flX1_9 dX1_begin_5 rfl rfl rfl rfl rfl ?_
  refine r_aload_n C dX1_begin_8 rfl ?_
  refine r_aload_n C dX1_begin_9 rfl ?_
  refine r_getI C flX1_49 dX1_begin_10 rfl rfl ?_
  refine r_putI C flX1_49 dX1_begin_13 rfl rfl rfl rfl rfl ?_
  refine r_aload_n C dX1_begin_16 rfl ?_
  refine r_aload_n C dX1_begin_17 rfl ?_
  refine r_getI C flX1_52 dX1_begin_18 rfl rfl ?_
  refine r_putI C flX1_52 dX1_begin_21 rfl rfl rfl rfl rfl ?_
  refine r_iconst C (v := 0) dX1_begin_24 (by decide) ?_
  refine r_istore_n C dX1_begin_25 rfl rfl ?_
  exact loop 3 0 _ rfl (by rw [u2_ne _ _ _ _ (Or.inr (by decide)), u2_ne _ _ _ _ (Or.inr (by decide)), u2_same]) (by rw [u2_ne _ _ _ _ (Or.inr (by decide)), u2_same, u2_row (by decide)]) (by rw [u2_same, u2_row (by decide), u2_row (by decide)]) (fun k hk => absurd hk (Nat.not_lt_zero k)) (fun k hk => absurd hk (Nat.not_lt_zero k)) (fun k hk => absurd hk (Nat.not_lt_zero k)) (fun k hk => absurd hk (Nat.not_lt_zero k)) (fun k hk => by rw [u2_ne _ _ _ _ (Or.inr (by omega)), u2_ne _ _ _ _ (Or.inr (by omega)), u2_ne _ _ _ _ (Or.inr (by omega))]) (((Fr.rf.st (by decide)).st (by decide)).st (by decide))
set_option maxRecDepth 100000 in
set_option maxHeartbeats 400000 in
theorem sX1_begin_38_32 {g : Gb} {d : Nat} (hd : 0 ≤ d) (I : Is) (J : Js) (b : Bool) : MC9 g d mX1_begin [.ref 38, .ref 32] I J b (Qv J b (fun I' => EqV (gv I' 38) (bgF (gv I 32)) ∧ (∀ k, 3 ≤ k → I' 38 k = I 38 k) ∧ Fr [38, 39, 40, 41, 42] I I')) := by
  refine ent9 (own := RX1) rfl rfl rfl (fun X hg hx C Z => ?_)
  subst hg
  have loop : ∀ (m i : Nat) (I' : Is), m + i = 3 → I' 38 0 = I 32 0 → I' 38 1 = I 32 1 → I' 38 2 = I 32 2 → (∀ k, k < i → I' 39 k = I 33 k) → (∀ k, k < i → I' 40 k = 0) → (∀ k, k < i → I' 41 k = 0) → (∀ k, k < i → I' 42 k = 0) → (∀ k, 3 ≤ k → I' 38 k = I 38 k) → Fr [38, 39, 40, 41, 42] I I' →
      Aw X 26 [some (.ref 38), some (.ref 32), some (.int (nI i))] [] (st9 I' J b) := by
    intro m
    induction m with
    | zero =>
      intro i I' hm a0 a1 a2 b1 b2 b3 b4 ar hF
      have hi : i = 3 := by omega
      subst hi
      refine r_iload_n C dX1_begin_26 rfl ?_
      refine r_iconst C (v := 3) dX1_begin_27 (by decide) ?_
      refine b_icge C (tgt := 70) (my := 3) rfl rfl dX1_begin_28 rfl (fun h28_1 => ?_) (fun h28_1 => ?_)
      · exact rv C Z dX1_begin_70 ⟨⟨a0, a1, a2, b1, b2, b3, b4⟩, ar, hF⟩
      · exfalso; have := nIint (j := 3) (by omega); omega
    | succ m ih =>
      intro i I' hm a0 a1 a2 b1 b2 b3 b4 ar hF
      have hi3 : i < 3 := by omega
      have ii : ix (nI i) = i := nIix (by omega)
      have ini : (nI i).toInt = (i : Int) := nIint (by omega)
      refine r_iload_n C dX1_begin_26 rfl ?_
      refine r_iconst C (v := 3) dX1_begin_27 (by decide) ?_
      refine b_icge C (tgt := 70) (my := 3) rfl rfl dX1_begin_28 rfl (fun h28_1 => ?_) (fun h28_1 => ?_)
      · exfalso; omega
      · refine r_aload_n C dX1_begin_31 rfl ?_
        refine r_getR C flX1_15 dX1_begin_32 rfl rfl rfl ?_
        refine r_iload_n C dX1_begin_35 rfl ?_
        refine r_aload_n C dX1_begin_36 rfl ?_
        refine r_getR C flX1_15 dX1_begin_37 rfl rfl rfl ?_
        refine r_iload_n C dX1_begin_40 rfl ?_
        refine r_iald C rfl dX1_begin_41 (nIin hi3 (by decide)) ?_
        rw [ii]
        refine r_iast C rfl dX1_begin_42 (nIin hi3 (by decide)) ?_
        rw [ii]
        refine r_aload_n C dX1_begin_43 rfl ?_
        refine r_getR C flX1_19 dX1_begin_44 rfl rfl rfl ?_
        refine r_iload_n C dX1_begin_47 rfl ?_
        refine r_iconst C (v := 0) dX1_begin_48 (by decide) ?_
        refine r_iast C rfl dX1_begin_49 (nIin hi3 (by decide)) ?_
        rw [ii]
        refine r_aload_n C dX1_begin_50 rfl ?_
        refine r_getR C flX1_22 dX1_begin_51 rfl rfl rfl ?_
        refine r_iload_n C dX1_begin_54 rfl ?_
        refine r_iconst C (v := 0) dX1_begin_55 (by decide) ?_
        refine r_iast C rfl dX1_begin_56 (nIin hi3 (by decide)) ?_
        rw [ii]
        refine r_aload_n C dX1_begin_57 rfl ?_
        refine r_getR C flX1_25 dX1_begin_58 rfl rfl rfl ?_
        refine r_iload_n C dX1_begin_61 rfl ?_
        refine r_iconst C (v := 0) dX1_begin_62 (by decide) ?_
        refine r_iast C rfl dX1_begin_63 (nIin hi3 (by decide)) ?_
        rw [ii]
        refine r_iinc C (v := 1) dX1_begin_64 rfl (by decide) rfl ?_
        refine r_goto C (tgt := 26) dX1_begin_67 rfl ?_
        rw [nI_s]
        refine ih (i + 1) _ (by omega) ?_ ?_ ?_ (fun k hk => ?_) (fun k hk => ?_) (fun k hk => ?_) (fun k hk => ?_) (fun k hk => ?_) ((((hF.st (by decide)).st (by decide)).st (by decide)).st (by decide))
        · rw [u2_row (by decide), u2_row (by decide), u2_row (by decide), u2_row (by decide)]; exact a0
        · rw [u2_row (by decide), u2_row (by decide), u2_row (by decide), u2_row (by decide)]; exact a1
        · rw [u2_row (by decide), u2_row (by decide), u2_row (by decide), u2_row (by decide)]; exact a2
        · rw [u2_row (by decide), u2_row (by decide), u2_row (by decide)]
          by_cases e : k = i
          · subst e; rw [u2_same, hF 33 (by decide)]
          · rw [u2_ne _ _ _ _ (Or.inr e)]; exact b1 k (by omega)
        · rw [u2_row (by decide), u2_row (by decide)]
          by_cases e : k = i
          · subst e; rw [u2_same]
          · rw [u2_ne _ _ _ _ (Or.inr e), u2_row (by decide)]; exact b2 k (by omega)
        · rw [u2_row (by decide)]
          by_cases e : k = i
          · subst e; rw [u2_same]
          · rw [u2_ne _ _ _ _ (Or.inr e), u2_row (by decide), u2_row (by decide)]; exact b3 k (by omega)
        · by_cases e : k = i
          · subst e; rw [u2_same]
          · rw [u2_ne _ _ _ _ (Or.inr e), u2_row (by decide), u2_row (by decide), u2_row (by decide)]; exact b4 k (by omega)
        · rw [u2_row (by decide), u2_row (by decide), u2_row (by decide), u2_row (by decide)]; exact ar k hk
  refine r_aload_n C dX1_begin_0 rfl ?_
  refine r_aload_n C dX1_begin_1 rfl ?_
  refine r_getI C flX1_9 dX1_begin_2 rfl rfl ?_
  refine r_putI C flX1_9 dX1_begin_5 rfl rfl rfl rfl rfl ?_
  refine r_aload_n C dX1_begin_8 rfl ?_
  refine r_aload_n C dX1_begin_9 rfl ?_
  refine r_getI C flX1_49 dX1_begin_10 rfl rfl ?_
  refine r_putI C flX1_49 dX1_begin_13 rfl rfl rfl rfl rfl ?_
  refine r_aload_n C dX1_begin_16 rfl ?_
  refine r_aload_n C dX1_begin_17 rfl ?_
  refine r_getI C flX1_52 dX1_begin_18 rfl rfl ?_
  refine r_putI C flX1_52 dX1_begin_21 rfl rfl rfl rfl rfl ?_
  refine r_iconst C (v := 0) dX1_begin_24 (by decide) ?_
  refine r_istore_n C dX1_begin_25 rfl rfl ?_
  exact loop 3 0 _ rfl (by rw [u2_ne _ _ _ _ (Or.inr (by decide)), u2_ne _ _ _ _ (Or.inr (by decide)), u2_same]) (by rw [u2_ne _ _ _ _ (Or.inr (by decide)), u2_same, u2_row (by decide)]) (by rw [u2_same, u2_row (by decide), u2_row (by decide)]) (fun k hk => absurd hk (Nat.not_lt_zero k)) (fun k hk => absurd hk (Nat.not_lt_zero k)) (fun k hk => absurd hk (Nat.not_lt_zero k)) (fun k hk => absurd hk (Nat.not_lt_zero k)) (fun k hk => by rw [u2_ne _ _ _ _ (Or.inr (by omega)), u2_ne _ _ _ _ (Or.inr (by omega)), u2_ne _ _ _ _ (Or.inr (by omega))]) (((Fr.rf.st (by decide)).st (by decide)).st (by decide))
set_option maxRecDepth 100000 in
set_option maxHeartbeats 400000 in
theorem sX1_begin_22_16 {g : Gb} {d : Nat} (hd : 0 ≤ d) (I : Is) (J : Js) (b : Bool) : MC9 g d mX1_begin [.ref 22, .ref 16] I J b (Qv J b (fun I' => EqV (gv I' 22) (bgF (gv I 16)) ∧ (∀ k, 3 ≤ k → I' 22 k = I 22 k) ∧ Fr [22, 23, 24, 25, 26] I I')) := by
  refine ent9 (own := RX1) rfl rfl rfl (fun X hg hx C Z => ?_)
  subst hg
  have loop : ∀ (m i : Nat) (I' : Is), m + i = 3 → I' 22 0 = I 16 0 → I' 22 1 = I 16 1 → I' 22 2 = I 16 2 → (∀ k, k < i → I' 23 k = I 17 k) → (∀ k, k < i → I' 24 k = 0) → (∀ k, k < i → I' 25 k = 0) → (∀ k, k < i → I' 26 k = 0) → (∀ k, 3 ≤ k → I' 22 k = I 22 k) → Fr [22, 23, 24, 25, 26] I I' →
      Aw X 26 [some (.ref 22), some (.ref 16), some (.int (nI i))] [] (st9 I' J b) := by
    intro m
    induction m with
    | zero =>
      intro i I' hm a0 a1 a2 b1 b2 b3 b4 ar hF
      have hi : i = 3 := by omega
      subst hi
      refine r_iload_n C dX1_begin_26 rfl ?_
      refine r_iconst C (v := 3) dX1_begin_27 (by decide) ?_
      refine b_icge C (tgt := 70) (my := 3) rfl rfl dX1_begin_28 rfl (fun h28_1 => ?_) (fun h28_1 => ?_)
      · exact rv C Z dX1_begin_70 ⟨⟨a0, a1, a2, b1, b2, b3, b4⟩, ar, hF⟩
      · exfalso; have := nIint (j := 3) (by omega); omega
    | succ m ih =>
      intro i I' hm a0 a1 a2 b1 b2 b3 b4 ar hF
      have hi3 : i < 3 := by omega
      have ii : ix (nI i) = i := nIix (by omega)
      have ini : (nI i).toInt = (i : Int) := nIint (by omega)
      refine r_iload_n C dX1_begin_26 rfl ?_
      refine r_iconst C (v := 3) dX1_begin_27 (by decide) ?_
      refine b_icge C (tgt := 70) (my := 3) rfl rfl dX1_begin_28 rfl (fun h28_1 => ?_) (fun h28_1 => ?_)
      · exfalso; omega
      · refine r_aload_n C dX1_begin_31 rfl ?_
        refine r_getR C flX1_15 dX1_begin_32 rfl rfl rfl ?_
        refine r_iload_n C dX1_begin_35 rfl ?_
        refine r_aload_n C dX1_begin_36 rfl ?_
        refine r_getR C flX1_15 dX1_begin_37 rfl rfl rfl ?_
        refine r_iload_n C dX1_begin_40 rfl ?_
        refine r_iald C rfl dX1_begin_41 (nIin hi3 (by decide)) ?_
        rw [ii]
        refine r_iast C rfl dX1_begin_42 (nIin hi3 (by decide)) ?_
        rw [ii]
        refine r_aload_n C dX1_begin_43 rfl ?_
        refine r_getR C flX1_19 dX1_begin_44 rfl rfl rfl ?_
        refine r_iload_n C dX1_begin_47 rfl ?_
        refine r_iconst C (v := 0) dX1_begin_48 (by decide) ?_
        refine r_iast C rfl dX1_begin_49 (nIin hi3 (by decide)) ?_
        rw [ii]
        refine r_aload_n C dX1_begin_50 rfl ?_
        refine r_getR C flX1_22 dX1_begin_51 rfl rfl rfl ?_
        refine r_iload_n C dX1_begin_54 rfl ?_
        refine r_iconst C (v := 0) dX1_begin_55 (by decide) ?_
        refine r_iast C rfl dX1_begin_56 (nIin hi3 (by decide)) ?_
        rw [ii]
        refine r_aload_n C dX1_begin_57 rfl ?_
        refine r_getR C flX1_25 dX1_begin_58 rfl rfl rfl ?_
        refine r_iload_n C dX1_begin_61 rfl ?_
        refine r_iconst C (v := 0) dX1_begin_62 (by decide) ?_
        refine r_iast C rfl dX1_begin_63 (nIin hi3 (by decide)) ?_
        rw [ii]
        refine r_iinc C (v := 1) dX1_begin_64 rfl (by decide) rfl ?_
        refine r_goto C (tgt := 26) dX1_begin_67 rfl ?_
        rw [nI_s]
        refine ih (i + 1) _ (by omega) ?_ ?_ ?_ (fun k hk => ?_) (fun k hk => ?_) (fun k hk => ?_) (fun k hk => ?_) (fun k hk => ?_) ((((hF.st (by decide)).st (by decide)).st (by decide)).st (by decide))
        · rw [u2_row (by decide), u2_row (by decide), u2_row (by decide), u2_row (by decide)]; exact a0
        · rw [u2_row (by decide), u2_row (by decide), u2_row (by decide), u2_row (by decide)]; exact a1
        · rw [u2_row (by decide), u2_row (by decide), u2_row (by decide), u2_row (by decide)]; exact a2
        · rw [u2_row (by decide), u2_row (by decide), u2_row (by decide)]
          by_cases e : k = i
          · subst e; rw [u2_same, hF 17 (by decide)]
          · rw [u2_ne _ _ _ _ (Or.inr e)]; exact b1 k (by omega)
        · rw [u2_row (by decide), u2_row (by decide)]
          by_cases e : k = i
          · subst e; rw [u2_same]
          · rw [u2_ne _ _ _ _ (Or.inr e), u2_row (by decide)]; exact b2 k (by omega)
        · rw [u2_row (by decide)]
          by_cases e : k = i
          · subst e; rw [u2_same]
          · rw [u2_ne _ _ _ _ (Or.inr e), u2_row (by decide), u2_row (by decide)]; exact b3 k (by omega)
        · by_cases e : k = i
          · subst e; rw [u2_same]
          · rw [u2_ne _ _ _ _ (Or.inr e), u2_row (by decide), u2_row (by decide), u2_row (by decide)]; exact b4 k (by omega)
        · rw [u2_row (by decide), u2_row (by decide), u2_row (by decide), u2_row (by decide)]; exact ar k hk
  refine r_aload_n C dX1_begin_0 rfl ?_
  refine r_aload_n C dX1_begin_1 rfl ?_
  refine r_getI C flX1_9 dX1_begin_2 rfl rfl ?_
  refine r_putI C flX1_9 dX1_begin_5 rfl rfl rfl rfl rfl ?_
  refine r_aload_n C dX1_begin_8 rfl ?_
  refine r_aload_n C dX1_begin_9 rfl ?_
  refine r_getI C flX1_49 dX1_begin_10 rfl rfl ?_
  refine r_putI C flX1_49 dX1_begin_13 rfl rfl rfl rfl rfl ?_
  refine r_aload_n C dX1_begin_16 rfl ?_
  refine r_aload_n C dX1_begin_17 rfl ?_
  refine r_getI C flX1_52 dX1_begin_18 rfl rfl ?_
  refine r_putI C flX1_52 dX1_begin_21 rfl rfl rfl rfl rfl ?_
  refine r_iconst C (v := 0) dX1_begin_24 (by decide) ?_
  refine r_istore_n C dX1_begin_25 rfl rfl ?_
  exact loop 3 0 _ rfl (by rw [u2_ne _ _ _ _ (Or.inr (by decide)), u2_ne _ _ _ _ (Or.inr (by decide)), u2_same]) (by rw [u2_ne _ _ _ _ (Or.inr (by decide)), u2_same, u2_row (by decide)]) (by rw [u2_same, u2_row (by decide), u2_row (by decide)]) (fun k hk => absurd hk (Nat.not_lt_zero k)) (fun k hk => absurd hk (Nat.not_lt_zero k)) (fun k hk => absurd hk (Nat.not_lt_zero k)) (fun k hk => absurd hk (Nat.not_lt_zero k)) (fun k hk => by rw [u2_ne _ _ _ _ (Or.inr (by omega)), u2_ne _ _ _ _ (Or.inr (by omega)), u2_ne _ _ _ _ (Or.inr (by omega))]) (((Fr.rf.st (by decide)).st (by decide)).st (by decide))
set_option maxRecDepth 100000 in
set_option maxHeartbeats 400000 in
theorem sX1_begin_16_22 {g : Gb} {d : Nat} (hd : 0 ≤ d) (I : Is) (J : Js) (b : Bool) : MC9 g d mX1_begin [.ref 16, .ref 22] I J b (Qv J b (fun I' => EqV (gv I' 16) (bgF (gv I 22)) ∧ (∀ k, 3 ≤ k → I' 16 k = I 16 k) ∧ Fr [16, 17, 18, 19, 20] I I')) := by
  refine ent9 (own := RX1) rfl rfl rfl (fun X hg hx C Z => ?_)
  subst hg
  have loop : ∀ (m i : Nat) (I' : Is), m + i = 3 → I' 16 0 = I 22 0 → I' 16 1 = I 22 1 → I' 16 2 = I 22 2 → (∀ k, k < i → I' 17 k = I 23 k) → (∀ k, k < i → I' 18 k = 0) → (∀ k, k < i → I' 19 k = 0) → (∀ k, k < i → I' 20 k = 0) → (∀ k, 3 ≤ k → I' 16 k = I 16 k) → Fr [16, 17, 18, 19, 20] I I' →
      Aw X 26 [some (.ref 16), some (.ref 22), some (.int (nI i))] [] (st9 I' J b) := by
    intro m
    induction m with
    | zero =>
      intro i I' hm a0 a1 a2 b1 b2 b3 b4 ar hF
      have hi : i = 3 := by omega
      subst hi
      refine r_iload_n C dX1_begin_26 rfl ?_
      refine r_iconst C (v := 3) dX1_begin_27 (by decide) ?_
      refine b_icge C (tgt := 70) (my := 3) rfl rfl dX1_begin_28 rfl (fun h28_1 => ?_) (fun h28_1 => ?_)
      · exact rv C Z dX1_begin_70 ⟨⟨a0, a1, a2, b1, b2, b3, b4⟩, ar, hF⟩
      · exfalso; have := nIint (j := 3) (by omega); omega
    | succ m ih =>
      intro i I' hm a0 a1 a2 b1 b2 b3 b4 ar hF
      have hi3 : i < 3 := by omega
      have ii : ix (nI i) = i := nIix (by omega)
      have ini : (nI i).toInt = (i : Int) := nIint (by omega)
      refine r_iload_n C dX1_begin_26 rfl ?_
      refine r_iconst C (v := 3) dX1_begin_27 (by decide) ?_
      refine b_icge C (tgt := 70) (my := 3) rfl rfl dX1_begin_28 rfl (fun h28_1 => ?_) (fun h28_1 => ?_)
      · exfalso; omega
      · refine r_aload_n C dX1_begin_31 rfl ?_
        refine r_getR C flX1_15 dX1_begin_32 rfl rfl rfl ?_
        refine r_iload_n C dX1_begin_35 rfl ?_
        refine r_aload_n C dX1_begin_36 rfl ?_
        refine r_getR C flX1_15 dX1_begin_37 rfl rfl rfl ?_
        refine r_iload_n C dX1_begin_40 rfl ?_
        refine r_iald C rfl dX1_begin_41 (nIin hi3 (by decide)) ?_
        rw [ii]
        refine r_iast C rfl dX1_begin_42 (nIin hi3 (by decide)) ?_
        rw [ii]
        refine r_aload_n C dX1_begin_43 rfl ?_
        refine r_getR C flX1_19 dX1_begin_44 rfl rfl rfl ?_
        refine r_iload_n C dX1_begin_47 rfl ?_
        refine r_iconst C (v := 0) dX1_begin_48 (by decide) ?_
        refine r_iast C rfl dX1_begin_49 (nIin hi3 (by decide)) ?_
        rw [ii]
        refine r_aload_n C dX1_begin_50 rfl ?_
        refine r_getR C flX1_22 dX1_begin_51 rfl rfl rfl ?_
        refine r_iload_n C dX1_begin_54 rfl ?_
        refine r_iconst C (v := 0) dX1_begin_55 (by decide) ?_
        refine r_iast C rfl dX1_begin_56 (nIin hi3 (by decide)) ?_
        rw [ii]
        refine r_aload_n C dX1_begin_57 rfl ?_
        refine r_getR C flX1_25 dX1_begin_58 rfl rfl rfl ?_
        refine r_iload_n C dX1_begin_61 rfl ?_
        refine r_iconst C (v := 0) dX1_begin_62 (by decide) ?_
        refine r_iast C rfl dX1_begin_63 (nIin hi3 (by decide)) ?_
        rw [ii]
        refine r_iinc C (v := 1) dX1_begin_64 rfl (by decide) rfl ?_
        refine r_goto C (tgt := 26) dX1_begin_67 rfl ?_
        rw [nI_s]
        refine ih (i + 1) _ (by omega) ?_ ?_ ?_ (fun k hk => ?_) (fun k hk => ?_) (fun k hk => ?_) (fun k hk => ?_) (fun k hk => ?_) ((((hF.st (by decide)).st (by decide)).st (by decide)).st (by decide))
        · rw [u2_row (by decide), u2_row (by decide), u2_row (by decide), u2_row (by decide)]; exact a0
        · rw [u2_row (by decide), u2_row (by decide), u2_row (by decide), u2_row (by decide)]; exact a1
        · rw [u2_row (by decide), u2_row (by decide), u2_row (by decide), u2_row (by decide)]; exact a2
        · rw [u2_row (by decide), u2_row (by decide), u2_row (by decide)]
          by_cases e : k = i
          · subst e; rw [u2_same, hF 23 (by decide)]
          · rw [u2_ne _ _ _ _ (Or.inr e)]; exact b1 k (by omega)
        · rw [u2_row (by decide), u2_row (by decide)]
          by_cases e : k = i
          · subst e; rw [u2_same]
          · rw [u2_ne _ _ _ _ (Or.inr e), u2_row (by decide)]; exact b2 k (by omega)
        · rw [u2_row (by decide)]
          by_cases e : k = i
          · subst e; rw [u2_same]
          · rw [u2_ne _ _ _ _ (Or.inr e), u2_row (by decide), u2_row (by decide)]; exact b3 k (by omega)
        · by_cases e : k = i
          · subst e; rw [u2_same]
          · rw [u2_ne _ _ _ _ (Or.inr e), u2_row (by decide), u2_row (by decide), u2_row (by decide)]; exact b4 k (by omega)
        · rw [u2_row (by decide), u2_row (by decide), u2_row (by decide), u2_row (by decide)]; exact ar k hk
  refine r_aload_n C dX1_begin_0 rfl ?_
  refine r_aload_n C dX1_begin_1 rfl ?_
  refine r_getI C flX1_9 dX1_begin_2 rfl rfl ?_
  refine r_putI C flX1_9 dX1_begin_5 rfl rfl rfl rfl rfl ?_
  refine r_aload_n C dX1_begin_8 rfl ?_
  refine r_aload_n C dX1_begin_9 rfl ?_
  refine r_getI C flX1_49 dX1_begin_10 rfl rfl ?_
  refine r_putI C flX1_49 dX1_begin_13 rfl rfl rfl rfl rfl ?_
  refine r_aload_n C dX1_begin_16 rfl ?_
  refine r_aload_n C dX1_begin_17 rfl ?_
  refine r_getI C flX1_52 dX1_begin_18 rfl rfl ?_
  refine r_putI C flX1_52 dX1_begin_21 rfl rfl rfl rfl rfl ?_
  refine r_iconst C (v := 0) dX1_begin_24 (by decide) ?_
  refine r_istore_n C dX1_begin_25 rfl rfl ?_
  exact loop 3 0 _ rfl (by rw [u2_ne _ _ _ _ (Or.inr (by decide)), u2_ne _ _ _ _ (Or.inr (by decide)), u2_same]) (by rw [u2_ne _ _ _ _ (Or.inr (by decide)), u2_same, u2_row (by decide)]) (by rw [u2_same, u2_row (by decide), u2_row (by decide)]) (fun k hk => absurd hk (Nat.not_lt_zero k)) (fun k hk => absurd hk (Nat.not_lt_zero k)) (fun k hk => absurd hk (Nat.not_lt_zero k)) (fun k hk => absurd hk (Nat.not_lt_zero k)) (fun k hk => by rw [u2_ne _ _ _ _ (Or.inr (by omega)), u2_ne _ _ _ _ (Or.inr (by omega)), u2_ne _ _ _ _ (Or.inr (by omega))]) (((Fr.rf.st (by decide)).st (by decide)).st (by decide))
