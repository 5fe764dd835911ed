theorem lts {P : Nat → Prop} {k : Nat} (h : ∀ o, o < k → P o) (hk : P k) : ∀ o, o < k + 1 → P o := fun o ho => (Nat.lt_or_ge o k).elim (h o) (fun hge => by
  have e : o = k := by omega
  rw [e]
  exact hk)
set_option maxRecDepth 100000 in
theorem sX8_setStrengths {g : Gb} {d : Nat} (hd : 0 ≤ d) (x y : Int32) (I : Is) (J : Js) (b : Bool) : MC9 g d mX8_setStrengths [.ref 28, .int x, .int y] I J b (Qv J b (fun I' => I' = u2 (u2 I 2 0 x) 2 8 y)) := by
  refine ent9 (own := RX8) rfl rfl rfl (fun X hg hx C Z => ?_)
  subst hg
  refine r_aload_n C dX8_setStrengths_0 rfl ?_
  refine r_getR C flX8_21 dX8_setStrengths_1 rfl rfl rfl ?_
  refine r_getR C flX8_95 dX8_setStrengths_4 rfl rfl rfl ?_
  refine r_iconst C (v := 0) dX8_setStrengths_7 (by decide) ?_
  refine r_iload_n C dX8_setStrengths_8 rfl ?_
  refine r_iast C rfl dX8_setStrengths_9 (vin (by decide) (by decide)) ?_
  refine r_aload_n C dX8_setStrengths_10 rfl ?_
  refine r_getR C flX8_21 dX8_setStrengths_11 rfl rfl rfl ?_
  refine r_getR C flX8_95 dX8_setStrengths_14 rfl rfl rfl ?_
  refine r_bipush C (v := 8) dX8_setStrengths_17 (by decide) ?_
  refine r_iload_n C dX8_setStrengths_19 rfl ?_
  refine r_iast C rfl dX8_setStrengths_20 (vin (by decide) (by decide)) ?_
  exact rv C Z dX8_setStrengths_21 rfl
/-- no straw with that reach gets more -/
def maF (T : Nat → Int32) (lv ice r z : Int32) : Int32 := if z = 0 then imax 0 (lv + ice - r) else imax 0 (lv + ice - r) * (1 + T 26)
set_option maxRecDepth 100000 in
theorem sX8_mostAbove {g : Gb} {d : Nat} (hd : 2 ≤ d) (r z : Int32) (I : Is) (J : Js) (b : Bool) : MC9 g d mX8_mostAbove [.ref 28, .int r, .int z] I J b (Qp (maF (I 2) (I 16 0) (I 16 1) r z) I J b) := by
  refine ent9 (own := RX8) rfl rfl rfl (fun X hg hx C Z => ?_)
  subst hg
  refine r_iconst C (v := 0) dX8_mostAbove_0 (by decide) ?_
  refine r_aload_n C dX8_mostAbove_1 rfl ?_
  refine r_getR C flX8_25 dX8_mostAbove_2 rfl rfl rfl ?_
  refine r_getI C flX8_58 dX8_mostAbove_5 rfl rfl ?_
  refine r_aload_n C dX8_mostAbove_8 rfl ?_
  refine r_getR C flX8_25 dX8_mostAbove_9 rfl rfl rfl ?_
  refine r_getI C flX8_54 dX8_mostAbove_12 rfl rfl ?_
  refine r_iadd C dX8_mostAbove_15 ?_
  refine r_iload_n C dX8_mostAbove_16 rfl ?_
  refine r_isub C dX8_mostAbove_17 ?_
  refine cmax C hx mlX8_86 dX8_mostAbove_18 (by omega) rfl rfl ?_
  refine r_istore_n C dX8_mostAbove_21 rfl rfl ?_
  refine r_iload_n C dX8_mostAbove_22 rfl ?_
  refine r_ifeq C (tgt := 42) dX8_mostAbove_23 rfl (fun h23_1 => ?_) (fun h23_1 => ?_)
  · refine r_iload_n C dX8_mostAbove_42 rfl ?_
    exact rp C Z dX8_mostAbove_43 (if_pos (by assumption)).symm
  · refine r_iload_n C dX8_mostAbove_26 rfl ?_
    refine r_iconst C (v := 1) dX8_mostAbove_27 (by decide) ?_
    refine r_aload_n C dX8_mostAbove_28 rfl ?_
    refine r_getR C flX8_21 dX8_mostAbove_29 rfl rfl rfl ?_
    refine r_bipush C (v := 10) dX8_mostAbove_32 (by decide) ?_
    refine cV (ci := 3) C hx (sOg (d := d - 1) (by omega) 10 (by decide) (by decide) I J b) moX3_ofGlass mlX8_109 miX3_ofGlass msX3_ofGlass dX8_mostAbove_34 rfl rfl rfl rfl rfl (by omega) rfl rfl (kp ?_)
    refine r_iadd C dX8_mostAbove_37 ?_
    refine r_imul C dX8_mostAbove_38 ?_
    refine r_goto C (tgt := 43) dX8_mostAbove_39 rfl ?_
    exact rp C Z dX8_mostAbove_43 (if_neg (by assumption)).symm
theorem i21 (o j : Nat) (ho : o < 21) (hj : j < 21) : ix (nI o * 21 + nI j) = 21 * o + j ∧ vp_in (nI o * 21 + nI j) 441 := by
  have key : ∀ o, o < 21 → ∀ j, j < 21 → ix (nI o * 21 + nI j) = 21 * o + j ∧ 0 ≤ (nI o * 21 + nI j).toInt ∧ (nI o * 21 + nI j).toInt < 441 := by decide +kernel
  obtain ⟨a, b, c⟩ := key o ho j hj
  exact ⟨a, vin b c⟩
/-- neither gets more by another strength of its own -/
def ctF (f h : Nat → Int32) (i j x y : Nat) : Prop := (∀ o, o ≤ x → (f (21 * o + j)).toInt ≤ (f (21 * i + j)).toInt) ∧ ∀ o, o ≤ y → (h (21 * i + o)).toInt ≤ (h (21 * i + j)).toInt
set_option maxRecDepth 100000 in
set_option maxHeartbeats 400000 in
theorem sX8_isContent {g : Gb} {d : Nat} (hd : 0 ≤ d) (i j x y : Nat) (hi : i ≤ x) (hj : j ≤ y) (hx9 : x ≤ 20) (hy9 : y ≤ 20) (I : Is) (J : Js) (b : Bool) : MC9 g d mX8_isContent [.ref 28, .int (nI i), .int (nI j), .int (nI x), .int (nI y)] I J b (Qi J b (fun v I' => I' = I ∧ ((v = 1 ∧ ctF (I 30) (I 31) i j x y) ∨ (v = 0 ∧ ¬ ctF (I 30) (I 31) i j x y)))) := by
  refine ent9 (own := RX8) rfl rfl rfl (fun X hg hx C Z => ?_)
  subst hg
  have hij := (i21 i j (by omega) (by omega)).1
  have hijv := (i21 i j (by omega) (by omega)).2
  have loop2 : ∀ (m k : Nat), m + k = y + 1 → (∀ o, o ≤ x → (I 30 (21 * o + j)).toInt ≤ (I 30 (21 * i + j)).toInt) → (∀ o, o < k → (I 31 (21 * i + o)).toInt ≤ (I 31 (21 * i + j)).toInt) →
      Aw X 46 [some (.ref 28), some (.int (nI i)), some (.int (nI j)), some (.int (nI x)), some (.int (nI y)), some (.int (nI k))] [] (st9 I J b) := by
    intro m
    induction m with
    | zero =>
      intro k hm h1 h2
      have ink : (nI k).toInt = (k : Int) := nIint (by omega)
      have iny : (nI y).toInt = (y : Int) := nIint (by omega)
      refine r_iload C dX8_isContent_46 rfl ?_
      refine r_iload C dX8_isContent_48 rfl ?_
      refine b_icgt C (tgt := 87) rfl rfl dX8_isContent_50 rfl (fun h50_1 => ?_) (fun h50_1 => ?_)
      · refine r_iconst C (v := 1) dX8_isContent_87 (by decide) ?_
        exact riz C Z dX8_isContent_88 rfl ⟨rfl, Or.inl ⟨rfl, h1, fun o ho => h2 o (by omega)⟩⟩
      · exfalso; omega
    | succ m ih =>
      intro k hm h1 h2
      have ink : (nI k).toInt = (k : Int) := nIint (by omega)
      have iny : (nI y).toInt = (y : Int) := nIint (by omega)
      have hik := (i21 i k (by omega) (by omega)).1
      have hikv := (i21 i k (by omega) (by omega)).2
      refine r_iload C dX8_isContent_46 rfl ?_
      refine r_iload C dX8_isContent_48 rfl ?_
      refine b_icgt C (tgt := 87) rfl rfl dX8_isContent_50 rfl (fun h50_1 => ?_) (fun h50_1 => ?_)
      · exfalso; omega
      · refine r_aload_n C dX8_isContent_53 rfl ?_
        refine r_getR C flX8_18 dX8_isContent_54 rfl rfl rfl ?_
        refine r_iload_n C dX8_isContent_57 rfl ?_
        refine r_bipush C (v := 21) dX8_isContent_58 (by decide) ?_
        refine r_imul C dX8_isContent_60 ?_
        refine r_iload C dX8_isContent_61 rfl ?_
        refine r_iadd C dX8_isContent_63 ?_
        refine r_iald C rfl dX8_isContent_64 hikv ?_
        rw [hik]
        refine r_aload_n C dX8_isContent_65 rfl ?_
        refine r_getR C flX8_18 dX8_isContent_66 rfl rfl rfl ?_
        refine r_iload_n C dX8_isContent_69 rfl ?_
        refine r_bipush C (v := 21) dX8_isContent_70 (by decide) ?_
        refine r_imul C dX8_isContent_72 ?_
        refine r_iload_n C dX8_isContent_73 rfl ?_
        refine r_iadd C dX8_isContent_74 ?_
        refine r_iald C rfl dX8_isContent_75 hijv ?_
        rw [hij]
        refine b_icle C (tgt := 81) rfl rfl dX8_isContent_76 rfl (fun h76_2 => ?_) (fun h76_2 => ?_)
        · refine r_iinc C (v := 1) dX8_isContent_81 rfl (by decide) rfl ?_
          refine r_goto C (tgt := 46) dX8_isContent_84 rfl ?_
          rw [nI_s]
          exact ih (k + 1) (by omega) h1 (lts h2 (by assumption))
        · refine r_iconst C (v := 0) dX8_isContent_79 (by decide) ?_
          exact riz C Z dX8_isContent_80 rfl ⟨rfl, Or.inr ⟨rfl, fun z => by have := z.2 k (by omega); omega⟩⟩
  have loop1 : ∀ (m k : Nat), m + k = x + 1 → (∀ o, o < k → (I 30 (21 * o + j)).toInt ≤ (I 30 (21 * i + j)).toInt) →
      Aw X 3 [some (.ref 28), some (.int (nI i)), some (.int (nI j)), some (.int (nI x)), some (.int (nI y)), some (.int (nI k))] [] (st9 I J b) := by
    intro m
    induction m with
    | zero =>
      intro k hm h1
      have ink : (nI k).toInt = (k : Int) := nIint (by omega)
      have inx : (nI x).toInt = (x : Int) := nIint (by omega)
      refine r_iload C dX8_isContent_3 rfl ?_
      refine r_iload_n C dX8_isContent_5 rfl ?_
      refine b_icgt C (tgt := 43) rfl rfl dX8_isContent_6 rfl (fun h6_1 => ?_) (fun h6_1 => ?_)
      · refine r_iconst C (v := 0) dX8_isContent_43 (by decide) ?_
        refine r_istore C dX8_isContent_44 rfl rfl ?_
        exact loop2 (y + 1) 0 rfl (fun o ho => h1 o (by omega)) (fun o ho => absurd ho (Nat.not_lt_zero o))
      · exfalso; omega
    | succ m ih =>
      intro k hm h1
      have ink : (nI k).toInt = (k : Int) := nIint (by omega)
      have inx : (nI x).toInt = (x : Int) := nIint (by omega)
      have hik := (i21 k j (by omega) (by omega)).1
      have hikv := (i21 k j (by omega) (by omega)).2
      refine r_iload C dX8_isContent_3 rfl ?_
      refine r_iload_n C dX8_isContent_5 rfl ?_
      refine b_icgt C (tgt := 43) rfl rfl dX8_isContent_6 rfl (fun h6_1 => ?_) (fun h6_1 => ?_)
      · exfalso; omega
      · refine r_aload_n C dX8_isContent_9 rfl ?_
        refine r_getR C flX8_15 dX8_isContent_10 rfl rfl rfl ?_
        refine r_iload C dX8_isContent_13 rfl ?_
        refine r_bipush C (v := 21) dX8_isContent_15 (by decide) ?_
        refine r_imul C dX8_isContent_17 ?_
        refine r_iload_n C dX8_isContent_18 rfl ?_
        refine r_iadd C dX8_isContent_19 ?_
        refine r_iald C rfl dX8_isContent_20 hikv ?_
        rw [hik]
        refine r_aload_n C dX8_isContent_21 rfl ?_
        refine r_getR C flX8_15 dX8_isContent_22 rfl rfl rfl ?_
        refine r_iload_n C dX8_isContent_25 rfl ?_
        refine r_bipush C (v := 21) dX8_isContent_26 (by decide) ?_
        refine r_imul C dX8_isContent_28 ?_
        refine r_iload_n C dX8_isContent_29 rfl ?_
        refine r_iadd C dX8_isContent_30 ?_
        refine r_iald C rfl dX8_isContent_31 hijv ?_
        rw [hij]
        refine b_icle C (tgt := 37) rfl rfl dX8_isContent_32 rfl (fun h32_2 => ?_) (fun h32_2 => ?_)
        · refine r_iinc C (v := 1) dX8_isContent_37 rfl (by decide) rfl ?_
          refine r_goto C (tgt := 3) dX8_isContent_40 rfl ?_
          rw [nI_s]
          exact ih (k + 1) (by omega) (lts h1 (by assumption))
        · refine r_iconst C (v := 0) dX8_isContent_35 (by decide) ?_
          exact riz C Z dX8_isContent_36 rfl ⟨rfl, Or.inr ⟨rfl, fun z => by have := z.1 k (by omega); omega⟩⟩
  refine r_iconst C (v := 0) dX8_isContent_0 (by decide) ?_
  refine r_istore C dX8_isContent_1 rfl rfl ?_
  exact loop1 (x + 1) 0 rfl (fun o ho => absurd ho (Nat.not_lt_zero o))
/-- a shelf's cell -/
def isSh (t : Nat) : Prop := t = 52 ∨ t = 54 ∨ t = 56 ∨ t = 58 ∨ t = 60 ∨ t = 62
theorem sh_all {t : Nat} (h : isSh t) (b : Bool) : chk 91 t 4 = true ∧ RR b t 3 = some (t + 1) ∧ chk 91 (t + 1) 21 = true ∧ ln (t + 1) = 60 := by
  cases b <;> rcases h with rfl | rfl | rfl | rfl | rfl | rfl <;> exact ⟨rfl, rfl, rfl, rfl⟩
theorem lgc0 {x y : Int64} : lg_cmp x y = 0 ↔ x = y := by
  unfold lg_cmp
  by_cases h : y < x
  · rw [if_pos h]
    exact ⟨fun z => absurd z (by decide), fun z => by subst z; exact (Int64.lt_irrefl h).elim⟩
  · rw [if_neg h]
    by_cases e : x = y
    · simp [e]
    · simp [e]
/-- the first ring that is not so -/
def fuF (row : Nat → Int64) (lv : Nat → Int32) : Nat → Nat → Int32
  | 0, _ => -2
  | m + 1, i => if row i = (lv i).toInt64 then fuF row lv m (i + 1) else nI i
set_option maxRecDepth 100000 in
set_option maxHeartbeats 400000 in
theorem sX8_firstUnlike {g : Gb} {d : Nat} (hd : 7 ≤ d) (t : Nat) (ht : isSh t) (who : Int32) (n : Nat) (I : Is) (J : Js) (b : Bool) (hn : (I t 1).toInt = (n : Int)) (hn9 : n ≤ 60) (hNW : NW (I 1 1) (I 2)) (hTW : TW I b) (hv : VOk (gv I 16)) : MC9 g d mX8_firstUnlike [.ref 28, .ref t, .int who] I J b (Qi J b (fun v I' => v = fuF (J (t + 1)) (fun k => (goF (en I b) (bit who) (bit 0) (bit 0) (k + 1) (bgF (gv I 16))).1) n 0 ∧ Fr [32, 33, 34, 35, 36, 37, 14, 15] I I')) := by
  refine ent9 (own := RX8) rfl rfl rfl (fun X hg hx C Z => ?_)
  subst hg
  have he := en_ok (b := b) hNW
  obtain ⟨hc4, hr3, hc21, hl60⟩ := sh_all ht b
  have htT : t ∉ [32, 33, 34, 35, 36, 37, 14, 15] := by rcases ht with rfl | rfl | rfl | rfl | rfl | rfl <;> decide
  have loop : ∀ (m i : Nat) (I' : Is), m + i = n → EqV (gv I' 32) (goF (en I b) (bit who) (bit 0) (bit 0) i (bgF (gv I 16))) → Fr [32, 33, 34, 35, 36, 37, 14, 15] I I' → fuF (J (t + 1)) (fun k => (goF (en I b) (bit who) (bit 0) (bit 0) (k + 1) (bgF (gv I 16))).1) n 0 = fuF (J (t + 1)) (fun k => (goF (en I b) (bit who) (bit 0) (bit 0) (k + 1) (bgF (gv I 16))).1) m i →
      Aw X 13 [some (.ref 28), some (.ref t), some (.int who), some (.int (nI i))] [] (st9 I' J b) := by
    intro m
    induction m with
    | zero =>
      intro i I' hm hE hF hv'
      have hi : i = n := by omega
      subst hi
      have rt : I' t = I t := hF t htT
      have ini : (nI i).toInt = (i : Int) := nIint (by omega)
      refine r_iload_n C dX8_firstUnlike_13 rfl ?_
      refine r_aload_n C dX8_firstUnlike_14 rfl ?_
      refine r_getI C flX8_127 dX8_firstUnlike_15 hc4 rfl ?_
      rw [rt]
      refine b_icge C (tgt := 57) rfl rfl dX8_firstUnlike_18 rfl (fun h18_1 => ?_) (fun h18_1 => ?_)
      · refine r_bipush C (v := -2) dX8_firstUnlike_57 (by decide) ?_
        exact ri C Z dX8_firstUnlike_59 ⟨hv'.symm, hF⟩
      · exfalso; omega
    | succ m ih =>
      intro i I' hm hE hF hv'
      have rt : I' t = I t := hF t htT
      have ini : (nI i).toInt = (i : Int) := nIint (by omega)
      have ii : ix (nI i) = i := nIix (by omega)
      have hvi : VOk (gv I' 32) := VOk.eqv hE (go_ok he (bg_ok hv) i)
      have hen : en I' b = en I b := en_rows (fun c hc => hF c (by revert hc; revert c; decide))
      refine r_iload_n C dX8_firstUnlike_13 rfl ?_
      refine r_aload_n C dX8_firstUnlike_14 rfl ?_
      refine r_getI C flX8_127 dX8_firstUnlike_15 hc4 rfl ?_
      rw [rt]
      refine b_icge C (tgt := 57) rfl rfl dX8_firstUnlike_18 rfl (fun h18_1 => ?_) (fun h18_1 => ?_)
      · exfalso; omega
      · refine r_aload_n C dX8_firstUnlike_21 rfl ?_
        refine r_getR C flX8_34 dX8_firstUnlike_22 rfl rfl rfl ?_
        refine r_iload_n C dX8_firstUnlike_25 rfl ?_
        refine r_iconst C (v := 0) dX8_firstUnlike_26 (by decide) ?_
        refine r_iconst C (v := 0) dX8_firstUnlike_27 (by decide) ?_
        refine cV (ci := 1) C hx (passT_32 (d := d - 1) (by omega) who 0 0 I' J b (NW_rows (fun c hc => hF c (by revert hc; revert c; decide)) hNW) (TW_rows (fun c hc => hF c (by revert hc; revert c; decide)) hTW) hvi) moX1_pass mlX8_44 miX1_pass msX1_pass dX8_firstUnlike_28 rfl rfl rfl rfl rfl (by omega) rfl rfl (kv (fun I_28_2 q_28_2 => ?_))
        have hq := q_28_2
        have hgs := go_step he hen hE hq.1
        have hlv : I_28_2 32 0 = (goF (en I b) (bit who) (bit 0) (bit 0) (i + 1) (bgF (gv I 16))).1 := hgs.1
        refine r_aload_n C dX8_firstUnlike_31 rfl ?_
        refine r_getR C flX8_132 dX8_firstUnlike_32 hc4 rfl hr3 ?_
        refine r_iload_n C dX8_firstUnlike_35 rfl ?_
        refine r_lald C hc21 dX8_firstUnlike_36 (by rw [hl60]; exact nIin (by omega) (by decide)) ?_
        rw [ii]
        refine r_aload_n C dX8_firstUnlike_37 rfl ?_
        refine r_getR C flX8_34 dX8_firstUnlike_38 rfl rfl rfl ?_
        refine r_getI C flX8_58 dX8_firstUnlike_41 rfl rfl ?_
        refine r_i2l C dX8_firstUnlike_44 ?_
        refine r_lcmp C dX8_firstUnlike_45 ?_
        refine r_ifeq C (tgt := 51) dX8_firstUnlike_46 rfl (fun h46_3 => ?_) (fun h46_3 => ?_)
        · refine r_iinc C (v := 1) dX8_firstUnlike_51 rfl (by decide) rfl ?_
          refine r_goto C (tgt := 13) dX8_firstUnlike_54 rfl ?_
          have hh := lgc0.mp ‹lg_cmp _ _ = 0›
          rw [hlv] at hh
          rw [show fuF (J (t + 1)) (fun k => (goF (en I b) (bit who) (bit 0) (bit 0) (k + 1) (bgF (gv I 16))).1) (m + 1) i = fuF (J (t + 1)) (fun k => (goF (en I b) (bit who) (bit 0) (bit 0) (k + 1) (bgF (gv I 16))).1) m (i + 1) from if_pos hh] at hv'
          rw [nI_s]
          exact ih (i + 1) _ (by omega) hgs (hF.tr hq.2.2.2 (by decide) (by decide)) hv'
        · refine r_iload_n C dX8_firstUnlike_49 rfl ?_
          exact ri C Z dX8_firstUnlike_50 ⟨by
        have hh := fun z => ‹¬ lg_cmp _ _ = 0› (lgc0.mpr z)
        rw [hlv] at hh
        rw [hv', show fuF (J (t + 1)) (fun k => (goF (en I b) (bit who) (bit 0) (bit 0) (k + 1) (bgF (gv I 16))).1) (m + 1) i = nI i from if_neg hh], hF.tr hq.2.2.2 (by decide) (by decide)⟩
  refine r_aload_n C dX8_firstUnlike_0 rfl ?_
  refine r_getR C flX8_34 dX8_firstUnlike_1 rfl rfl rfl ?_
  refine r_aload_n C dX8_firstUnlike_4 rfl ?_
  refine r_getR C flX8_25 dX8_firstUnlike_5 rfl rfl rfl ?_
  refine cV (ci := 1) C hx (sX1_begin_32_16 (d := d - 1) (by omega) I J b) moX1_begin mlX8_40 miX1_begin msX1_begin dX8_firstUnlike_8 rfl rfl rfl rfl rfl (by omega) rfl rfl (kv (fun I_8_1 q_8_1 => ?_))
  have hq := q_8_1
  refine r_iconst C (v := 0) dX8_firstUnlike_11 (by decide) ?_
  refine r_istore_n C dX8_firstUnlike_12 rfl rfl ?_
  exact loop n 0 _ rfl hq.1 (hq.2.2.mo (by decide)) rfl
def lgF (e : EV) (pt fr hc : Nat → Bool) (j : Nat) : Nat → GV → Int32 → Int32
  | 0, _, last => last
  | m + 1, v, last => lgF e pt fr hc j m (secF e pt fr hc v) (if (v.2.2.2.2.1 j).toInt < ((secF e pt fr hc v).2.2.2.2.1 j).toInt then (secF e pt fr hc v).2.2.1 else last)
set_option maxRecDepth 100000 in
set_option maxHeartbeats 400000 in
theorem sX8_lastGain {g : Gb} {d : Nat} (hd : 7 ≤ d) (j : Nat) (hj : j < 3) (I : Is) (J : Js) (b : Bool) (hNW : NW (I 1 1) (I 2)) (hTW : TW I b) (hv : VOk (gv I 16)) : MC9 g d mX8_lastGain [.ref 28, .int (nI j)] I J b (Qi J b (fun v I' => v = lgF (en I b) (bit 7) (bit (1 <<< (nI j &&& 31))) (bit 0) j 99 (bgF (gv I 16)) 0 ∧ Fr [32, 33, 34, 35, 36, 37, 14, 15] I I')) := by
  refine ent9 (own := RX8) rfl rfl rfl (fun X hg hx C Z => ?_)
  subst hg
  have he := en_ok (b := b) hNW
  have ij : ix (nI j) = j := nIix (by omega)
  have loop : ∀ (m i : Nat) (I' : Is) (v : GV) (last : Int32) (x4 : Option Value), m + i = 99 → VOk v → EqV (gv I' 32) v → Fr [32, 33, 34, 35, 36, 37, 14, 15] I I' → lgF (en I b) (bit 7) (bit (1 <<< (nI j &&& 31))) (bit 0) j m v last = lgF (en I b) (bit 7) (bit (1 <<< (nI j &&& 31))) (bit 0) j 99 (bgF (gv I 16)) 0 →
      Aw X 15 [some (.ref 28), some (.int (nI j)), some (.int last), some (.int (nI i)), x4] [] (st9 I' J b) := by
    intro m
    induction m with
    | zero =>
      intro i I' v last x4 hm hvo hE hF hg
      have hi : i = 99 := by omega
      have ini : (nI i).toInt = (i : Int) := nIint (by omega)
      refine r_iload_n C dX8_lastGain_15 rfl ?_
      refine r_bipush C (v := 99) dX8_lastGain_16 (by decide) ?_
      refine b_icge C (tgt := 73) (my := 99) rfl rfl dX8_lastGain_18 rfl (fun h18_1 => ?_) (fun h18_1 => ?_)
      · refine r_iload_n C dX8_lastGain_73 rfl ?_
        exact ri C Z dX8_lastGain_74 ⟨hg, hF⟩
      · exfalso; omega
    | succ m ih =>
      intro i I' v last x4 hm hvo hE hF hg
      have ini : (nI i).toInt = (i : Int) := nIint (by omega)
      have hvi : VOk (gv I' 32) := VOk.eqv hE hvo
      have hen : en I' b = en I b := en_rows (fun c hc => hF c (by revert hc; revert c; decide))
      have hgo : I' 34 j = v.2.2.2.2.1 j := hE.2.2.2.2.1 j hj
      have hstep : lgF (en I b) (bit 7) (bit (1 <<< (nI j &&& 31))) (bit 0) j (m + 1) v last = lgF (en I b) (bit 7) (bit (1 <<< (nI j &&& 31))) (bit 0) j m (secF (en I b) (bit 7) (bit (1 <<< (nI j &&& 31))) (bit 0) v) (if (v.2.2.2.2.1 j).toInt < ((secF (en I b) (bit 7) (bit (1 <<< (nI j &&& 31))) (bit 0) v).2.2.2.2.1 j).toInt then (secF (en I b) (bit 7) (bit (1 <<< (nI j &&& 31))) (bit 0) v).2.2.1 else last) := rfl
      rw [hstep] at hg
      refine r_iload_n C dX8_lastGain_15 rfl ?_
      refine r_bipush C (v := 99) dX8_lastGain_16 (by decide) ?_
      refine b_icge C (tgt := 73) (my := 99) rfl rfl dX8_lastGain_18 rfl (fun h18_1 => ?_) (fun h18_1 => ?_)
      · exfalso; omega
      · refine r_aload_n C dX8_lastGain_21 rfl ?_
        refine r_getR C flX8_34 dX8_lastGain_22 rfl rfl rfl ?_
        refine r_getR C flX8_68 dX8_lastGain_25 rfl rfl rfl ?_
        refine r_iload_n C dX8_lastGain_28 rfl ?_
        refine r_iald C rfl dX8_lastGain_29 (nIin hj (by decide)) ?_
        rw [ij, hgo]
        refine r_istore C dX8_lastGain_30 rfl rfl ?_
        refine r_aload_n C dX8_lastGain_32 rfl ?_
        refine r_getR C flX8_34 dX8_lastGain_33 rfl rfl rfl ?_
        refine r_bipush C (v := 7) dX8_lastGain_36 (by decide) ?_
        refine r_iconst C (v := 1) dX8_lastGain_38 (by decide) ?_
        refine r_iload_n C dX8_lastGain_39 rfl ?_
        refine r_ishl C dX8_lastGain_40 ?_
        refine r_iconst C (v := 0) dX8_lastGain_41 (by decide) ?_
        refine cV (ci := 1) C hx (passT_32 (d := d - 1) (by omega) 7 _ 0 I' J b (NW_rows (fun c hc => hF c (by revert hc; revert c; decide)) hNW) (TW_rows (fun c hc => hF c (by revert hc; revert c; decide)) hTW) hvi) moX1_pass mlX8_44 miX1_pass msX1_pass dX8_lastGain_42 rfl rfl rfl rfl rfl (by omega) rfl rfl (kv (fun I_42_2 q_42_2 => ?_))
        have hq := q_42_2
        have hE2 : EqV (gv I_42_2 32) (secF (en I b) (bit 7) (bit (1 <<< (nI j &&& 31))) (bit 0) v) := by rw [hq.1, hen]; exact secF_eqv he.1 hE
        have hgo2 : I_42_2 34 j = (secF (en I b) (bit 7) (bit (1 <<< (nI j &&& 31))) (bit 0) v).2.2.2.2.1 j := hE2.2.2.2.2.1 j hj
        have hs2 : I_42_2 32 2 = (secF (en I b) (bit 7) (bit (1 <<< (nI j &&& 31))) (bit 0) v).2.2.1 := hE2.2.2.1
        have hF2 : Fr [32, 33, 34, 35, 36, 37, 14, 15] I I_42_2 := hF.tr hq.2.2.2 (by decide) (by decide)
        refine r_aload_n C dX8_lastGain_45 rfl ?_
        refine r_getR C flX8_34 dX8_lastGain_46 rfl rfl rfl ?_
        refine r_getR C flX8_68 dX8_lastGain_49 rfl rfl rfl ?_
        refine r_iload_n C dX8_lastGain_52 rfl ?_
        refine r_iald C rfl dX8_lastGain_53 (nIin hj (by decide)) ?_
        refine r_iload C dX8_lastGain_54 rfl ?_
        refine b_icle C (tgt := 67) rfl rfl dX8_lastGain_56 rfl (fun h56_3 => ?_) (fun h56_3 => ?_)
        · refine r_iinc C (v := 1) dX8_lastGain_67 rfl (by decide) rfl ?_
          refine r_goto C (tgt := 15) dX8_lastGain_70 rfl ?_
          have hh := ‹(I_42_2 34 (ix (nI j))).toInt ≤ _›
          rw [ij, hgo2] at hh
          rw [if_neg (Int.not_lt.mpr hh)] at hg
          rw [nI_s]
          exact ih (i + 1) _ _ _ _ (by omega) (sec_ok he hvo) hE2 hF2 hg
        · refine r_aload_n C dX8_lastGain_59 rfl ?_
          refine r_getR C flX8_34 dX8_lastGain_60 rfl rfl rfl ?_
          refine r_getI C flX8_124 dX8_lastGain_63 rfl rfl ?_
          refine r_istore_n C dX8_lastGain_66 rfl rfl ?_
          refine r_iinc C (v := 1) dX8_lastGain_67 rfl (by decide) rfl ?_
          refine r_goto C (tgt := 15) dX8_lastGain_70 rfl ?_
          have hh := ‹_ < (I_42_2 34 (ix (nI j))).toInt›
          rw [ij, hgo2] at hh
          rw [if_pos hh] at hg
          rw [nI_s, hs2]
          exact ih (i + 1) _ _ _ _ (by omega) (sec_ok he hvo) hE2 hF2 hg
  refine r_iconst C (v := 0) dX8_lastGain_0 (by decide) ?_
  refine r_istore_n C dX8_lastGain_1 rfl rfl ?_
  refine r_aload_n C dX8_lastGain_2 rfl ?_
  refine r_getR C flX8_34 dX8_lastGain_3 rfl rfl rfl ?_
  refine r_aload_n C dX8_lastGain_6 rfl ?_
  refine r_getR C flX8_25 dX8_lastGain_7 rfl rfl rfl ?_
  refine cV (ci := 1) C hx (sX1_begin_32_16 (d := d - 1) (by omega) I J b) moX1_begin mlX8_40 miX1_begin msX1_begin dX8_lastGain_10 rfl rfl rfl rfl rfl (by omega) rfl rfl (kv (fun I_10_1 q_10_1 => ?_))
  have hq := q_10_1
  refine r_iconst C (v := 0) dX8_lastGain_13 (by decide) ?_
  refine r_istore_n C dX8_lastGain_14 rfl rfl ?_
  exact loop 99 0 _ _ 0 none rfl (bg_ok hv) hq.1 (hq.2.2.mo (by decide)) rfl
