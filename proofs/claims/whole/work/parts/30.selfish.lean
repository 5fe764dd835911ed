def g0F (I : Is) (b : Bool) (s n i j : Nat) : Int32 := (drS I b (nI i) (nI j) s n).2.2.2.2.1 0
def g1F (I : Is) (b : Bool) (s n i j : Nat) : Int32 := (drS I b (nI i) (nI j) s n).2.2.2.2.1 1
/-- neither of the pair gets more by another strength -/
def ctG (A B : Nat → Nat → Int32) (f S i j : Nat) : Prop := (∀ o, o ≤ f → (A o j).toInt ≤ (A i j).toInt) ∧ ∀ o, o ≤ S → (B i o).toInt ≤ (B i j).toInt
/-- the first content pair -/
def slQ (A B : Nat → Nat → Int32) (f S : Nat) (v : Int32) : Prop := (∃ i j, i ≤ f ∧ j ≤ S ∧ v = 100 * nI i + nI j ∧ ctG A B f S i j ∧ (∀ i' j', j' ≤ S → i' < i → ¬ ctG A B f S i' j') ∧ ∀ j', j' < j → ¬ ctG A B f S i j') ∨ (v = -2 ∧ ∀ i j, i ≤ f → j ≤ S → ¬ ctG A B f S i j)
theorem imin20 : ∀ f, f < 21 → imin 20 (nI f) = nI f := by decide +kernel
/-- the rows of what is got, filled up to pair (i, j) -/
def flF (A : Nat → Nat → Int32) (S i j : Nat) (r : Nat → Int32) : Prop := (∀ i' j', i' < i → j' ≤ S → r (21 * i' + j') = A i' j') ∧ ∀ j', j' < j → r (21 * i + j') = A i j'
theorem flF.step {A : Nat → Nat → Int32} {S i j c : Nat} {I : Is} {v : Int32} (h : flF A S i j (I c)) (hS : S ≤ 20) (hj : j ≤ S) (hv : v = A i j) : flF A S i (j + 1) (u2 I c (21 * i + j) v c) := by
  refine ⟨fun i' j' hi hj' => ?_, fun j' hj' => ?_⟩
  · rw [u2_ne _ _ _ _ (Or.inr (by omega))]; exact h.1 i' j' hi hj'
  · by_cases e : j' = j
    · rw [e, u2_same, hv]
    · rw [u2_ne _ _ _ _ (Or.inr (by omega))]; exact h.2 j' (by omega)
theorem flF.row {A : Nat → Nat → Int32} {S i : Nat} {r : Nat → Int32} (h : flF A S i (S + 1) r) : flF A S (i + 1) 0 r := by
  refine ⟨fun i' j' hi hj' => ?_, fun j' hj' => absurd hj' (Nat.not_lt_zero _)⟩
  by_cases e : i' = i
  · rw [e]; exact h.2 j' (by omega)
  · exact h.1 i' j' (by omega) hj'
set_option maxRecDepth 100000 in
set_option maxHeartbeats 400000 in
theorem sX8_selfish {g : Gb} {d : Nat} (hd : 8 ≤ d) (N : Nat) (hN : N < 100000) (I : Is) (J : Js) (b : Bool) (s : Nat) (hs : (I 1 1).toInt = (s : Int)) (hs3 : s ≤ 3) (hs2 : 2 ≤ s) (f S : Nat) (hf : I 2 0 = nI f) (hS : I 2 8 = nI S) (hf9 : f ≤ 20) (hS9 : S ≤ 20) (hNW : NW (I 1 1) (I 2)) (hTW : TW I b) (hv : VOk (gv I 16)) : MC9 g d mX8_selfish [.ref 28, .int (nI N)] I J b (Qi J b (fun v I' => slQ (g0F I b s N) (g1F I b s N) f S v ∧ Fr (30 :: 31 :: [32, 33, 34, 35, 36, 37, 14, 15]) I I')) := by
  refine ent9 (own := RX8) rfl rfl rfl (fun X hg hx C Z => ?_)
  subst hg
  have hLd : ∀ c, c ∈ [1, 5, 6, 7, 8, 10, 11, 12, 13, 16, 17, 18, 19, 20] → c ∉ (30 :: 31 :: [32, 33, 34, 35, 36, 37, 14, 15]) := by decide
  have inf_ : (nI f).toInt = (f : Int) := nIint (by omega)
  have inS : (nI S).toInt = (S : Int) := nIint (by omega)
  have srow : ∀ (m i j : Nat) (x6 : Option Value) (I3 : Is), i ≤ f → m + j = S + 1 → flF (g0F I b s N) S (f + 1) 0 (I3 30) → flF (g1F I b s N) S (f + 1) 0 (I3 31) → Fr (30 :: 31 :: [32, 33, 34, 35, 36, 37, 14, 15]) I I3 → (∀ i' j', j' ≤ S → i' < i → ¬ ctG (g0F I b s N) (g1F I b s N) f S i' j') → (∀ j', j' < j → ¬ ctG (g0F I b s N) (g1F I b s N) f S i j') →
      ((∀ i' j', j' ≤ S → i' < i + 1 → ¬ ctG (g0F I b s N) (g1F I b s N) f S i' j') → ∀ x5, Aw X 167 [some (.ref 28), some (.int (nI N)), some (.int (nI f)), some (.int (nI S)), some (.int (nI i)), some (.int x5), x6] [] (st9 I3 J b)) →
      Aw X 133 [some (.ref 28), some (.int (nI N)), some (.int (nI f)), some (.int (nI S)), some (.int (nI i)), some (.int (nI j)), x6] [] (st9 I3 J b) := by
    intro m
    induction m with
    | zero =>
      intro i j x6 I3 hi hm h0 h1 hF hn hnj K
      have inj : (nI j).toInt = (j : Int) := nIint (by omega)
      refine r_iload C dX8_selfish_133 rfl ?_
      refine r_iload_n C dX8_selfish_135 rfl ?_
      refine b_icgt C (tgt := 167) rfl rfl dX8_selfish_136 rfl (fun h136_1 => ?_) (fun h136_1 => ?_)
      · refine K (fun i' j' hj' hi' => ?_) _
        by_cases e : i' = i
        · rw [e]; exact hnj j' (by omega)
        · exact hn i' j' hj' (by omega)
      · exfalso; omega
    | succ m ih =>
      intro i j x6 I3 hi hm h0 h1 hF hn hnj K
      have inj : (nI j).toInt = (j : Int) := nIint (by omega)
      have hct : ctF (I3 30) (I3 31) i j f S ↔ ctG (g0F I b s N) (g1F I b s N) f S i j := by
        unfold ctF ctG
        constructor
        · intro z
          exact ⟨fun o ho => by have := z.1 o ho; rw [h0.1 o j (by omega) (by omega), h0.1 i j (by omega) (by omega)] at this; exact this, fun o ho => by have := z.2 o ho; rw [h1.1 i o (by omega) ho, h1.1 i j (by omega) (by omega)] at this; exact this⟩
        · intro z
          exact ⟨fun o ho => by rw [h0.1 o j (by omega) (by omega), h0.1 i j (by omega) (by omega)]; exact z.1 o ho, fun o ho => by rw [h1.1 i o (by omega) ho, h1.1 i j (by omega) (by omega)]; exact z.2 o ho⟩
      refine r_iload C dX8_selfish_133 rfl ?_
      refine r_iload_n C dX8_selfish_135 rfl ?_
      refine b_icgt C (tgt := 167) rfl rfl dX8_selfish_136 rfl (fun h136_1 => ?_) (fun h136_1 => ?_)
      · exfalso; omega
      · refine r_aload_n C dX8_selfish_139 rfl ?_
        refine r_iload C dX8_selfish_140 rfl ?_
        refine r_iload C dX8_selfish_142 rfl ?_
        refine r_iload_n C dX8_selfish_144 rfl ?_
        refine r_iload_n C dX8_selfish_145 rfl ?_
        refine cV (ci := 8) C hx (sX8_isContent (d := d - 1) (by omega) i j f S hi (by omega) hf9 hS9 I3 J b) moX8_isContent mlX8_120 miX8_isContent msX8_isContent dX8_selfish_146 rfl rfl rfl rfl rfl (by omega) rfl rfl (ki (fun v_146_2 I_146_2 q_146_2 => ?_))
        obtain ⟨hII, ho⟩ := q_146_2
        rw [hII]
        clear hII
        rw [hct] at ho
        generalize v_146_2 = vv at ho ⊢
        refine r_ifeq C (tgt := 161) dX8_selfish_149 rfl (fun h149_3 => ?_) (fun h149_3 => ?_)
        · refine r_iinc C (v := 1) dX8_selfish_161 rfl (by decide) rfl ?_
          refine r_goto C (tgt := 133) dX8_selfish_164 rfl ?_
          rw [nI_s]
          exact ih i (j + 1) _ _ hi (by omega) h0 h1 hF hn (lts hnj (ho.elim (fun z => by have h9 := ‹vv = 0›; rw [z.1] at h9; exact absurd h9 (by decide)) (fun z => z.2))) K
        · refine r_bipush C (v := 100) dX8_selfish_152 (by decide) ?_
          refine r_iload C dX8_selfish_154 rfl ?_
          refine r_imul C dX8_selfish_156 ?_
          refine r_iload C dX8_selfish_157 rfl ?_
          refine r_iadd C dX8_selfish_159 ?_
          exact ri C Z dX8_selfish_160 ⟨Or.inl ⟨i, j, hi, by omega, rfl, ho.elim (fun z => z.2) (fun z => absurd z.1 (by assumption)), hn, hnj⟩, hF⟩
  have srch : ∀ (m i : Nat) (x5 x6 : Option Value) (I3 : Is), m + i = f + 1 → flF (g0F I b s N) S (f + 1) 0 (I3 30) → flF (g1F I b s N) S (f + 1) 0 (I3 31) → Fr (30 :: 31 :: [32, 33, 34, 35, 36, 37, 14, 15]) I I3 → (∀ i' j', j' ≤ S → i' < i → ¬ ctG (g0F I b s N) (g1F I b s N) f S i' j') →
      Aw X 124 [some (.ref 28), some (.int (nI N)), some (.int (nI f)), some (.int (nI S)), some (.int (nI i)), x5, x6] [] (st9 I3 J b) := by
    intro m
    induction m with
    | zero =>
      intro i x5 x6 I3 hm h0 h1 hF hn
      have ini : (nI i).toInt = (i : Int) := nIint (by omega)
      refine r_iload C dX8_selfish_124 rfl ?_
      refine r_iload_n C dX8_selfish_126 rfl ?_
      refine b_icgt C (tgt := 173) rfl rfl dX8_selfish_127 rfl (fun h127_1 => ?_) (fun h127_1 => ?_)
      · refine r_bipush C (v := -2) dX8_selfish_173 (by decide) ?_
        exact ri C Z dX8_selfish_175 ⟨Or.inr ⟨rfl, fun i' j' hi' hj' => hn i' j' hj' (by omega)⟩, hF⟩
      · exfalso; omega
    | succ m ih =>
      intro i x5 x6 I3 hm h0 h1 hF hn
      have ini : (nI i).toInt = (i : Int) := nIint (by omega)
      refine r_iload C dX8_selfish_124 rfl ?_
      refine r_iload_n C dX8_selfish_126 rfl ?_
      refine b_icgt C (tgt := 173) rfl rfl dX8_selfish_127 rfl (fun h127_1 => ?_) (fun h127_1 => ?_)
      · exfalso; omega
      · refine r_iconst C (v := 0) dX8_selfish_130 (by decide) ?_
        refine r_istore C dX8_selfish_131 rfl rfl ?_
        refine srow (S + 1) i 0 _ _ (by omega) rfl h0 h1 hF hn (fun j' hj' => absurd hj' (Nat.not_lt_zero _)) (fun hn2 x5 => ?_)
        refine r_iinc C (v := 1) dX8_selfish_167 rfl (by decide) rfl ?_
        refine r_goto C (tgt := 124) dX8_selfish_170 rfl ?_
        rw [nI_s]
        exact ih (i + 1) _ _ _ (by omega) h0 h1 hF hn2
  have frow : ∀ (m i j : Nat) (x6 : Option Value) (I' : Is), i ≤ f → m + j = S + 1 → Fr (2 :: 30 :: 31 :: [32, 33, 34, 35, 36, 37, 14, 15]) I I' → (∀ q, q ≠ 0 → q ≠ 8 → I' 2 q = I 2 q) → flF (g0F I b s N) S i j (I' 30) → flF (g1F I b s N) S i j (I' 31) →
      (∀ (x5 : Int32) (x6 : Option Value) (I2 : Is), Fr (2 :: 30 :: 31 :: [32, 33, 34, 35, 36, 37, 14, 15]) I I2 → (∀ q, q ≠ 0 → q ≠ 8 → I2 2 q = I 2 q) → flF (g0F I b s N) S (i + 1) 0 (I2 30) → flF (g1F I b s N) S (i + 1) 0 (I2 31) → Aw X 109 [some (.ref 28), some (.int (nI N)), some (.int (nI f)), some (.int (nI S)), some (.int (nI i)), some (.int x5), x6] [] (st9 I2 J b)) →
      Aw X 42 [some (.ref 28), some (.int (nI N)), some (.int (nI f)), some (.int (nI S)), some (.int (nI i)), some (.int (nI j)), x6] [] (st9 I' J b) := by
    intro m
    induction m with
    | zero =>
      intro i j x6 I' hi hm hF h2 h0 h1 K
      have inj : (nI j).toInt = (j : Int) := nIint (by omega)
      have hj : j = S + 1 := by omega
      subst hj
      refine r_iload C dX8_selfish_42 rfl ?_
      refine r_iload_n C dX8_selfish_44 rfl ?_
      refine b_icgt C (tgt := 109) rfl rfl dX8_selfish_45 rfl (fun h45_1 => ?_) (fun h45_1 => ?_)
      · exact K _ _ _ hF h2 h0.row h1.row
      · exfalso; omega
    | succ m ih =>
      intro i j x6 I' hi hm hF h2 h0 h1 K
      have inj : (nI j).toInt = (j : Int) := nIint (by omega)
      have ini : (nI i).toInt = (i : Int) := nIint (by omega)
      have hij := (i21 i j (by omega) (by omega)).1
      have hijv := (i21 i j (by omega) (by omega)).2
      refine r_iload C dX8_selfish_42 rfl ?_
      refine r_iload_n C dX8_selfish_44 rfl ?_
      refine b_icgt C (tgt := 109) rfl rfl dX8_selfish_45 rfl (fun h45_1 => ?_) (fun h45_1 => ?_)
      · exfalso; omega
      · refine r_aload_n C dX8_selfish_48 rfl ?_
        refine r_iload C dX8_selfish_49 rfl ?_
        refine r_iload C dX8_selfish_51 rfl ?_
        refine cV (ci := 8) C hx (sX8_setStrengths (d := d - 1) (by omega) _ _ I' J b) moX8_setStrengths mlX8_113 miX8_setStrengths msX8_setStrengths dX8_selfish_53 rfl rfl rfl rfl rfl (by omega) rfl rfl (kv (fun I_53_2 q_53_2 => ?_))
        have hq := q_53_2
        rw [hq]
        refine r_aload_n C dX8_selfish_56 rfl ?_
        refine r_iload_n C dX8_selfish_57 rfl ?_
        refine cV (ci := 8) C hx (st2_world (g := x_g X) (d := d - 1) (by omega) hLd hF h2 (x := nI i) (y := nI j) s hs hs3 hs2 (by omega) (by omega) hNW hTW hv N hN) moX8_drunk mlX8_102 miX8_drunk msX8_drunk dX8_selfish_58 rfl rfl rfl rfl rfl (by omega) rfl rfl (kr (fun t_58_3 I_58_3 q_58_3 => ?_))
        obtain ⟨rfl, hE, hFd⟩ := q_58_3
        have hF2 : Fr (2 :: 30 :: 31 :: [32, 33, 34, 35, 36, 37, 14, 15]) I I_58_3 := fun c hc => (hFd c (fun z => hc (List.mem_cons_of_mem _ (List.mem_cons_of_mem _ (List.mem_cons_of_mem _ z))))).trans ((st2_ne (fun e => hc (by rw [e]; simp))).trans (hF c hc))
        have h22 : ∀ q, q ≠ 0 → q ≠ 8 → I_58_3 2 q = I 2 q := fun q q0 q8 => by rw [hFd 2 (by decide)]; unfold st2; rw [u2_ne _ _ _ _ (Or.inr q8), u2_ne _ _ _ _ (Or.inr q0)]; exact h2 q q0 q8
        have k0 : flF (g0F I b s N) S i j (I_58_3 30) := by rw [hFd 30 (by decide), st2_ne (by decide)]; exact h0
        have k1 : flF (g1F I b s N) S i j (I_58_3 31) := by rw [hFd 31 (by decide), st2_ne (by decide)]; exact h1
        generalize I_58_3 = I2 at hE hF2 h22 k0 k1 ⊢
        have e0 : I2 34 0 = g0F I b s N i j := hE.2.2.2.2.1 0 (by omega)
        have e1 : I2 34 1 = g1F I b s N i j := hE.2.2.2.2.1 1 (by omega)
        refine r_astore C dX8_selfish_61 rfl rfl ?_
        refine r_aload_n C dX8_selfish_63 rfl ?_
        refine r_getR C flX8_15 dX8_selfish_64 rfl rfl rfl ?_
        refine r_iload C dX8_selfish_67 rfl ?_
        refine r_bipush C (v := 21) dX8_selfish_69 (by decide) ?_
        refine r_imul C dX8_selfish_71 ?_
        refine r_iload C dX8_selfish_72 rfl ?_
        refine r_iadd C dX8_selfish_74 ?_
        refine r_aload C dX8_selfish_75 rfl ?_
        refine r_getR C flX8_68 dX8_selfish_77 rfl rfl rfl ?_
        refine r_iconst C (v := 0) dX8_selfish_80 (by decide) ?_
        refine r_iald C rfl dX8_selfish_81 (vin (by decide) (by decide)) ?_
        refine r_iast C rfl dX8_selfish_82 hijv ?_
        rw [hij]
        refine r_aload_n C dX8_selfish_83 rfl ?_
        refine r_getR C flX8_18 dX8_selfish_84 rfl rfl rfl ?_
        refine r_iload C dX8_selfish_87 rfl ?_
        refine r_bipush C (v := 21) dX8_selfish_89 (by decide) ?_
        refine r_imul C dX8_selfish_91 ?_
        refine r_iload C dX8_selfish_92 rfl ?_
        refine r_iadd C dX8_selfish_94 ?_
        refine r_aload C dX8_selfish_95 rfl ?_
        refine r_getR C flX8_68 dX8_selfish_97 rfl rfl rfl ?_
        refine r_iconst C (v := 1) dX8_selfish_100 (by decide) ?_
        refine r_iald C rfl dX8_selfish_101 (vin (by decide) (by decide)) ?_
        refine r_iast C rfl dX8_selfish_102 hijv ?_
        rw [hij]
        refine r_iinc C (v := 1) dX8_selfish_103 rfl (by decide) rfl ?_
        refine r_goto C (tgt := 42) dX8_selfish_106 rfl ?_
        rw [nI_s]
        refine ih i (j + 1) _ _ hi (by omega) ((hF2.st (by simp)).st (by simp)) (fun q q0 q8 => by rw [u2_row (by decide), u2_row (by decide)]; exact h22 q q0 q8) ?_ ?_ K
        · rw [u2_row (t' := 30) (by decide)]; exact k0.step hS9 (by omega) e0
        · have k1' : flF (g1F I b s N) S i j (u2 I2 30 (21 * i + j) (I2 34 (ix 0)) 31) := by rw [u2_row (by decide)]; exact k1
          exact k1'.step hS9 (by omega) ((congrFun (u2_row (t' := 34) (by decide)) _).trans e1)
  have fill : ∀ (m i : Nat) (x5 x6 : Option Value) (I' : Is), m + i = f + 1 → Fr (2 :: 30 :: 31 :: [32, 33, 34, 35, 36, 37, 14, 15]) I I' → (∀ q, q ≠ 0 → q ≠ 8 → I' 2 q = I 2 q) → flF (g0F I b s N) S i 0 (I' 30) → flF (g1F I b s N) S i 0 (I' 31) →
      Aw X 33 [some (.ref 28), some (.int (nI N)), some (.int (nI f)), some (.int (nI S)), some (.int (nI i)), x5, x6] [] (st9 I' J b) := by
    intro m
    induction m with
    | zero =>
      intro i x5 x6 I' hm hF h2 h0 h1
      have ini : (nI i).toInt = (i : Int) := nIint (by omega)
      have hi : i = f + 1 := by omega
      subst hi
      refine r_iload C dX8_selfish_33 rfl ?_
      refine r_iload_n C dX8_selfish_35 rfl ?_
      refine b_icgt C (tgt := 115) rfl rfl dX8_selfish_36 rfl (fun h36_1 => ?_) (fun h36_1 => ?_)
      · refine r_aload_n C dX8_selfish_115 rfl ?_
        refine r_iload_n C dX8_selfish_116 rfl ?_
        refine r_iload_n C dX8_selfish_117 rfl ?_
        refine cV (ci := 8) C hx (sX8_setStrengths (d := d - 1) (by omega) _ _ I' J b) moX8_setStrengths mlX8_113 miX8_setStrengths msX8_setStrengths dX8_selfish_118 rfl rfl rfl rfl rfl (by omega) rfl rfl (kv (fun I_118_2 q_118_2 => ?_))
        have hq := q_118_2
        rw [hq]
        refine r_iconst C (v := 0) dX8_selfish_121 (by decide) ?_
        refine r_istore C dX8_selfish_122 rfl rfl ?_
        refine srch (f + 1) 0 _ _ (st2 I' (nI f) (nI S)) rfl (by rw [st2_ne (by decide)]; exact h0) (by rw [st2_ne (by decide)]; exact h1) (fun c hc => ?_) (fun i' j' _ hi' => absurd hi' (Nat.not_lt_zero _))
        by_cases e : c = 2
        · rw [e]
          refine (st2_2 (x := nI f) (y := nI S) h2).trans ?_
          funext q
          unfold st2
          by_cases e8 : q = 8
          · rw [e8, u2_same, hS]
          · rw [u2_ne _ _ _ _ (Or.inr e8)]
            by_cases e0 : q = 0
            · rw [e0, u2_same, hf]
            · rw [u2_ne _ _ _ _ (Or.inr e0)]
        · exact (st2_ne (x := nI f) (y := nI S) e).trans (hF c (fun z => (List.mem_cons.mp z).elim e hc))
      · exfalso; omega
    | succ m ih =>
      intro i x5 x6 I' hm hF h2 h0 h1
      have ini : (nI i).toInt = (i : Int) := nIint (by omega)
      refine r_iload C dX8_selfish_33 rfl ?_
      refine r_iload_n C dX8_selfish_35 rfl ?_
      refine b_icgt C (tgt := 115) rfl rfl dX8_selfish_36 rfl (fun h36_1 => ?_) (fun h36_1 => ?_)
      · exfalso; omega
      · refine r_iconst C (v := 0) dX8_selfish_39 (by decide) ?_
        refine r_istore C dX8_selfish_40 rfl rfl ?_
        refine frow (S + 1) i 0 _ _ (by omega) rfl hF h2 h0 h1 (fun x5 x6 I2 a b9 c0 c1 => ?_)
        refine r_iinc C (v := 1) dX8_selfish_109 rfl (by decide) rfl ?_
        refine r_goto C (tgt := 33) dX8_selfish_112 rfl ?_
        rw [nI_s]
        exact ih (i + 1) _ _ _ (by omega) a b9 c0 c1
  refine r_bipush C (v := 20) dX8_selfish_0 (by decide) ?_
  refine r_aload_n C dX8_selfish_2 rfl ?_
  refine r_getR C flX8_21 dX8_selfish_3 rfl rfl rfl ?_
  refine r_iconst C (v := 0) dX8_selfish_6 (by decide) ?_
  refine r_iconst C (v := 0) dX8_selfish_7 (by decide) ?_
  refine cV (ci := 3) C hx (sOf (d := d - 1) 0 0 (by omega) (by omega) I J b) moX3_ofStraw mlX8_83 miX3_ofStraw msX3_ofStraw dX8_selfish_8 rfl rfl rfl rfl rfl (by omega) rfl rfl (kp ?_)
  rw [show I 2 (8 * 0 + 0) = nI f from hf]
  refine cmin C hx mlX8_75 dX8_selfish_11 (by omega) rfl rfl ?_
  rw [imin20 f (by omega)]
  refine r_istore_n C dX8_selfish_14 rfl rfl ?_
  refine r_bipush C (v := 20) dX8_selfish_15 (by decide) ?_
  refine r_aload_n C dX8_selfish_17 rfl ?_
  refine r_getR C flX8_21 dX8_selfish_18 rfl rfl rfl ?_
  refine r_iconst C (v := 1) dX8_selfish_21 (by decide) ?_
  refine r_iconst C (v := 0) dX8_selfish_22 (by decide) ?_
  refine cV (ci := 3) C hx (sOf (d := d - 1) 1 0 (by omega) (by omega) I J b) moX3_ofStraw mlX8_83 miX3_ofStraw msX3_ofStraw dX8_selfish_23 rfl rfl rfl rfl rfl (by omega) rfl rfl (kp ?_)
  rw [show I 2 (8 * 1 + 0) = nI S from hS]
  refine cmin C hx mlX8_75 dX8_selfish_26 (by omega) rfl rfl ?_
  rw [imin20 S (by omega)]
  refine r_istore_n C dX8_selfish_29 rfl rfl ?_
  refine r_iconst C (v := 0) dX8_selfish_30 (by decide) ?_
  refine r_istore C dX8_selfish_31 rfl rfl ?_
  exact fill (f + 1) 0 _ _ I rfl Fr.rf (fun _ _ _ => rfl) ⟨fun _ _ h => absurd h (Nat.not_lt_zero _), fun _ h => absurd h (Nat.not_lt_zero _)⟩ ⟨fun _ _ h => absurd h (Nat.not_lt_zero _), fun _ h => absurd h (Nat.not_lt_zero _)⟩
