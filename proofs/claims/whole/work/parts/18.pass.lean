theorem bit_t {w : Int32} {j : Nat} (h : ¬ w &&& (1 <<< (nI j &&& 31)) = 0) : bit w j = true := decide_eq_true h
theorem bit_f {w : Int32} {j : Nat} (h : w &&& (1 <<< (nI j &&& 31)) = 0) : bit w j = false := decide_eq_false (fun z => z h)
theorem wVF_f {e : EV} {pt fr hc : Nat → Bool} {v : GV} {j : Nat} (h : pdF e pt fr v j = false) : wVF e pt fr hc v j = 0 := by unfold wVF; rw [h]; rfl
theorem wVF_t {e : EV} {pt fr hc : Nat → Bool} {v : GV} {j : Nat} (h : pdF e pt fr v j = true) : wVF e pt fr hc v j = trF e (hc j) v.1 (v.2.2.2.1 j) j := if_pos h
theorem smF_nn {f : Nat → Int32} {n : Nat} (hn : n ≤ 3) (h : ∀ k, k < n → 0 ≤ (f k).toInt ∧ (f k).toInt ≤ 1000) : ∀ i, i ≤ n → 0 ≤ (smF f i).toInt ∧ (smF f i).toInt ≤ 1000 * i ∧ ∀ k, k < i → (f k).toInt ≤ (smF f i).toInt := by
  intro i
  induction i with
  | zero => intro _; exact ⟨(by show (0 : Int) ≤ (0 : Int32).toInt; decide), (by show (0 : Int32).toInt ≤ 1000 * ((0 : Nat) : Int); decide), fun k hk => absurd hk (Nat.not_lt_zero k)⟩
  | succ i ih =>
    intro hi
    obtain ⟨a, b, c⟩ := ih (by omega)
    obtain ⟨p, q⟩ := h i (by omega)
    have e : (smF f (i + 1)).toInt = (smF f i).toInt + (f i).toInt := tI_add (by omega) (by omega)
    refine ⟨by omega, by omega, fun k hk => ?_⟩
    by_cases hk2 : k = i
    · subst hk2; omega
    · have := c k (by omega); omega
theorem int0 {x : Int32} (h : x.toInt = 0) : x = 0 := Int32.toInt_inj.mp (h.trans (show (0 : Int32).toInt = 0 from rfl).symm)
set_option maxRecDepth 100000 in
set_option maxHeartbeats 800000 in
theorem sX1_pass_16 {g : Gb} {d : Nat} (hd : 6 ≤ d) (who free hic : Int32) (I : Is) (J : Js) (b : Bool) (hNW : NW (I 1 1) (I 2)) (hTW : TW I b) (hl0 : 0 ≤ (I 16 0).toInt) (hl9 : (I 16 0).toInt ≤ 999) (hwn : ∀ k : Nat, (k : Int) < (I 1 1).toInt → 0 ≤ (wVF (en I b) (bit who) (bit free) (bit hic) (gv I 16) k).toInt ∧ (wVF (en I b) (bit who) (bit free) (bit hic) (gv I 16) k).toInt ≤ 999) : MC9 g d mX1_pass [.ref 16, .int who, .int free, .int hic] I J b (Qv J b (fun I' =>
    gv I' 16 = secF (en I b) (bit who) (bit free) (bit hic) (gv I 16) ∧ I' 16 3 = I 16 3 ∧ I' 16 4 = I 16 4 ∧ Fr [16, 17, 18, 19, 20, 21, 14, 15] I I')) := by
  refine ent9 (own := RX1) rfl rfl rfl (fun X hg hx C Z => ?_)
  subst hg
  have oi := one_int
  obtain ⟨hs0, hs3, hstr, -⟩ := hNW
  obtain ⟨s, hs⟩ : ∃ s : Nat, (I 1 1).toInt = (s : Int) := ⟨(I 1 1).toInt.toNat, by omega⟩
  have hes : ix (I 1 1) = s := ix_of hs
  have hTI : ∀ k, k < s → 1 ≤ (I 2 (8 * k + 3)).toInt := fun k hk => (hstr k (by omega)).2.2.2.1.1
  have hE4 : ∀ k, k < s → 1 ≤ (I 2 (8 * k + 4)).toInt ∧ (I 2 (8 * k + 4)).toInt ≤ 60 := fun k hk => (hstr k (by omega)).2.2.2.2.1
  have hE5 : ∀ k, k < s → 0 ≤ (I 2 (8 * k + 5)).toInt ∧ (I 2 (8 * k + 5)).toInt ≤ 60 := fun k hk => (hstr k (by omega)).2.2.2.2.2.1
  clear hstr
  have loop : ∀ (m i : Nat) (all : Int32) (x6 : Option Value) (I' : Is), m + i = s → (∀ k, I' 17 k = if k < i ∧ pdF (en I b) (bit who) (bit free) (gv I 16) k = true then I 17 k + 1 else I 17 k) →
      (∀ k, I' 20 k = if k < i ∧ pdF (en I b) (bit who) (bit free) (gv I 16) k = true ∧ bit hic k = false ∧ (I 16 0 - I 2 (8 * k + 2)).toInt ≤ 0 then I 20 k + 1 else I 20 k) →
      (∀ k, k < i → I' 21 k = wVF (en I b) (bit who) (bit free) (bit hic) (gv I 16) k) → all = smF (wVF (en I b) (bit who) (bit free) (bit hic) (gv I 16)) i → Fr [17, 20, 21, 14, 15] I I' →
      Aw X 6 [some (.ref 16), some (.int who), some (.int free), some (.int hic), some (.int all), some (.int (nI i)), x6] [] (st9 I' J b) := by
    intro m
    induction m with
    | zero =>
      intro i all x6 I' hm g1 g4 g5 ga hF
      have r1 : I' 1 = I 1 := hF 1 (by decide)
      have hi : i = s := by omega
      subst hi
      have e2 : (en I' b) = en I b := en_rows (fun c hc => hF c (by revert hc; revert c; decide))
      refine r_iload C dX1_pass_6 rfl ?_
      refine r_aload_n C dX1_pass_8 rfl ?_
      refine r_getR C flX1_31 dX1_pass_9 rfl rfl rfl ?_
      refine r_getI C flX1_55 dX1_pass_12 rfl rfl ?_
      refine b_icge C (tgt := 110) rfl rfl dX1_pass_15 rfl (fun h15_1 => ?_) (fun h15_1 => ?_)
      · refine r_iload C dX1_pass_110 rfl ?_
        refine b_ifle C (tgt := 121) dX1_pass_112 rfl (fun h112_2 => ?_) (fun h112_2 => ?_)
        · refine r_aload_n C dX1_pass_121 rfl ?_
          refine cV (ci := 1) C hx (sX1_melt_16 (d := d - 1) (by omega) I' J b) moX1_melt mlX1_72 miX1_melt msX1_melt dX1_pass_122 rfl rfl rfl rfl rfl (by omega) rfl rfl (kv (fun I_122_3 q_122_3 => ?_))
          refine r_aload_n C dX1_pass_125 rfl ?_
          refine r_dup C dX1_pass_126 rfl ?_
          refine r_getI C flX1_52 dX1_pass_127 rfl rfl ?_
          refine r_iconst C (v := 1) dX1_pass_130 (by decide) ?_
          refine r_iadd C dX1_pass_131 ?_
          refine r_putI C flX1_52 dX1_pass_132 rfl rfl rfl rfl rfl ?_
          have hF2 : Fr [16, 17, 18, 19, 20, 21, 14, 15] I I' := hF.mo (by decide)
          have hz : ∀ k, k < i → wVF (en I b) (bit who) (bit free) (bit hic) (gv I 16) k = 0 := fun k hk => by
            have hh := smF_nn (f := wVF (en I b) (bit who) (bit free) (bit hic) (gv I 16)) (n := i) (by omega) (fun k hk => by have := hwn k (by omega); omega) i (Nat.le_refl _)
            have := hh.2.2 k hk
            have h0 := (hwn k (by omega)).1
            rw [ga] at *
            exact int0 (by omega)
          have hall : all.toInt = 0 := by
            have hh := smF_nn (f := wVF (en I b) (bit who) (bit free) (bit hic) (gv I 16)) (n := i) (by omega) (fun k hk => by have := hwn k (by omega); omega) i (Nat.le_refl _)
            rw [← ga] at hh
            omega
          have hsz : ∀ k, k < i → shF (I 16 0) all (wVF (en I b) (bit who) (bit free) (bit hic) (gv I 16) k) = 0 := fun k hk => by unfold shF; rw [if_neg (by omega), hz k hk]
          have b2 : ∀ k, I' 18 k = if k < i then I 18 k + shF (I 16 0) all (wVF (en I b) (bit who) (bit free) (bit hic) (gv I 16) k) else I 18 k := fun k => by
            rw [hF 18 (by decide)]
            by_cases h : k < i
            · rw [if_pos h, hsz k h]; exact (Int32.add_zero _).symm
            · rw [if_neg h]
          have b3 : ∀ k, I' 19 k = if k < i then I 19 k + shF (I 16 0) all (wVF (en I b) (bit who) (bit free) (bit hic) (gv I 16) k) * swF (I 2) k else I 19 k := fun k => by
            rw [hF 19 (by decide)]
            by_cases h : k < i
            · rw [if_pos h, hsz k h, Int32.zero_mul]; exact (Int32.add_zero _).symm
            · rw [if_neg h]
          have b0 : I' 16 0 = sbF (I 16 0) (fun k => shF (I 16 0) all (wVF (en I b) (bit who) (bit free) (bit hic) (gv I 16) k)) i := by
            rw [hF 16 (by decide)]
            have key : ∀ n, n ≤ i → sbF (I 16 0) (fun k => shF (I 16 0) all (wVF (en I b) (bit who) (bit free) (bit hic) (gv I 16) k)) n = I 16 0 := by
              intro n
              induction n with
              | zero => intro _; rfl
              | succ n ihn => intro hn; show sbF _ _ n - shF _ _ _ = _; rw [ihn (by omega), hsz n (by omega)]; exact Int32.sub_zero _
            exact (key i (Nat.le_refl _)).symm
          have b1 : I' 17 = I' 17 := rfl
          have b4 : I' 20 = I' 20 := rfl
          have bt : ∀ k, 1 ≤ k → I' 16 k = I 16 k := fun k _ => by rw [hF 16 (by decide)]
          have ee : en I' b = en I b := e2
          obtain ⟨m0, m1, m2, mF⟩ := q_122_3
          rw [ee, b0, bt 1 (by omega)] at m0 m1
          rw [ga] at m0 m1 b2 b3
          refine rv C Z dX1_pass_135 ⟨?_, ?_, ?_, ?_⟩
          · show (u2 I_122_3 16 2 _ 16 0, u2 I_122_3 16 2 _ 16 1, u2 I_122_3 16 2 _ 16 2, u2 I_122_3 16 2 _ 17, u2 I_122_3 16 2 _ 18, u2 I_122_3 16 2 _ 19, u2 I_122_3 16 2 _ 20) = _
            rw [u2_ne _ _ _ _ (Or.inr (by decide)), u2_ne _ _ _ _ (Or.inr (by decide)), u2_same, u2_row (t' := 17) (by decide), u2_row (t' := 18) (by decide), u2_row (t' := 19) (by decide), u2_row (t' := 20) (by decide), m0, m1, m2 2 (by omega), bt 2 (by omega), mF 17 (by decide), mF 18 (by decide), mF 19 (by decide), mF 20 (by decide), b1, b4]
            unfold secF
            have hs1 : (en I b).1 = i := hes
            rw [hs1]
            refine Prod.ext rfl (Prod.ext rfl (Prod.ext rfl (Prod.ext ?_ (Prod.ext ?_ (Prod.ext ?_ ?_)))))
            · funext k; exact g1 k
            · funext k; exact b2 k
            · funext k; exact b3 k
            · funext k; exact g4 k
          · rw [u2_ne _ _ _ _ (Or.inr (by decide)), m2 3 (by omega), bt 3 (by omega)]
          · rw [u2_ne _ _ _ _ (Or.inr (by decide)), m2 4 (by omega), bt 4 (by omega)]
          · exact (hF2.tr mF (by decide) (by decide)).st (by decide)
        · refine r_aload_n C dX1_pass_115 rfl ?_
          refine r_iload C dX1_pass_116 rfl ?_
          refine cV (ci := 1) C hx (sX1_share_16 (d := d - 1) (by omega) i all I' J b (by rw [r1]; exact hs) (by omega) (by assumption)) moX1_share mlX1_68 miX1_share msX1_share dX1_pass_118 rfl rfl rfl rfl rfl (by omega) rfl rfl (kv (fun I_118_4 q_118_4 => ?_))
          refine r_aload_n C dX1_pass_121 rfl ?_
          refine cV (ci := 1) C hx (sX1_melt_16 (d := d - 1) (by omega) I_118_4 J b) moX1_melt mlX1_72 miX1_melt msX1_melt dX1_pass_122 rfl rfl rfl rfl rfl (by omega) rfl rfl (kv (fun I_122_5 q_122_5 => ?_))
          refine r_aload_n C dX1_pass_125 rfl ?_
          refine r_dup C dX1_pass_126 rfl ?_
          refine r_getI C flX1_52 dX1_pass_127 rfl rfl ?_
          refine r_iconst C (v := 1) dX1_pass_130 (by decide) ?_
          refine r_iadd C dX1_pass_131 ?_
          refine r_putI C flX1_52 dX1_pass_132 rfl rfl rfl rfl rfl ?_
          obtain ⟨a2, a3, a0, a1, aF⟩ := q_118_4
          have hF2 : Fr [16, 17, 18, 19, 20, 21, 14, 15] I I_118_4 := hF.tr aF (by decide) (by decide)
          have b2 : ∀ k, I_118_4 18 k = if k < i then I 18 k + shF (I 16 0) all (wVF (en I b) (bit who) (bit free) (bit hic) (gv I 16) k) else I 18 k := fun k => by
            rw [a2, hF 18 (by decide), hF 16 (by decide)]
            by_cases h : k < i
            · rw [if_pos h, if_pos h, g5 k h]
            · rw [if_neg h, if_neg h]
          have b3 : ∀ k, I_118_4 19 k = if k < i then I 19 k + shF (I 16 0) all (wVF (en I b) (bit who) (bit free) (bit hic) (gv I 16) k) * swF (I 2) k else I 19 k := fun k => by
            rw [a3, hF 19 (by decide), hF 16 (by decide), hF 2 (by decide)]
            by_cases h : k < i
            · rw [if_pos h, if_pos h, g5 k h]
            · rw [if_neg h, if_neg h]
          have sbc : ∀ (f h : Nat → Int32) (l : Int32) (n : Nat), (∀ k, k < n → f k = h k) → sbF l f n = sbF l h n := fun f h l n => by
            induction n with
            | zero => intro _; rfl
            | succ n ihn => intro hh; show sbF l f n - f n = sbF l h n - h n; rw [ihn (fun k hk => hh k (by omega)), hh n (by omega)]
          have b0 : I_118_4 16 0 = sbF (I 16 0) (fun k => shF (I 16 0) all (wVF (en I b) (bit who) (bit free) (bit hic) (gv I 16) k)) i := by
            rw [a0, hF 16 (by decide)]
            exact sbc _ _ _ _ (fun k hk => by rw [g5 k hk])
          have b1 : I_118_4 17 = I' 17 := aF 17 (by decide)
          have b4 : I_118_4 20 = I' 20 := aF 20 (by decide)
          have bt : ∀ k, 1 ≤ k → I_118_4 16 k = I 16 k := fun k hk => by rw [a1 k hk, hF 16 (by decide)]
          have ee : en I_118_4 b = en I b := (en_rows (fun c hc => hF2 c (by revert hc; revert c; decide)))
          obtain ⟨m0, m1, m2, mF⟩ := q_122_5
          rw [ee, b0, bt 1 (by omega)] at m0 m1
          rw [ga] at m0 m1 b2 b3
          refine rv C Z dX1_pass_135 ⟨?_, ?_, ?_, ?_⟩
          · show (u2 I_122_5 16 2 _ 16 0, u2 I_122_5 16 2 _ 16 1, u2 I_122_5 16 2 _ 16 2, u2 I_122_5 16 2 _ 17, u2 I_122_5 16 2 _ 18, u2 I_122_5 16 2 _ 19, u2 I_122_5 16 2 _ 20) = _
            rw [u2_ne _ _ _ _ (Or.inr (by decide)), u2_ne _ _ _ _ (Or.inr (by decide)), u2_same, u2_row (t' := 17) (by decide), u2_row (t' := 18) (by decide), u2_row (t' := 19) (by decide), u2_row (t' := 20) (by decide), m0, m1, m2 2 (by omega), bt 2 (by omega), mF 17 (by decide), mF 18 (by decide), mF 19 (by decide), mF 20 (by decide), b1, b4]
            unfold secF
            have hs1 : (en I b).1 = i := hes
            rw [hs1]
            refine Prod.ext rfl (Prod.ext rfl (Prod.ext rfl (Prod.ext ?_ (Prod.ext ?_ (Prod.ext ?_ ?_)))))
            · funext k; exact g1 k
            · funext k; exact b2 k
            · funext k; exact b3 k
            · funext k; exact g4 k
          · rw [u2_ne _ _ _ _ (Or.inr (by decide)), m2 3 (by omega), bt 3 (by omega)]
          · rw [u2_ne _ _ _ _ (Or.inr (by decide)), m2 4 (by omega), bt 4 (by omega)]
          · exact (hF2.tr mF (by decide) (by decide)).st (by decide)
      · exfalso; rw [r1] at *; have := nIint (j := i) (by omega); omega
    | succ m ih =>
      intro i all x6 I' hm g1 g4 g5 ga hF
      have r1 : I' 1 = I 1 := hF 1 (by decide)
      have hi3 : i < 3 := by omega
      have his : i < s := by omega
      have ii : ix (nI i) = i := nIix (by omega)
      have ini : (nI i).toInt = (i : Int) := nIint (by omega)
      obtain ⟨I2, hI2⟩ : ∃ z, z = u2 I' 21 i 0 := ⟨_, rfl⟩
      have hF2 : Fr [17, 20, 21, 14, 15] I I2 := by rw [hI2]; exact hF.st (by decide)
      have q2 : I2 2 = I 2 := hF2 2 (by decide)
      have qt : I2 16 = I 16 := hF2 16 (by decide)
      have qe : en I2 b = en I b := en_rows (fun c hc => hF2 c (by revert hc; revert c; decide))
      have q1 : ∀ k, I2 17 k = if k < i ∧ pdF (en I b) (bit who) (bit free) (gv I 16) k = true then I 17 k + 1 else I 17 k := fun k => by rw [hI2, u2_ne _ _ _ _ (Or.inl (by decide))]; exact g1 k
      have q4 : ∀ k, I2 20 k = if k < i ∧ pdF (en I b) (bit who) (bit free) (gv I 16) k = true ∧ bit hic k = false ∧ (I 16 0 - I 2 (8 * k + 2)).toInt ≤ 0 then I 20 k + 1 else I 20 k := fun k => by rw [hI2, u2_ne _ _ _ _ (Or.inl (by decide))]; exact g4 k
      have q5 : ∀ k, k < i → I2 21 k = wVF (en I b) (bit who) (bit free) (bit hic) (gv I 16) k := fun k hk => by rw [hI2, u2_ne _ _ _ _ (Or.inr (by omega))]; exact g5 k hk
      have q50 : I2 21 i = 0 := by rw [hI2, u2_same]
      have hTW2 : TW I2 b := TW_rows (fun c hc => hF2 c (by revert hc; revert c; decide)) hTW
      have none_ : ∀ (x6 : Option Value), pdF (en I b) (bit who) (bit free) (gv I 16) i = false → Aw X 104 [some (.ref 16), some (.int who), some (.int free), some (.int hic), some (.int all), some (.int (nI i)), x6] [] (st9 I2 J b) := by
        intro x6 hp
        refine r_iinc C (v := 1) dX1_pass_104 rfl (by decide) rfl ?_
        refine r_goto C (tgt := 6) dX1_pass_107 rfl ?_
        rw [nI_s]
        refine ih (i + 1) all x6 I2 (by omega) (fun k => ?_) (fun k => ?_) (fun k hk => ?_) ?_ hF2
        · rw [q1]
          by_cases e : k = i
          · subst e; rw [if_neg (fun z => Nat.lt_irrefl _ z.1), if_neg (fun z => by rw [hp] at z; exact absurd z.2 (by decide))]
          · by_cases h : k < i ∧ pdF (en I b) (bit who) (bit free) (gv I 16) k = true
            · rw [if_pos h, if_pos ⟨by omega, h.2⟩]
            · rw [if_neg h, if_neg (fun z => h ⟨by omega, z.2⟩)]
        · rw [q4]
          by_cases e : k = i
          · subst e; rw [if_neg (fun z => Nat.lt_irrefl _ z.1), if_neg (fun z => by rw [hp] at z; exact absurd z.2.1 (by decide))]
          · by_cases h : k < i ∧ pdF (en I b) (bit who) (bit free) (gv I 16) k = true ∧ bit hic k = false ∧ (I 16 0 - I 2 (8 * k + 2)).toInt ≤ 0
            · rw [if_pos h, if_pos ⟨by omega, h.2⟩]
            · rw [if_neg h, if_neg (fun z => h ⟨by omega, z.2⟩)]
        · by_cases e : k = i
          · subst e; rw [q50, wVF_f hp]
          · exact q5 k (by omega)
        · show all = smF _ i + wVF _ _ _ _ _ i
          rw [wVF_f hp, ← ga]; exact (Int32.add_zero _).symm
      have some_ : ∀ (x6 : Option Value) (v : Int32) (I3 : Is), pdF (en I b) (bit who) (bit free) (gv I 16) i = true → v = trF (en I2 b) (bit hic i) (I2 16 0) (I2 17 i) i → (∀ k, I3 17 k = if k = i then I2 17 k + 1 else I2 17 k) → (∀ k, I3 20 k = if k = i ∧ bit hic i = false ∧ (I2 16 0 - I2 2 (8 * i + 2)).toInt ≤ 0 then I2 20 k + 1 else I2 20 k) → Fr [17, 20, 14, 15] I2 I3 →
          Aw X 104 [some (.ref 16), some (.int who), some (.int free), some (.int hic), some (.int (all + v)), some (.int (nI i)), x6] [] (st9 (u2 I3 21 i v) J b) := by
        intro x6 v I3 hp hv h1 h4 hF3
        have hv2 : v = wVF (en I b) (bit who) (bit free) (bit hic) (gv I 16) i := by
          rw [wVF_t hp, hv, qe, qt, q1, if_neg (fun z => Nat.lt_irrefl _ z.1)]
          rfl
        refine r_iinc C (v := 1) dX1_pass_104 rfl (by decide) rfl ?_
        refine r_goto C (tgt := 6) dX1_pass_107 rfl ?_
        rw [nI_s]
        refine ih (i + 1) (all + v) x6 (u2 I3 21 i v) (by omega) (fun k => ?_) (fun k => ?_) (fun k hk => ?_) ?_ ((hF2.tr hF3 (by decide) (by decide)).st (by decide))
        · rw [u2_ne _ _ _ _ (Or.inl (by decide)), h1]
          by_cases e : k = i
          · subst e; rw [if_pos rfl, q1, if_neg (fun z => Nat.lt_irrefl _ z.1), if_pos ⟨Nat.lt_succ_self _, hp⟩]
          · rw [if_neg e, q1]
            by_cases h : k < i ∧ pdF (en I b) (bit who) (bit free) (gv I 16) k = true
            · rw [if_pos h, if_pos ⟨by omega, h.2⟩]
            · rw [if_neg h, if_neg (fun z => h ⟨by omega, z.2⟩)]
        · rw [u2_ne _ _ _ _ (Or.inl (by decide)), h4]
          by_cases e : k = i
          · subst e
            rw [q4, if_neg (c := k < k ∧ _) (fun z => Nat.lt_irrefl _ z.1), qt, q2]
            by_cases h : bit hic k = false ∧ (I 16 0 - I 2 (8 * k + 2)).toInt ≤ 0
            · rw [if_pos ⟨rfl, h⟩, if_pos ⟨Nat.lt_succ_self _, hp, h⟩]
            · rw [if_neg (fun z => h z.2), if_neg (fun z => h z.2.2)]
          · rw [if_neg (fun z => e z.1), q4]
            by_cases h : k < i ∧ pdF (en I b) (bit who) (bit free) (gv I 16) k = true ∧ bit hic k = false ∧ (I 16 0 - I 2 (8 * k + 2)).toInt ≤ 0
            · rw [if_pos h, if_pos ⟨by omega, h.2⟩]
            · rw [if_neg h, if_neg (fun z => h ⟨by omega, z.2⟩)]
        · by_cases e : k = i
          · subst e; rw [u2_same, hv2]
          · rw [u2_ne _ _ _ _ (Or.inr e), hF3 21 (by decide)]; exact q5 k (by omega)
        · show all + v = smF _ i + wVF _ _ _ _ _ i
          rw [← ga, ← hv2]
      refine r_iload C dX1_pass_6 rfl ?_
      refine r_aload_n C dX1_pass_8 rfl ?_
      refine r_getR C flX1_31 dX1_pass_9 rfl rfl rfl ?_
      refine r_getI C flX1_55 dX1_pass_12 rfl rfl ?_
      refine b_icge C (tgt := 110) rfl rfl dX1_pass_15 rfl (fun h15_1 => ?_) (fun h15_1 => ?_)
      · exfalso; rw [r1] at *; omega
      · refine r_iconst C (v := 1) dX1_pass_18 (by decide) ?_
        refine r_iload C dX1_pass_19 rfl ?_
        refine r_ishl C dX1_pass_21 ?_
        refine r_istore C dX1_pass_22 rfl rfl ?_
        refine r_aload_n C dX1_pass_24 rfl ?_
        refine r_getR C flX1_28 dX1_pass_25 rfl rfl rfl ?_
        refine r_iload C dX1_pass_28 rfl ?_
        refine r_iconst C (v := 0) dX1_pass_30 (by decide) ?_
        refine r_iast C rfl dX1_pass_31 (nIin hi3 (by decide)) ?_
        rw [ii, ← hI2]
        refine r_iload_n C dX1_pass_32 rfl ?_
        refine r_iload C dX1_pass_33 rfl ?_
        refine r_iand C dX1_pass_35 ?_
        refine r_ifeq C (tgt := 104) dX1_pass_36 rfl (fun h36_2 => ?_) (fun h36_2 => ?_)
        · exact none_ _ (by unfold pdF; rw [bit_f (by assumption)]; rfl)
        · refine r_aload_n C dX1_pass_39 rfl ?_
          refine r_getR C flX1_31 dX1_pass_40 rfl rfl rfl ?_
          refine r_iload C dX1_pass_43 rfl ?_
          refine r_aload_n C dX1_pass_45 rfl ?_
          refine r_getI C flX1_52 dX1_pass_46 rfl rfl ?_
          refine r_iload_n C dX1_pass_49 rfl ?_
          refine r_iload C dX1_pass_50 rfl ?_
          refine r_iand C dX1_pass_52 ?_
          refine r_ifeq C (tgt := 60) dX1_pass_53 rfl (fun h53_3 => ?_) (fun h53_3 => ?_)
          · refine r_iconst C (v := 0) dX1_pass_60 (by decide) ?_
            refine cV (ci := 3) C hx (sX3_isDrawing (d := d - 1) (by omega) i hi3 _ _ I2 J b (by rw [q2]; exact hE4 i his) (by rw [q2]; exact hE5 i his)) moX3_isDrawing mlX1_60 miX3_isDrawing msX3_isDrawing dX1_pass_61 rfl rfl rfl rfl rfl (by omega) rfl rfl (kp ?_)
            refine z_ifeq C (tgt := 104) dX1_pass_64 rfl (fun h64_5 => ?_) (fun h64_5 => ?_)
            · have hP := h64_5
              rw [q2, qt] at hP
              refine none_ _ ?_
              unfold pdF
              rw [bit_t (by assumption), Bool.true_and]
              refine decide_eq_false (fun z => hP ⟨?_, z.2⟩)
              rcases z.1 with z1 | z1
              · rw [bit_f ‹free &&& 1 <<< (nI i &&& 31) = 0›] at z1; exact absurd z1 (by decide)
              · exact Or.inr z1
            · refine r_aload_n C dX1_pass_67 rfl ?_
              refine r_getR C flX1_28 dX1_pass_68 rfl rfl rfl ?_
              refine r_iload C dX1_pass_71 rfl ?_
              refine r_aload_n C dX1_pass_73 rfl ?_
              refine r_iload C dX1_pass_74 rfl ?_
              refine r_iload_n C dX1_pass_76 rfl ?_
              refine r_iload C dX1_pass_77 rfl ?_
              refine r_iand C dX1_pass_79 ?_
              refine r_ifeq C (tgt := 87) dX1_pass_80 rfl (fun h80_6 => ?_) (fun h80_6 => ?_)
              · refine r_iconst C (v := 0) dX1_pass_87 (by decide) ?_
                refine cV (ci := 1) C hx (sX1_tries_16 (d := d - 1) (by omega) i hi3 _ I2 J b (by rw [q2]; exact hTI i his) hTW2) moX1_tries mlX1_64 miX1_tries msX1_tries dX1_pass_88 rfl rfl rfl rfl rfl (by omega) rfl rfl (ki (fun v_88_7 I_88_7 q_88_7 => ?_))
                refine r_iast C rfl dX1_pass_91 (nIin hi3 (by decide)) ?_
                rw [ii]
                refine r_iload C dX1_pass_92 rfl ?_
                refine r_aload_n C dX1_pass_94 rfl ?_
                refine r_getR C flX1_28 dX1_pass_95 rfl rfl rfl ?_
                refine r_iload C dX1_pass_98 rfl ?_
                refine r_iald C rfl dX1_pass_100 (nIin hi3 (by decide)) ?_
                rw [ii]
                refine r_iadd C dX1_pass_101 ?_
                refine r_istore C dX1_pass_102 rfl rfl ?_
                have hP := h64_5
                rw [q2, qt] at hP
                have hp : pdF (en I b) (bit who) (bit free) (gv I 16) i = true := by
                  unfold pdF
                  rw [bit_t ‹¬ who &&& 1 <<< (nI i &&& 31) = 0›, Bool.true_and]
                  refine decide_eq_true ⟨?_, hP.2⟩
                  exact Or.inr (hP.1.elim (fun z => absurd rfl z) id)
                have hbh : bit hic i = false := bit_f ‹hic &&& 1 <<< (nI i &&& 31) = 0›
                rw [u2_same]
                exact some_ _ _ _ hp (by rw [hbh]; exact q_88_7.1) q_88_7.2.1 (fun k => (q_88_7.2.2.1 k).trans (by rw [hbh]; simp)) q_88_7.2.2.2
              · refine r_iconst C (v := 1) dX1_pass_83 (by decide) ?_
                refine r_goto C (tgt := 88) dX1_pass_84 rfl ?_
                refine cV (ci := 1) C hx (sX1_tries_16 (d := d - 1) (by omega) i hi3 _ I2 J b (by rw [q2]; exact hTI i his) hTW2) moX1_tries mlX1_64 miX1_tries msX1_tries dX1_pass_88 rfl rfl rfl rfl rfl (by omega) rfl rfl (ki (fun v_88_8 I_88_8 q_88_8 => ?_))
                refine r_iast C rfl dX1_pass_91 (nIin hi3 (by decide)) ?_
                rw [ii]
                refine r_iload C dX1_pass_92 rfl ?_
                refine r_aload_n C dX1_pass_94 rfl ?_
                refine r_getR C flX1_28 dX1_pass_95 rfl rfl rfl ?_
                refine r_iload C dX1_pass_98 rfl ?_
                refine r_iald C rfl dX1_pass_100 (nIin hi3 (by decide)) ?_
                rw [ii]
                refine r_iadd C dX1_pass_101 ?_
                refine r_istore C dX1_pass_102 rfl rfl ?_
                have hP := h64_5
                rw [q2, qt] at hP
                have hp : pdF (en I b) (bit who) (bit free) (gv I 16) i = true := by
                  unfold pdF
                  rw [bit_t ‹¬ who &&& 1 <<< (nI i &&& 31) = 0›, Bool.true_and]
                  refine decide_eq_true ⟨?_, hP.2⟩
                  exact Or.inr (hP.1.elim (fun z => absurd rfl z) id)
                have hbh : bit hic i = true := bit_t ‹¬ hic &&& 1 <<< (nI i &&& 31) = 0›
                rw [u2_same]
                exact some_ _ _ _ hp (by rw [hbh]; exact q_88_8.1) q_88_8.2.1 (fun k => (q_88_8.2.2.1 k).trans (by rw [hbh]; rw [if_neg (fun z => absurd z.2.1 (by decide)), if_neg (fun z => absurd z.2.1 (by decide))])) q_88_8.2.2.2
          · refine r_iconst C (v := 1) dX1_pass_56 (by decide) ?_
            refine r_goto C (tgt := 61) dX1_pass_57 rfl ?_
            refine cV (ci := 3) C hx (sX3_isDrawing (d := d - 1) (by omega) i hi3 _ _ I2 J b (by rw [q2]; exact hE4 i his) (by rw [q2]; exact hE5 i his)) moX3_isDrawing mlX1_60 miX3_isDrawing msX3_isDrawing dX1_pass_61 rfl rfl rfl rfl rfl (by omega) rfl rfl (kp ?_)
            refine z_ifeq C (tgt := 104) dX1_pass_64 rfl (fun h64_10 => ?_) (fun h64_10 => ?_)
            · have hP := h64_10
              rw [q2, qt] at hP
              refine none_ _ ?_
              unfold pdF
              rw [bit_t (by assumption), Bool.true_and]
              refine decide_eq_false (fun z => hP ⟨?_, z.2⟩)
              exact Or.inl (by decide)
            · refine r_aload_n C dX1_pass_67 rfl ?_
              refine r_getR C flX1_28 dX1_pass_68 rfl rfl rfl ?_
              refine r_iload C dX1_pass_71 rfl ?_
              refine r_aload_n C dX1_pass_73 rfl ?_
              refine r_iload C dX1_pass_74 rfl ?_
              refine r_iload_n C dX1_pass_76 rfl ?_
              refine r_iload C dX1_pass_77 rfl ?_
              refine r_iand C dX1_pass_79 ?_
              refine r_ifeq C (tgt := 87) dX1_pass_80 rfl (fun h80_11 => ?_) (fun h80_11 => ?_)
              · refine r_iconst C (v := 0) dX1_pass_87 (by decide) ?_
                refine cV (ci := 1) C hx (sX1_tries_16 (d := d - 1) (by omega) i hi3 _ I2 J b (by rw [q2]; exact hTI i his) hTW2) moX1_tries mlX1_64 miX1_tries msX1_tries dX1_pass_88 rfl rfl rfl rfl rfl (by omega) rfl rfl (ki (fun v_88_12 I_88_12 q_88_12 => ?_))
                refine r_iast C rfl dX1_pass_91 (nIin hi3 (by decide)) ?_
                rw [ii]
                refine r_iload C dX1_pass_92 rfl ?_
                refine r_aload_n C dX1_pass_94 rfl ?_
                refine r_getR C flX1_28 dX1_pass_95 rfl rfl rfl ?_
                refine r_iload C dX1_pass_98 rfl ?_
                refine r_iald C rfl dX1_pass_100 (nIin hi3 (by decide)) ?_
                rw [ii]
                refine r_iadd C dX1_pass_101 ?_
                refine r_istore C dX1_pass_102 rfl rfl ?_
                have hP := h64_10
                rw [q2, qt] at hP
                have hp : pdF (en I b) (bit who) (bit free) (gv I 16) i = true := by
                  unfold pdF
                  rw [bit_t ‹¬ who &&& 1 <<< (nI i &&& 31) = 0›, Bool.true_and]
                  refine decide_eq_true ⟨?_, hP.2⟩
                  exact Or.inl (bit_t ‹¬ free &&& 1 <<< (nI i &&& 31) = 0›)
                have hbh : bit hic i = false := bit_f ‹hic &&& 1 <<< (nI i &&& 31) = 0›
                rw [u2_same]
                exact some_ _ _ _ hp (by rw [hbh]; exact q_88_12.1) q_88_12.2.1 (fun k => (q_88_12.2.2.1 k).trans (by rw [hbh]; simp)) q_88_12.2.2.2
              · refine r_iconst C (v := 1) dX1_pass_83 (by decide) ?_
                refine r_goto C (tgt := 88) dX1_pass_84 rfl ?_
                refine cV (ci := 1) C hx (sX1_tries_16 (d := d - 1) (by omega) i hi3 _ I2 J b (by rw [q2]; exact hTI i his) hTW2) moX1_tries mlX1_64 miX1_tries msX1_tries dX1_pass_88 rfl rfl rfl rfl rfl (by omega) rfl rfl (ki (fun v_88_13 I_88_13 q_88_13 => ?_))
                refine r_iast C rfl dX1_pass_91 (nIin hi3 (by decide)) ?_
                rw [ii]
                refine r_iload C dX1_pass_92 rfl ?_
                refine r_aload_n C dX1_pass_94 rfl ?_
                refine r_getR C flX1_28 dX1_pass_95 rfl rfl rfl ?_
                refine r_iload C dX1_pass_98 rfl ?_
                refine r_iald C rfl dX1_pass_100 (nIin hi3 (by decide)) ?_
                rw [ii]
                refine r_iadd C dX1_pass_101 ?_
                refine r_istore C dX1_pass_102 rfl rfl ?_
                have hP := h64_10
                rw [q2, qt] at hP
                have hp : pdF (en I b) (bit who) (bit free) (gv I 16) i = true := by
                  unfold pdF
                  rw [bit_t ‹¬ who &&& 1 <<< (nI i &&& 31) = 0›, Bool.true_and]
                  refine decide_eq_true ⟨?_, hP.2⟩
                  exact Or.inl (bit_t ‹¬ free &&& 1 <<< (nI i &&& 31) = 0›)
                have hbh : bit hic i = true := bit_t ‹¬ hic &&& 1 <<< (nI i &&& 31) = 0›
                rw [u2_same]
                exact some_ _ _ _ hp (by rw [hbh]; exact q_88_13.1) q_88_13.2.1 (fun k => (q_88_13.2.2.1 k).trans (by rw [hbh]; rw [if_neg (fun z => absurd z.2.1 (by decide)), if_neg (fun z => absurd z.2.1 (by decide))])) q_88_13.2.2.2
  refine r_iconst C (v := 0) dX1_pass_0 (by decide) ?_
  refine r_istore C dX1_pass_1 rfl rfl ?_
  refine r_iconst C (v := 0) dX1_pass_3 (by decide) ?_
  refine r_istore C dX1_pass_4 rfl rfl ?_
  exact loop s 0 0 none I (by omega) (fun k => by rw [if_neg (fun z => Nat.not_lt_zero k z.1)]) (fun k => by rw [if_neg (fun z => Nat.not_lt_zero k z.1)]) (fun k hk => absurd hk (Nat.not_lt_zero k)) rfl Fr.rf
set_option maxRecDepth 100000 in
set_option maxHeartbeats 800000 in
theorem sX1_pass_32 {g : Gb} {d : Nat} (hd : 6 ≤ d) (who free hic : Int32) (I : Is) (J : Js) (b : Bool) (hNW : NW (I 1 1) (I 2)) (hTW : TW I b) (hl0 : 0 ≤ (I 32 0).toInt) (hl9 : (I 32 0).toInt ≤ 999) (hwn : ∀ k : Nat, (k : Int) < (I 1 1).toInt → 0 ≤ (wVF (en I b) (bit who) (bit free) (bit hic) (gv I 32) k).toInt ∧ (wVF (en I b) (bit who) (bit free) (bit hic) (gv I 32) k).toInt ≤ 999) : MC9 g d mX1_pass [.ref 32, .int who, .int free, .int hic] I J b (Qv J b (fun I' =>
    gv I' 32 = secF (en I b) (bit who) (bit free) (bit hic) (gv I 32) ∧ I' 32 3 = I 32 3 ∧ I' 32 4 = I 32 4 ∧ Fr [32, 33, 34, 35, 36, 37, 14, 15] I I')) := by
  refine ent9 (own := RX1) rfl rfl rfl (fun X hg hx C Z => ?_)
  subst hg
  have oi := one_int
  obtain ⟨hs0, hs3, hstr, -⟩ := hNW
  obtain ⟨s, hs⟩ : ∃ s : Nat, (I 1 1).toInt = (s : Int) := ⟨(I 1 1).toInt.toNat, by omega⟩
  have hes : ix (I 1 1) = s := ix_of hs
  have hTI : ∀ k, k < s → 1 ≤ (I 2 (8 * k + 3)).toInt := fun k hk => (hstr k (by omega)).2.2.2.1.1
  have hE4 : ∀ k, k < s → 1 ≤ (I 2 (8 * k + 4)).toInt ∧ (I 2 (8 * k + 4)).toInt ≤ 60 := fun k hk => (hstr k (by omega)).2.2.2.2.1
  have hE5 : ∀ k, k < s → 0 ≤ (I 2 (8 * k + 5)).toInt ∧ (I 2 (8 * k + 5)).toInt ≤ 60 := fun k hk => (hstr k (by omega)).2.2.2.2.2.1
  clear hstr
  have loop : ∀ (m i : Nat) (all : Int32) (x6 : Option Value) (I' : Is), m + i = s → (∀ k, I' 33 k = if k < i ∧ pdF (en I b) (bit who) (bit free) (gv I 32) k = true then I 33 k + 1 else I 33 k) →
      (∀ k, I' 36 k = if k < i ∧ pdF (en I b) (bit who) (bit free) (gv I 32) k = true ∧ bit hic k = false ∧ (I 32 0 - I 2 (8 * k + 2)).toInt ≤ 0 then I 36 k + 1 else I 36 k) →
      (∀ k, k < i → I' 37 k = wVF (en I b) (bit who) (bit free) (bit hic) (gv I 32) k) → all = smF (wVF (en I b) (bit who) (bit free) (bit hic) (gv I 32)) i → Fr [33, 36, 37, 14, 15] I I' →
      Aw X 6 [some (.ref 32), some (.int who), some (.int free), some (.int hic), some (.int all), some (.int (nI i)), x6] [] (st9 I' J b) := by
    intro m
    induction m with
    | zero =>
      intro i all x6 I' hm g1 g4 g5 ga hF
      have r1 : I' 1 = I 1 := hF 1 (by decide)
      have hi : i = s := by omega
      subst hi
      have e2 : (en I' b) = en I b := en_rows (fun c hc => hF c (by revert hc; revert c; decide))
      refine r_iload C dX1_pass_6 rfl ?_
      refine r_aload_n C dX1_pass_8 rfl ?_
      refine r_getR C flX1_31 dX1_pass_9 rfl rfl rfl ?_
      refine r_getI C flX1_55 dX1_pass_12 rfl rfl ?_
      refine b_icge C (tgt := 110) rfl rfl dX1_pass_15 rfl (fun h15_1 => ?_) (fun h15_1 => ?_)
      · refine r_iload C dX1_pass_110 rfl ?_
        refine b_ifle C (tgt := 121) dX1_pass_112 rfl (fun h112_2 => ?_) (fun h112_2 => ?_)
        · refine r_aload_n C dX1_pass_121 rfl ?_
          refine cV (ci := 1) C hx (sX1_melt_32 (d := d - 1) (by omega) I' J b) moX1_melt mlX1_72 miX1_melt msX1_melt dX1_pass_122 rfl rfl rfl rfl rfl (by omega) rfl rfl (kv (fun I_122_3 q_122_3 => ?_))
          refine r_aload_n C dX1_pass_125 rfl ?_
          refine r_dup C dX1_pass_126 rfl ?_
          refine r_getI C flX1_52 dX1_pass_127 rfl rfl ?_
          refine r_iconst C (v := 1) dX1_pass_130 (by decide) ?_
          refine r_iadd C dX1_pass_131 ?_
          refine r_putI C flX1_52 dX1_pass_132 rfl rfl rfl rfl rfl ?_
          have hF2 : Fr [32, 33, 34, 35, 36, 37, 14, 15] I I' := hF.mo (by decide)
          have hz : ∀ k, k < i → wVF (en I b) (bit who) (bit free) (bit hic) (gv I 32) k = 0 := fun k hk => by
            have hh := smF_nn (f := wVF (en I b) (bit who) (bit free) (bit hic) (gv I 32)) (n := i) (by omega) (fun k hk => by have := hwn k (by omega); omega) i (Nat.le_refl _)
            have := hh.2.2 k hk
            have h0 := (hwn k (by omega)).1
            rw [ga] at *
            exact int0 (by omega)
          have hall : all.toInt = 0 := by
            have hh := smF_nn (f := wVF (en I b) (bit who) (bit free) (bit hic) (gv I 32)) (n := i) (by omega) (fun k hk => by have := hwn k (by omega); omega) i (Nat.le_refl _)
            rw [← ga] at hh
            omega
          have hsz : ∀ k, k < i → shF (I 32 0) all (wVF (en I b) (bit who) (bit free) (bit hic) (gv I 32) k) = 0 := fun k hk => by unfold shF; rw [if_neg (by omega), hz k hk]
          have b2 : ∀ k, I' 34 k = if k < i then I 34 k + shF (I 32 0) all (wVF (en I b) (bit who) (bit free) (bit hic) (gv I 32) k) else I 34 k := fun k => by
            rw [hF 34 (by decide)]
            by_cases h : k < i
            · rw [if_pos h, hsz k h]; exact (Int32.add_zero _).symm
            · rw [if_neg h]
          have b3 : ∀ k, I' 35 k = if k < i then I 35 k + shF (I 32 0) all (wVF (en I b) (bit who) (bit free) (bit hic) (gv I 32) k) * swF (I 2) k else I 35 k := fun k => by
            rw [hF 35 (by decide)]
            by_cases h : k < i
            · rw [if_pos h, hsz k h, Int32.zero_mul]; exact (Int32.add_zero _).symm
            · rw [if_neg h]
          have b0 : I' 32 0 = sbF (I 32 0) (fun k => shF (I 32 0) all (wVF (en I b) (bit who) (bit free) (bit hic) (gv I 32) k)) i := by
            rw [hF 32 (by decide)]
            have key : ∀ n, n ≤ i → sbF (I 32 0) (fun k => shF (I 32 0) all (wVF (en I b) (bit who) (bit free) (bit hic) (gv I 32) k)) n = I 32 0 := by
              intro n
              induction n with
              | zero => intro _; rfl
              | succ n ihn => intro hn; show sbF _ _ n - shF _ _ _ = _; rw [ihn (by omega), hsz n (by omega)]; exact Int32.sub_zero _
            exact (key i (Nat.le_refl _)).symm
          have b1 : I' 33 = I' 33 := rfl
          have b4 : I' 36 = I' 36 := rfl
          have bt : ∀ k, 1 ≤ k → I' 32 k = I 32 k := fun k _ => by rw [hF 32 (by decide)]
          have ee : en I' b = en I b := e2
          obtain ⟨m0, m1, m2, mF⟩ := q_122_3
          rw [ee, b0, bt 1 (by omega)] at m0 m1
          rw [ga] at m0 m1 b2 b3
          refine rv C Z dX1_pass_135 ⟨?_, ?_, ?_, ?_⟩
          · show (u2 I_122_3 32 2 _ 32 0, u2 I_122_3 32 2 _ 32 1, u2 I_122_3 32 2 _ 32 2, u2 I_122_3 32 2 _ 33, u2 I_122_3 32 2 _ 34, u2 I_122_3 32 2 _ 35, u2 I_122_3 32 2 _ 36) = _
            rw [u2_ne _ _ _ _ (Or.inr (by decide)), u2_ne _ _ _ _ (Or.inr (by decide)), u2_same, u2_row (t' := 33) (by decide), u2_row (t' := 34) (by decide), u2_row (t' := 35) (by decide), u2_row (t' := 36) (by decide), m0, m1, m2 2 (by omega), bt 2 (by omega), mF 33 (by decide), mF 34 (by decide), mF 35 (by decide), mF 36 (by decide), b1, b4]
            unfold secF
            have hs1 : (en I b).1 = i := hes
            rw [hs1]
            refine Prod.ext rfl (Prod.ext rfl (Prod.ext rfl (Prod.ext ?_ (Prod.ext ?_ (Prod.ext ?_ ?_)))))
            · funext k; exact g1 k
            · funext k; exact b2 k
            · funext k; exact b3 k
            · funext k; exact g4 k
          · rw [u2_ne _ _ _ _ (Or.inr (by decide)), m2 3 (by omega), bt 3 (by omega)]
          · rw [u2_ne _ _ _ _ (Or.inr (by decide)), m2 4 (by omega), bt 4 (by omega)]
          · exact (hF2.tr mF (by decide) (by decide)).st (by decide)
        · refine r_aload_n C dX1_pass_115 rfl ?_
          refine r_iload C dX1_pass_116 rfl ?_
          refine cV (ci := 1) C hx (sX1_share_32 (d := d - 1) (by omega) i all I' J b (by rw [r1]; exact hs) (by omega) (by assumption)) moX1_share mlX1_68 miX1_share msX1_share dX1_pass_118 rfl rfl rfl rfl rfl (by omega) rfl rfl (kv (fun I_118_4 q_118_4 => ?_))
          refine r_aload_n C dX1_pass_121 rfl ?_
          refine cV (ci := 1) C hx (sX1_melt_32 (d := d - 1) (by omega) I_118_4 J b) moX1_melt mlX1_72 miX1_melt msX1_melt dX1_pass_122 rfl rfl rfl rfl rfl (by omega) rfl rfl (kv (fun I_122_5 q_122_5 => ?_))
          refine r_aload_n C dX1_pass_125 rfl ?_
          refine r_dup C dX1_pass_126 rfl ?_
          refine r_getI C flX1_52 dX1_pass_127 rfl rfl ?_
          refine r_iconst C (v := 1) dX1_pass_130 (by decide) ?_
          refine r_iadd C dX1_pass_131 ?_
          refine r_putI C flX1_52 dX1_pass_132 rfl rfl rfl rfl rfl ?_
          obtain ⟨a2, a3, a0, a1, aF⟩ := q_118_4
          have hF2 : Fr [32, 33, 34, 35, 36, 37, 14, 15] I I_118_4 := hF.tr aF (by decide) (by decide)
          have b2 : ∀ k, I_118_4 34 k = if k < i then I 34 k + shF (I 32 0) all (wVF (en I b) (bit who) (bit free) (bit hic) (gv I 32) k) else I 34 k := fun k => by
            rw [a2, hF 34 (by decide), hF 32 (by decide)]
            by_cases h : k < i
            · rw [if_pos h, if_pos h, g5 k h]
            · rw [if_neg h, if_neg h]
          have b3 : ∀ k, I_118_4 35 k = if k < i then I 35 k + shF (I 32 0) all (wVF (en I b) (bit who) (bit free) (bit hic) (gv I 32) k) * swF (I 2) k else I 35 k := fun k => by
            rw [a3, hF 35 (by decide), hF 32 (by decide), hF 2 (by decide)]
            by_cases h : k < i
            · rw [if_pos h, if_pos h, g5 k h]
            · rw [if_neg h, if_neg h]
          have sbc : ∀ (f h : Nat → Int32) (l : Int32) (n : Nat), (∀ k, k < n → f k = h k) → sbF l f n = sbF l h n := fun f h l n => by
            induction n with
            | zero => intro _; rfl
            | succ n ihn => intro hh; show sbF l f n - f n = sbF l h n - h n; rw [ihn (fun k hk => hh k (by omega)), hh n (by omega)]
          have b0 : I_118_4 32 0 = sbF (I 32 0) (fun k => shF (I 32 0) all (wVF (en I b) (bit who) (bit free) (bit hic) (gv I 32) k)) i := by
            rw [a0, hF 32 (by decide)]
            exact sbc _ _ _ _ (fun k hk => by rw [g5 k hk])
          have b1 : I_118_4 33 = I' 33 := aF 33 (by decide)
          have b4 : I_118_4 36 = I' 36 := aF 36 (by decide)
          have bt : ∀ k, 1 ≤ k → I_118_4 32 k = I 32 k := fun k hk => by rw [a1 k hk, hF 32 (by decide)]
          have ee : en I_118_4 b = en I b := (en_rows (fun c hc => hF2 c (by revert hc; revert c; decide)))
          obtain ⟨m0, m1, m2, mF⟩ := q_122_5
          rw [ee, b0, bt 1 (by omega)] at m0 m1
          rw [ga] at m0 m1 b2 b3
          refine rv C Z dX1_pass_135 ⟨?_, ?_, ?_, ?_⟩
          · show (u2 I_122_5 32 2 _ 32 0, u2 I_122_5 32 2 _ 32 1, u2 I_122_5 32 2 _ 32 2, u2 I_122_5 32 2 _ 33, u2 I_122_5 32 2 _ 34, u2 I_122_5 32 2 _ 35, u2 I_122_5 32 2 _ 36) = _
            rw [u2_ne _ _ _ _ (Or.inr (by decide)), u2_ne _ _ _ _ (Or.inr (by decide)), u2_same, u2_row (t' := 33) (by decide), u2_row (t' := 34) (by decide), u2_row (t' := 35) (by decide), u2_row (t' := 36) (by decide), m0, m1, m2 2 (by omega), bt 2 (by omega), mF 33 (by decide), mF 34 (by decide), mF 35 (by decide), mF 36 (by decide), b1, b4]
            unfold secF
            have hs1 : (en I b).1 = i := hes
            rw [hs1]
            refine Prod.ext rfl (Prod.ext rfl (Prod.ext rfl (Prod.ext ?_ (Prod.ext ?_ (Prod.ext ?_ ?_)))))
            · funext k; exact g1 k
            · funext k; exact b2 k
            · funext k; exact b3 k
            · funext k; exact g4 k
          · rw [u2_ne _ _ _ _ (Or.inr (by decide)), m2 3 (by omega), bt 3 (by omega)]
          · rw [u2_ne _ _ _ _ (Or.inr (by decide)), m2 4 (by omega), bt 4 (by omega)]
          · exact (hF2.tr mF (by decide) (by decide)).st (by decide)
      · exfalso; rw [r1] at *; have := nIint (j := i) (by omega); omega
    | succ m ih =>
      intro i all x6 I' hm g1 g4 g5 ga hF
      have r1 : I' 1 = I 1 := hF 1 (by decide)
      have hi3 : i < 3 := by omega
      have his : i < s := by omega
      have ii : ix (nI i) = i := nIix (by omega)
      have ini : (nI i).toInt = (i : Int) := nIint (by omega)
      obtain ⟨I2, hI2⟩ : ∃ z, z = u2 I' 37 i 0 := ⟨_, rfl⟩
      have hF2 : Fr [33, 36, 37, 14, 15] I I2 := by rw [hI2]; exact hF.st (by decide)
      have q2 : I2 2 = I 2 := hF2 2 (by decide)
      have qt : I2 32 = I 32 := hF2 32 (by decide)
      have qe : en I2 b = en I b := en_rows (fun c hc => hF2 c (by revert hc; revert c; decide))
      have q1 : ∀ k, I2 33 k = if k < i ∧ pdF (en I b) (bit who) (bit free) (gv I 32) k = true then I 33 k + 1 else I 33 k := fun k => by rw [hI2, u2_ne _ _ _ _ (Or.inl (by decide))]; exact g1 k
      have q4 : ∀ k, I2 36 k = if k < i ∧ pdF (en I b) (bit who) (bit free) (gv I 32) k = true ∧ bit hic k = false ∧ (I 32 0 - I 2 (8 * k + 2)).toInt ≤ 0 then I 36 k + 1 else I 36 k := fun k => by rw [hI2, u2_ne _ _ _ _ (Or.inl (by decide))]; exact g4 k
      have q5 : ∀ k, k < i → I2 37 k = wVF (en I b) (bit who) (bit free) (bit hic) (gv I 32) k := fun k hk => by rw [hI2, u2_ne _ _ _ _ (Or.inr (by omega))]; exact g5 k hk
      have q50 : I2 37 i = 0 := by rw [hI2, u2_same]
      have hTW2 : TW I2 b := TW_rows (fun c hc => hF2 c (by revert hc; revert c; decide)) hTW
      have none_ : ∀ (x6 : Option Value), pdF (en I b) (bit who) (bit free) (gv I 32) i = false → Aw X 104 [some (.ref 32), some (.int who), some (.int free), some (.int hic), some (.int all), some (.int (nI i)), x6] [] (st9 I2 J b) := by
        intro x6 hp
        refine r_iinc C (v := 1) dX1_pass_104 rfl (by decide) rfl ?_
        refine r_goto C (tgt := 6) dX1_pass_107 rfl ?_
        rw [nI_s]
        refine ih (i + 1) all x6 I2 (by omega) (fun k => ?_) (fun k => ?_) (fun k hk => ?_) ?_ hF2
        · rw [q1]
          by_cases e : k = i
          · subst e; rw [if_neg (fun z => Nat.lt_irrefl _ z.1), if_neg (fun z => by rw [hp] at z; exact absurd z.2 (by decide))]
          · by_cases h : k < i ∧ pdF (en I b) (bit who) (bit free) (gv I 32) k = true
            · rw [if_pos h, if_pos ⟨by omega, h.2⟩]
            · rw [if_neg h, if_neg (fun z => h ⟨by omega, z.2⟩)]
        · rw [q4]
          by_cases e : k = i
          · subst e; rw [if_neg (fun z => Nat.lt_irrefl _ z.1), if_neg (fun z => by rw [hp] at z; exact absurd z.2.1 (by decide))]
          · by_cases h : k < i ∧ pdF (en I b) (bit who) (bit free) (gv I 32) k = true ∧ bit hic k = false ∧ (I 32 0 - I 2 (8 * k + 2)).toInt ≤ 0
            · rw [if_pos h, if_pos ⟨by omega, h.2⟩]
            · rw [if_neg h, if_neg (fun z => h ⟨by omega, z.2⟩)]
        · by_cases e : k = i
          · subst e; rw [q50, wVF_f hp]
          · exact q5 k (by omega)
        · show all = smF _ i + wVF _ _ _ _ _ i
          rw [wVF_f hp, ← ga]; exact (Int32.add_zero _).symm
      have some_ : ∀ (x6 : Option Value) (v : Int32) (I3 : Is), pdF (en I b) (bit who) (bit free) (gv I 32) i = true → v = trF (en I2 b) (bit hic i) (I2 32 0) (I2 33 i) i → (∀ k, I3 33 k = if k = i then I2 33 k + 1 else I2 33 k) → (∀ k, I3 36 k = if k = i ∧ bit hic i = false ∧ (I2 32 0 - I2 2 (8 * i + 2)).toInt ≤ 0 then I2 36 k + 1 else I2 36 k) → Fr [33, 36, 14, 15] I2 I3 →
          Aw X 104 [some (.ref 32), some (.int who), some (.int free), some (.int hic), some (.int (all + v)), some (.int (nI i)), x6] [] (st9 (u2 I3 37 i v) J b) := by
        intro x6 v I3 hp hv h1 h4 hF3
        have hv2 : v = wVF (en I b) (bit who) (bit free) (bit hic) (gv I 32) i := by
          rw [wVF_t hp, hv, qe, qt, q1, if_neg (fun z => Nat.lt_irrefl _ z.1)]
          rfl
        refine r_iinc C (v := 1) dX1_pass_104 rfl (by decide) rfl ?_
        refine r_goto C (tgt := 6) dX1_pass_107 rfl ?_
        rw [nI_s]
        refine ih (i + 1) (all + v) x6 (u2 I3 37 i v) (by omega) (fun k => ?_) (fun k => ?_) (fun k hk => ?_) ?_ ((hF2.tr hF3 (by decide) (by decide)).st (by decide))
        · rw [u2_ne _ _ _ _ (Or.inl (by decide)), h1]
          by_cases e : k = i
          · subst e; rw [if_pos rfl, q1, if_neg (fun z => Nat.lt_irrefl _ z.1), if_pos ⟨Nat.lt_succ_self _, hp⟩]
          · rw [if_neg e, q1]
            by_cases h : k < i ∧ pdF (en I b) (bit who) (bit free) (gv I 32) k = true
            · rw [if_pos h, if_pos ⟨by omega, h.2⟩]
            · rw [if_neg h, if_neg (fun z => h ⟨by omega, z.2⟩)]
        · rw [u2_ne _ _ _ _ (Or.inl (by decide)), h4]
          by_cases e : k = i
          · subst e
            rw [q4, if_neg (c := k < k ∧ _) (fun z => Nat.lt_irrefl _ z.1), qt, q2]
            by_cases h : bit hic k = false ∧ (I 32 0 - I 2 (8 * k + 2)).toInt ≤ 0
            · rw [if_pos ⟨rfl, h⟩, if_pos ⟨Nat.lt_succ_self _, hp, h⟩]
            · rw [if_neg (fun z => h z.2), if_neg (fun z => h z.2.2)]
          · rw [if_neg (fun z => e z.1), q4]
            by_cases h : k < i ∧ pdF (en I b) (bit who) (bit free) (gv I 32) k = true ∧ bit hic k = false ∧ (I 32 0 - I 2 (8 * k + 2)).toInt ≤ 0
            · rw [if_pos h, if_pos ⟨by omega, h.2⟩]
            · rw [if_neg h, if_neg (fun z => h ⟨by omega, z.2⟩)]
        · by_cases e : k = i
          · subst e; rw [u2_same, hv2]
          · rw [u2_ne _ _ _ _ (Or.inr e), hF3 37 (by decide)]; exact q5 k (by omega)
        · show all + v = smF _ i + wVF _ _ _ _ _ i
          rw [← ga, ← hv2]
      refine r_iload C dX1_pass_6 rfl ?_
      refine r_aload_n C dX1_pass_8 rfl ?_
      refine r_getR C flX1_31 dX1_pass_9 rfl rfl rfl ?_
      refine r_getI C flX1_55 dX1_pass_12 rfl rfl ?_
      refine b_icge C (tgt := 110) rfl rfl dX1_pass_15 rfl (fun h15_1 => ?_) (fun h15_1 => ?_)
      · exfalso; rw [r1] at *; omega
      · refine r_iconst C (v := 1) dX1_pass_18 (by decide) ?_
        refine r_iload C dX1_pass_19 rfl ?_
        refine r_ishl C dX1_pass_21 ?_
        refine r_istore C dX1_pass_22 rfl rfl ?_
        refine r_aload_n C dX1_pass_24 rfl ?_
        refine r_getR C flX1_28 dX1_pass_25 rfl rfl rfl ?_
        refine r_iload C dX1_pass_28 rfl ?_
        refine r_iconst C (v := 0) dX1_pass_30 (by decide) ?_
        refine r_iast C rfl dX1_pass_31 (nIin hi3 (by decide)) ?_
        rw [ii, ← hI2]
        refine r_iload_n C dX1_pass_32 rfl ?_
        refine r_iload C dX1_pass_33 rfl ?_
        refine r_iand C dX1_pass_35 ?_
        refine r_ifeq C (tgt := 104) dX1_pass_36 rfl (fun h36_2 => ?_) (fun h36_2 => ?_)
        · exact none_ _ (by unfold pdF; rw [bit_f (by assumption)]; rfl)
        · refine r_aload_n C dX1_pass_39 rfl ?_
          refine r_getR C flX1_31 dX1_pass_40 rfl rfl rfl ?_
          refine r_iload C dX1_pass_43 rfl ?_
          refine r_aload_n C dX1_pass_45 rfl ?_
          refine r_getI C flX1_52 dX1_pass_46 rfl rfl ?_
          refine r_iload_n C dX1_pass_49 rfl ?_
          refine r_iload C dX1_pass_50 rfl ?_
          refine r_iand C dX1_pass_52 ?_
          refine r_ifeq C (tgt := 60) dX1_pass_53 rfl (fun h53_3 => ?_) (fun h53_3 => ?_)
          · refine r_iconst C (v := 0) dX1_pass_60 (by decide) ?_
            refine cV (ci := 3) C hx (sX3_isDrawing (d := d - 1) (by omega) i hi3 _ _ I2 J b (by rw [q2]; exact hE4 i his) (by rw [q2]; exact hE5 i his)) moX3_isDrawing mlX1_60 miX3_isDrawing msX3_isDrawing dX1_pass_61 rfl rfl rfl rfl rfl (by omega) rfl rfl (kp ?_)
            refine z_ifeq C (tgt := 104) dX1_pass_64 rfl (fun h64_5 => ?_) (fun h64_5 => ?_)
            · have hP := h64_5
              rw [q2, qt] at hP
              refine none_ _ ?_
              unfold pdF
              rw [bit_t (by assumption), Bool.true_and]
              refine decide_eq_false (fun z => hP ⟨?_, z.2⟩)
              rcases z.1 with z1 | z1
              · rw [bit_f ‹free &&& 1 <<< (nI i &&& 31) = 0›] at z1; exact absurd z1 (by decide)
              · exact Or.inr z1
            · refine r_aload_n C dX1_pass_67 rfl ?_
              refine r_getR C flX1_28 dX1_pass_68 rfl rfl rfl ?_
              refine r_iload C dX1_pass_71 rfl ?_
              refine r_aload_n C dX1_pass_73 rfl ?_
              refine r_iload C dX1_pass_74 rfl ?_
              refine r_iload_n C dX1_pass_76 rfl ?_
              refine r_iload C dX1_pass_77 rfl ?_
              refine r_iand C dX1_pass_79 ?_
              refine r_ifeq C (tgt := 87) dX1_pass_80 rfl (fun h80_6 => ?_) (fun h80_6 => ?_)
              · refine r_iconst C (v := 0) dX1_pass_87 (by decide) ?_
                refine cV (ci := 1) C hx (sX1_tries_32 (d := d - 1) (by omega) i hi3 _ I2 J b (by rw [q2]; exact hTI i his) hTW2) moX1_tries mlX1_64 miX1_tries msX1_tries dX1_pass_88 rfl rfl rfl rfl rfl (by omega) rfl rfl (ki (fun v_88_7 I_88_7 q_88_7 => ?_))
                refine r_iast C rfl dX1_pass_91 (nIin hi3 (by decide)) ?_
                rw [ii]
                refine r_iload C dX1_pass_92 rfl ?_
                refine r_aload_n C dX1_pass_94 rfl ?_
                refine r_getR C flX1_28 dX1_pass_95 rfl rfl rfl ?_
                refine r_iload C dX1_pass_98 rfl ?_
                refine r_iald C rfl dX1_pass_100 (nIin hi3 (by decide)) ?_
                rw [ii]
                refine r_iadd C dX1_pass_101 ?_
                refine r_istore C dX1_pass_102 rfl rfl ?_
                have hP := h64_5
                rw [q2, qt] at hP
                have hp : pdF (en I b) (bit who) (bit free) (gv I 32) i = true := by
                  unfold pdF
                  rw [bit_t ‹¬ who &&& 1 <<< (nI i &&& 31) = 0›, Bool.true_and]
                  refine decide_eq_true ⟨?_, hP.2⟩
                  exact Or.inr (hP.1.elim (fun z => absurd rfl z) id)
                have hbh : bit hic i = false := bit_f ‹hic &&& 1 <<< (nI i &&& 31) = 0›
                rw [u2_same]
                exact some_ _ _ _ hp (by rw [hbh]; exact q_88_7.1) q_88_7.2.1 (fun k => (q_88_7.2.2.1 k).trans (by rw [hbh]; simp)) q_88_7.2.2.2
              · refine r_iconst C (v := 1) dX1_pass_83 (by decide) ?_
                refine r_goto C (tgt := 88) dX1_pass_84 rfl ?_
                refine cV (ci := 1) C hx (sX1_tries_32 (d := d - 1) (by omega) i hi3 _ I2 J b (by rw [q2]; exact hTI i his) hTW2) moX1_tries mlX1_64 miX1_tries msX1_tries dX1_pass_88 rfl rfl rfl rfl rfl (by omega) rfl rfl (ki (fun v_88_8 I_88_8 q_88_8 => ?_))
                refine r_iast C rfl dX1_pass_91 (nIin hi3 (by decide)) ?_
                rw [ii]
                refine r_iload C dX1_pass_92 rfl ?_
                refine r_aload_n C dX1_pass_94 rfl ?_
                refine r_getR C flX1_28 dX1_pass_95 rfl rfl rfl ?_
                refine r_iload C dX1_pass_98 rfl ?_
                refine r_iald C rfl dX1_pass_100 (nIin hi3 (by decide)) ?_
                rw [ii]
                refine r_iadd C dX1_pass_101 ?_
                refine r_istore C dX1_pass_102 rfl rfl ?_
                have hP := h64_5
                rw [q2, qt] at hP
                have hp : pdF (en I b) (bit who) (bit free) (gv I 32) i = true := by
                  unfold pdF
                  rw [bit_t ‹¬ who &&& 1 <<< (nI i &&& 31) = 0›, Bool.true_and]
                  refine decide_eq_true ⟨?_, hP.2⟩
                  exact Or.inr (hP.1.elim (fun z => absurd rfl z) id)
                have hbh : bit hic i = true := bit_t ‹¬ hic &&& 1 <<< (nI i &&& 31) = 0›
                rw [u2_same]
                exact some_ _ _ _ hp (by rw [hbh]; exact q_88_8.1) q_88_8.2.1 (fun k => (q_88_8.2.2.1 k).trans (by rw [hbh]; rw [if_neg (fun z => absurd z.2.1 (by decide)), if_neg (fun z => absurd z.2.1 (by decide))])) q_88_8.2.2.2
          · refine r_iconst C (v := 1) dX1_pass_56 (by decide) ?_
            refine r_goto C (tgt := 61) dX1_pass_57 rfl ?_
            refine cV (ci := 3) C hx (sX3_isDrawing (d := d - 1) (by omega) i hi3 _ _ I2 J b (by rw [q2]; exact hE4 i his) (by rw [q2]; exact hE5 i his)) moX3_isDrawing mlX1_60 miX3_isDrawing msX3_isDrawing dX1_pass_61 rfl rfl rfl rfl rfl (by omega) rfl rfl (kp ?_)
            refine z_ifeq C (tgt := 104) dX1_pass_64 rfl (fun h64_10 => ?_) (fun h64_10 => ?_)
            · have hP := h64_10
              rw [q2, qt] at hP
              refine none_ _ ?_
              unfold pdF
              rw [bit_t (by assumption), Bool.true_and]
              refine decide_eq_false (fun z => hP ⟨?_, z.2⟩)
              exact Or.inl (by decide)
            · refine r_aload_n C dX1_pass_67 rfl ?_
              refine r_getR C flX1_28 dX1_pass_68 rfl rfl rfl ?_
              refine r_iload C dX1_pass_71 rfl ?_
              refine r_aload_n C dX1_pass_73 rfl ?_
              refine r_iload C dX1_pass_74 rfl ?_
              refine r_iload_n C dX1_pass_76 rfl ?_
              refine r_iload C dX1_pass_77 rfl ?_
              refine r_iand C dX1_pass_79 ?_
              refine r_ifeq C (tgt := 87) dX1_pass_80 rfl (fun h80_11 => ?_) (fun h80_11 => ?_)
              · refine r_iconst C (v := 0) dX1_pass_87 (by decide) ?_
                refine cV (ci := 1) C hx (sX1_tries_32 (d := d - 1) (by omega) i hi3 _ I2 J b (by rw [q2]; exact hTI i his) hTW2) moX1_tries mlX1_64 miX1_tries msX1_tries dX1_pass_88 rfl rfl rfl rfl rfl (by omega) rfl rfl (ki (fun v_88_12 I_88_12 q_88_12 => ?_))
                refine r_iast C rfl dX1_pass_91 (nIin hi3 (by decide)) ?_
                rw [ii]
                refine r_iload C dX1_pass_92 rfl ?_
                refine r_aload_n C dX1_pass_94 rfl ?_
                refine r_getR C flX1_28 dX1_pass_95 rfl rfl rfl ?_
                refine r_iload C dX1_pass_98 rfl ?_
                refine r_iald C rfl dX1_pass_100 (nIin hi3 (by decide)) ?_
                rw [ii]
                refine r_iadd C dX1_pass_101 ?_
                refine r_istore C dX1_pass_102 rfl rfl ?_
                have hP := h64_10
                rw [q2, qt] at hP
                have hp : pdF (en I b) (bit who) (bit free) (gv I 32) i = true := by
                  unfold pdF
                  rw [bit_t ‹¬ who &&& 1 <<< (nI i &&& 31) = 0›, Bool.true_and]
                  refine decide_eq_true ⟨?_, hP.2⟩
                  exact Or.inl (bit_t ‹¬ free &&& 1 <<< (nI i &&& 31) = 0›)
                have hbh : bit hic i = false := bit_f ‹hic &&& 1 <<< (nI i &&& 31) = 0›
                rw [u2_same]
                exact some_ _ _ _ hp (by rw [hbh]; exact q_88_12.1) q_88_12.2.1 (fun k => (q_88_12.2.2.1 k).trans (by rw [hbh]; simp)) q_88_12.2.2.2
              · refine r_iconst C (v := 1) dX1_pass_83 (by decide) ?_
                refine r_goto C (tgt := 88) dX1_pass_84 rfl ?_
                refine cV (ci := 1) C hx (sX1_tries_32 (d := d - 1) (by omega) i hi3 _ I2 J b (by rw [q2]; exact hTI i his) hTW2) moX1_tries mlX1_64 miX1_tries msX1_tries dX1_pass_88 rfl rfl rfl rfl rfl (by omega) rfl rfl (ki (fun v_88_13 I_88_13 q_88_13 => ?_))
                refine r_iast C rfl dX1_pass_91 (nIin hi3 (by decide)) ?_
                rw [ii]
                refine r_iload C dX1_pass_92 rfl ?_
                refine r_aload_n C dX1_pass_94 rfl ?_
                refine r_getR C flX1_28 dX1_pass_95 rfl rfl rfl ?_
                refine r_iload C dX1_pass_98 rfl ?_
                refine r_iald C rfl dX1_pass_100 (nIin hi3 (by decide)) ?_
                rw [ii]
                refine r_iadd C dX1_pass_101 ?_
                refine r_istore C dX1_pass_102 rfl rfl ?_
                have hP := h64_10
                rw [q2, qt] at hP
                have hp : pdF (en I b) (bit who) (bit free) (gv I 32) i = true := by
                  unfold pdF
                  rw [bit_t ‹¬ who &&& 1 <<< (nI i &&& 31) = 0›, Bool.true_and]
                  refine decide_eq_true ⟨?_, hP.2⟩
                  exact Or.inl (bit_t ‹¬ free &&& 1 <<< (nI i &&& 31) = 0›)
                have hbh : bit hic i = true := bit_t ‹¬ hic &&& 1 <<< (nI i &&& 31) = 0›
                rw [u2_same]
                exact some_ _ _ _ hp (by rw [hbh]; exact q_88_13.1) q_88_13.2.1 (fun k => (q_88_13.2.2.1 k).trans (by rw [hbh]; rw [if_neg (fun z => absurd z.2.1 (by decide)), if_neg (fun z => absurd z.2.1 (by decide))])) q_88_13.2.2.2
  refine r_iconst C (v := 0) dX1_pass_0 (by decide) ?_
  refine r_istore C dX1_pass_1 rfl rfl ?_
  refine r_iconst C (v := 0) dX1_pass_3 (by decide) ?_
  refine r_istore C dX1_pass_4 rfl rfl ?_
  exact loop s 0 0 none I (by omega) (fun k => by rw [if_neg (fun z => Nat.not_lt_zero k z.1)]) (fun k => by rw [if_neg (fun z => Nat.not_lt_zero k z.1)]) (fun k hk => absurd hk (Nat.not_lt_zero k)) rfl Fr.rf
set_option maxRecDepth 100000 in
set_option maxHeartbeats 800000 in
theorem sX1_pass_38 {g : Gb} {d : Nat} (hd : 6 ≤ d) (who free hic : Int32) (I : Is) (J : Js) (b : Bool) (hNW : NW (I 1 1) (I 2)) (hTW : TW I b) (hl0 : 0 ≤ (I 38 0).toInt) (hl9 : (I 38 0).toInt ≤ 999) (hwn : ∀ k : Nat, (k : Int) < (I 1 1).toInt → 0 ≤ (wVF (en I b) (bit who) (bit free) (bit hic) (gv I 38) k).toInt ∧ (wVF (en I b) (bit who) (bit free) (bit hic) (gv I 38) k).toInt ≤ 999) : MC9 g d mX1_pass [.ref 38, .int who, .int free, .int hic] I J b (Qv J b (fun I' =>
    gv I' 38 = secF (en I b) (bit who) (bit free) (bit hic) (gv I 38) ∧ I' 38 3 = I 38 3 ∧ I' 38 4 = I 38 4 ∧ Fr [38, 39, 40, 41, 42, 43, 14, 15] I I')) := by
  refine ent9 (own := RX1) rfl rfl rfl (fun X hg hx C Z => ?_)
  subst hg
  have oi := one_int
  obtain ⟨hs0, hs3, hstr, -⟩ := hNW
  obtain ⟨s, hs⟩ : ∃ s : Nat, (I 1 1).toInt = (s : Int) := ⟨(I 1 1).toInt.toNat, by omega⟩
  have hes : ix (I 1 1) = s := ix_of hs
  have hTI : ∀ k, k < s → 1 ≤ (I 2 (8 * k + 3)).toInt := fun k hk => (hstr k (by omega)).2.2.2.1.1
  have hE4 : ∀ k, k < s → 1 ≤ (I 2 (8 * k + 4)).toInt ∧ (I 2 (8 * k + 4)).toInt ≤ 60 := fun k hk => (hstr k (by omega)).2.2.2.2.1
  have hE5 : ∀ k, k < s → 0 ≤ (I 2 (8 * k + 5)).toInt ∧ (I 2 (8 * k + 5)).toInt ≤ 60 := fun k hk => (hstr k (by omega)).2.2.2.2.2.1
  clear hstr
  have loop : ∀ (m i : Nat) (all : Int32) (x6 : Option Value) (I' : Is), m + i = s → (∀ k, I' 39 k = if k < i ∧ pdF (en I b) (bit who) (bit free) (gv I 38) k = true then I 39 k + 1 else I 39 k) →
      (∀ k, I' 42 k = if k < i ∧ pdF (en I b) (bit who) (bit free) (gv I 38) k = true ∧ bit hic k = false ∧ (I 38 0 - I 2 (8 * k + 2)).toInt ≤ 0 then I 42 k + 1 else I 42 k) →
      (∀ k, k < i → I' 43 k = wVF (en I b) (bit who) (bit free) (bit hic) (gv I 38) k) → all = smF (wVF (en I b) (bit who) (bit free) (bit hic) (gv I 38)) i → Fr [39, 42, 43, 14, 15] I I' →
      Aw X 6 [some (.ref 38), some (.int who), some (.int free), some (.int hic), some (.int all), some (.int (nI i)), x6] [] (st9 I' J b) := by
    intro m
    induction m with
    | zero =>
      intro i all x6 I' hm g1 g4 g5 ga hF
      have r1 : I' 1 = I 1 := hF 1 (by decide)
      have hi : i = s := by omega
      subst hi
      have e2 : (en I' b) = en I b := en_rows (fun c hc => hF c (by revert hc; revert c; decide))
      refine r_iload C dX1_pass_6 rfl ?_
      refine r_aload_n C dX1_pass_8 rfl ?_
      refine r_getR C flX1_31 dX1_pass_9 rfl rfl rfl ?_
      refine r_getI C flX1_55 dX1_pass_12 rfl rfl ?_
      refine b_icge C (tgt := 110) rfl rfl dX1_pass_15 rfl (fun h15_1 => ?_) (fun h15_1 => ?_)
      · refine r_iload C dX1_pass_110 rfl ?_
        refine b_ifle C (tgt := 121) dX1_pass_112 rfl (fun h112_2 => ?_) (fun h112_2 => ?_)
        · refine r_aload_n C dX1_pass_121 rfl ?_
          refine cV (ci := 1) C hx (sX1_melt_38 (d := d - 1) (by omega) I' J b) moX1_melt mlX1_72 miX1_melt msX1_melt dX1_pass_122 rfl rfl rfl rfl rfl (by omega) rfl rfl (kv (fun I_122_3 q_122_3 => ?_))
          refine r_aload_n C dX1_pass_125 rfl ?_
          refine r_dup C dX1_pass_126 rfl ?_
          refine r_getI C flX1_52 dX1_pass_127 rfl rfl ?_
          refine r_iconst C (v := 1) dX1_pass_130 (by decide) ?_
          refine r_iadd C dX1_pass_131 ?_
          refine r_putI C flX1_52 dX1_pass_132 rfl rfl rfl rfl rfl ?_
          have hF2 : Fr [38, 39, 40, 41, 42, 43, 14, 15] I I' := hF.mo (by decide)
          have hz : ∀ k, k < i → wVF (en I b) (bit who) (bit free) (bit hic) (gv I 38) k = 0 := fun k hk => by
            have hh := smF_nn (f := wVF (en I b) (bit who) (bit free) (bit hic) (gv I 38)) (n := i) (by omega) (fun k hk => by have := hwn k (by omega); omega) i (Nat.le_refl _)
            have := hh.2.2 k hk
            have h0 := (hwn k (by omega)).1
            rw [ga] at *
            exact int0 (by omega)
          have hall : all.toInt = 0 := by
            have hh := smF_nn (f := wVF (en I b) (bit who) (bit free) (bit hic) (gv I 38)) (n := i) (by omega) (fun k hk => by have := hwn k (by omega); omega) i (Nat.le_refl _)
            rw [← ga] at hh
            omega
          have hsz : ∀ k, k < i → shF (I 38 0) all (wVF (en I b) (bit who) (bit free) (bit hic) (gv I 38) k) = 0 := fun k hk => by unfold shF; rw [if_neg (by omega), hz k hk]
          have b2 : ∀ k, I' 40 k = if k < i then I 40 k + shF (I 38 0) all (wVF (en I b) (bit who) (bit free) (bit hic) (gv I 38) k) else I 40 k := fun k => by
            rw [hF 40 (by decide)]
            by_cases h : k < i
            · rw [if_pos h, hsz k h]; exact (Int32.add_zero _).symm
            · rw [if_neg h]
          have b3 : ∀ k, I' 41 k = if k < i then I 41 k + shF (I 38 0) all (wVF (en I b) (bit who) (bit free) (bit hic) (gv I 38) k) * swF (I 2) k else I 41 k := fun k => by
            rw [hF 41 (by decide)]
            by_cases h : k < i
            · rw [if_pos h, hsz k h, Int32.zero_mul]; exact (Int32.add_zero _).symm
            · rw [if_neg h]
          have b0 : I' 38 0 = sbF (I 38 0) (fun k => shF (I 38 0) all (wVF (en I b) (bit who) (bit free) (bit hic) (gv I 38) k)) i := by
            rw [hF 38 (by decide)]
            have key : ∀ n, n ≤ i → sbF (I 38 0) (fun k => shF (I 38 0) all (wVF (en I b) (bit who) (bit free) (bit hic) (gv I 38) k)) n = I 38 0 := by
              intro n
              induction n with
              | zero => intro _; rfl
              | succ n ihn => intro hn; show sbF _ _ n - shF _ _ _ = _; rw [ihn (by omega), hsz n (by omega)]; exact Int32.sub_zero _
            exact (key i (Nat.le_refl _)).symm
          have b1 : I' 39 = I' 39 := rfl
          have b4 : I' 42 = I' 42 := rfl
          have bt : ∀ k, 1 ≤ k → I' 38 k = I 38 k := fun k _ => by rw [hF 38 (by decide)]
          have ee : en I' b = en I b := e2
          obtain ⟨m0, m1, m2, mF⟩ := q_122_3
          rw [ee, b0, bt 1 (by omega)] at m0 m1
          rw [ga] at m0 m1 b2 b3
          refine rv C Z dX1_pass_135 ⟨?_, ?_, ?_, ?_⟩
          · show (u2 I_122_3 38 2 _ 38 0, u2 I_122_3 38 2 _ 38 1, u2 I_122_3 38 2 _ 38 2, u2 I_122_3 38 2 _ 39, u2 I_122_3 38 2 _ 40, u2 I_122_3 38 2 _ 41, u2 I_122_3 38 2 _ 42) = _
            rw [u2_ne _ _ _ _ (Or.inr (by decide)), u2_ne _ _ _ _ (Or.inr (by decide)), u2_same, u2_row (t' := 39) (by decide), u2_row (t' := 40) (by decide), u2_row (t' := 41) (by decide), u2_row (t' := 42) (by decide), m0, m1, m2 2 (by omega), bt 2 (by omega), mF 39 (by decide), mF 40 (by decide), mF 41 (by decide), mF 42 (by decide), b1, b4]
            unfold secF
            have hs1 : (en I b).1 = i := hes
            rw [hs1]
            refine Prod.ext rfl (Prod.ext rfl (Prod.ext rfl (Prod.ext ?_ (Prod.ext ?_ (Prod.ext ?_ ?_)))))
            · funext k; exact g1 k
            · funext k; exact b2 k
            · funext k; exact b3 k
            · funext k; exact g4 k
          · rw [u2_ne _ _ _ _ (Or.inr (by decide)), m2 3 (by omega), bt 3 (by omega)]
          · rw [u2_ne _ _ _ _ (Or.inr (by decide)), m2 4 (by omega), bt 4 (by omega)]
          · exact (hF2.tr mF (by decide) (by decide)).st (by decide)
        · refine r_aload_n C dX1_pass_115 rfl ?_
          refine r_iload C dX1_pass_116 rfl ?_
          refine cV (ci := 1) C hx (sX1_share_38 (d := d - 1) (by omega) i all I' J b (by rw [r1]; exact hs) (by omega) (by assumption)) moX1_share mlX1_68 miX1_share msX1_share dX1_pass_118 rfl rfl rfl rfl rfl (by omega) rfl rfl (kv (fun I_118_4 q_118_4 => ?_))
          refine r_aload_n C dX1_pass_121 rfl ?_
          refine cV (ci := 1) C hx (sX1_melt_38 (d := d - 1) (by omega) I_118_4 J b) moX1_melt mlX1_72 miX1_melt msX1_melt dX1_pass_122 rfl rfl rfl rfl rfl (by omega) rfl rfl (kv (fun I_122_5 q_122_5 => ?_))
          refine r_aload_n C dX1_pass_125 rfl ?_
          refine r_dup C dX1_pass_126 rfl ?_
          refine r_getI C flX1_52 dX1_pass_127 rfl rfl ?_
          refine r_iconst C (v := 1) dX1_pass_130 (by decide) ?_
          refine r_iadd C dX1_pass_131 ?_
          refine r_putI C flX1_52 dX1_pass_132 rfl rfl rfl rfl rfl ?_
          obtain ⟨a2, a3, a0, a1, aF⟩ := q_118_4
          have hF2 : Fr [38, 39, 40, 41, 42, 43, 14, 15] I I_118_4 := hF.tr aF (by decide) (by decide)
          have b2 : ∀ k, I_118_4 40 k = if k < i then I 40 k + shF (I 38 0) all (wVF (en I b) (bit who) (bit free) (bit hic) (gv I 38) k) else I 40 k := fun k => by
            rw [a2, hF 40 (by decide), hF 38 (by decide)]
            by_cases h : k < i
            · rw [if_pos h, if_pos h, g5 k h]
            · rw [if_neg h, if_neg h]
          have b3 : ∀ k, I_118_4 41 k = if k < i then I 41 k + shF (I 38 0) all (wVF (en I b) (bit who) (bit free) (bit hic) (gv I 38) k) * swF (I 2) k else I 41 k := fun k => by
            rw [a3, hF 41 (by decide), hF 38 (by decide), hF 2 (by decide)]
            by_cases h : k < i
            · rw [if_pos h, if_pos h, g5 k h]
            · rw [if_neg h, if_neg h]
          have sbc : ∀ (f h : Nat → Int32) (l : Int32) (n : Nat), (∀ k, k < n → f k = h k) → sbF l f n = sbF l h n := fun f h l n => by
            induction n with
            | zero => intro _; rfl
            | succ n ihn => intro hh; show sbF l f n - f n = sbF l h n - h n; rw [ihn (fun k hk => hh k (by omega)), hh n (by omega)]
          have b0 : I_118_4 38 0 = sbF (I 38 0) (fun k => shF (I 38 0) all (wVF (en I b) (bit who) (bit free) (bit hic) (gv I 38) k)) i := by
            rw [a0, hF 38 (by decide)]
            exact sbc _ _ _ _ (fun k hk => by rw [g5 k hk])
          have b1 : I_118_4 39 = I' 39 := aF 39 (by decide)
          have b4 : I_118_4 42 = I' 42 := aF 42 (by decide)
          have bt : ∀ k, 1 ≤ k → I_118_4 38 k = I 38 k := fun k hk => by rw [a1 k hk, hF 38 (by decide)]
          have ee : en I_118_4 b = en I b := (en_rows (fun c hc => hF2 c (by revert hc; revert c; decide)))
          obtain ⟨m0, m1, m2, mF⟩ := q_122_5
          rw [ee, b0, bt 1 (by omega)] at m0 m1
          rw [ga] at m0 m1 b2 b3
          refine rv C Z dX1_pass_135 ⟨?_, ?_, ?_, ?_⟩
          · show (u2 I_122_5 38 2 _ 38 0, u2 I_122_5 38 2 _ 38 1, u2 I_122_5 38 2 _ 38 2, u2 I_122_5 38 2 _ 39, u2 I_122_5 38 2 _ 40, u2 I_122_5 38 2 _ 41, u2 I_122_5 38 2 _ 42) = _
            rw [u2_ne _ _ _ _ (Or.inr (by decide)), u2_ne _ _ _ _ (Or.inr (by decide)), u2_same, u2_row (t' := 39) (by decide), u2_row (t' := 40) (by decide), u2_row (t' := 41) (by decide), u2_row (t' := 42) (by decide), m0, m1, m2 2 (by omega), bt 2 (by omega), mF 39 (by decide), mF 40 (by decide), mF 41 (by decide), mF 42 (by decide), b1, b4]
            unfold secF
            have hs1 : (en I b).1 = i := hes
            rw [hs1]
            refine Prod.ext rfl (Prod.ext rfl (Prod.ext rfl (Prod.ext ?_ (Prod.ext ?_ (Prod.ext ?_ ?_)))))
            · funext k; exact g1 k
            · funext k; exact b2 k
            · funext k; exact b3 k
            · funext k; exact g4 k
          · rw [u2_ne _ _ _ _ (Or.inr (by decide)), m2 3 (by omega), bt 3 (by omega)]
          · rw [u2_ne _ _ _ _ (Or.inr (by decide)), m2 4 (by omega), bt 4 (by omega)]
          · exact (hF2.tr mF (by decide) (by decide)).st (by decide)
      · exfalso; rw [r1] at *; have := nIint (j := i) (by omega); omega
    | succ m ih =>
      intro i all x6 I' hm g1 g4 g5 ga hF
      have r1 : I' 1 = I 1 := hF 1 (by decide)
      have hi3 : i < 3 := by omega
      have his : i < s := by omega
      have ii : ix (nI i) = i := nIix (by omega)
      have ini : (nI i).toInt = (i : Int) := nIint (by omega)
      obtain ⟨I2, hI2⟩ : ∃ z, z = u2 I' 43 i 0 := ⟨_, rfl⟩
      have hF2 : Fr [39, 42, 43, 14, 15] I I2 := by rw [hI2]; exact hF.st (by decide)
      have q2 : I2 2 = I 2 := hF2 2 (by decide)
      have qt : I2 38 = I 38 := hF2 38 (by decide)
      have qe : en I2 b = en I b := en_rows (fun c hc => hF2 c (by revert hc; revert c; decide))
      have q1 : ∀ k, I2 39 k = if k < i ∧ pdF (en I b) (bit who) (bit free) (gv I 38) k = true then I 39 k + 1 else I 39 k := fun k => by rw [hI2, u2_ne _ _ _ _ (Or.inl (by decide))]; exact g1 k
      have q4 : ∀ k, I2 42 k = if k < i ∧ pdF (en I b) (bit who) (bit free) (gv I 38) k = true ∧ bit hic k = false ∧ (I 38 0 - I 2 (8 * k + 2)).toInt ≤ 0 then I 42 k + 1 else I 42 k := fun k => by rw [hI2, u2_ne _ _ _ _ (Or.inl (by decide))]; exact g4 k
      have q5 : ∀ k, k < i → I2 43 k = wVF (en I b) (bit who) (bit free) (bit hic) (gv I 38) k := fun k hk => by rw [hI2, u2_ne _ _ _ _ (Or.inr (by omega))]; exact g5 k hk
      have q50 : I2 43 i = 0 := by rw [hI2, u2_same]
      have hTW2 : TW I2 b := TW_rows (fun c hc => hF2 c (by revert hc; revert c; decide)) hTW
      have none_ : ∀ (x6 : Option Value), pdF (en I b) (bit who) (bit free) (gv I 38) i = false → Aw X 104 [some (.ref 38), some (.int who), some (.int free), some (.int hic), some (.int all), some (.int (nI i)), x6] [] (st9 I2 J b) := by
        intro x6 hp
        refine r_iinc C (v := 1) dX1_pass_104 rfl (by decide) rfl ?_
        refine r_goto C (tgt := 6) dX1_pass_107 rfl ?_
        rw [nI_s]
        refine ih (i + 1) all x6 I2 (by omega) (fun k => ?_) (fun k => ?_) (fun k hk => ?_) ?_ hF2
        · rw [q1]
          by_cases e : k = i
          · subst e; rw [if_neg (fun z => Nat.lt_irrefl _ z.1), if_neg (fun z => by rw [hp] at z; exact absurd z.2 (by decide))]
          · by_cases h : k < i ∧ pdF (en I b) (bit who) (bit free) (gv I 38) k = true
            · rw [if_pos h, if_pos ⟨by omega, h.2⟩]
            · rw [if_neg h, if_neg (fun z => h ⟨by omega, z.2⟩)]
        · rw [q4]
          by_cases e : k = i
          · subst e; rw [if_neg (fun z => Nat.lt_irrefl _ z.1), if_neg (fun z => by rw [hp] at z; exact absurd z.2.1 (by decide))]
          · by_cases h : k < i ∧ pdF (en I b) (bit who) (bit free) (gv I 38) k = true ∧ bit hic k = false ∧ (I 38 0 - I 2 (8 * k + 2)).toInt ≤ 0
            · rw [if_pos h, if_pos ⟨by omega, h.2⟩]
            · rw [if_neg h, if_neg (fun z => h ⟨by omega, z.2⟩)]
        · by_cases e : k = i
          · subst e; rw [q50, wVF_f hp]
          · exact q5 k (by omega)
        · show all = smF _ i + wVF _ _ _ _ _ i
          rw [wVF_f hp, ← ga]; exact (Int32.add_zero _).symm
      have some_ : ∀ (x6 : Option Value) (v : Int32) (I3 : Is), pdF (en I b) (bit who) (bit free) (gv I 38) i = true → v = trF (en I2 b) (bit hic i) (I2 38 0) (I2 39 i) i → (∀ k, I3 39 k = if k = i then I2 39 k + 1 else I2 39 k) → (∀ k, I3 42 k = if k = i ∧ bit hic i = false ∧ (I2 38 0 - I2 2 (8 * i + 2)).toInt ≤ 0 then I2 42 k + 1 else I2 42 k) → Fr [39, 42, 14, 15] I2 I3 →
          Aw X 104 [some (.ref 38), some (.int who), some (.int free), some (.int hic), some (.int (all + v)), some (.int (nI i)), x6] [] (st9 (u2 I3 43 i v) J b) := by
        intro x6 v I3 hp hv h1 h4 hF3
        have hv2 : v = wVF (en I b) (bit who) (bit free) (bit hic) (gv I 38) i := by
          rw [wVF_t hp, hv, qe, qt, q1, if_neg (fun z => Nat.lt_irrefl _ z.1)]
          rfl
        refine r_iinc C (v := 1) dX1_pass_104 rfl (by decide) rfl ?_
        refine r_goto C (tgt := 6) dX1_pass_107 rfl ?_
        rw [nI_s]
        refine ih (i + 1) (all + v) x6 (u2 I3 43 i v) (by omega) (fun k => ?_) (fun k => ?_) (fun k hk => ?_) ?_ ((hF2.tr hF3 (by decide) (by decide)).st (by decide))
        · rw [u2_ne _ _ _ _ (Or.inl (by decide)), h1]
          by_cases e : k = i
          · subst e; rw [if_pos rfl, q1, if_neg (fun z => Nat.lt_irrefl _ z.1), if_pos ⟨Nat.lt_succ_self _, hp⟩]
          · rw [if_neg e, q1]
            by_cases h : k < i ∧ pdF (en I b) (bit who) (bit free) (gv I 38) k = true
            · rw [if_pos h, if_pos ⟨by omega, h.2⟩]
            · rw [if_neg h, if_neg (fun z => h ⟨by omega, z.2⟩)]
        · rw [u2_ne _ _ _ _ (Or.inl (by decide)), h4]
          by_cases e : k = i
          · subst e
            rw [q4, if_neg (c := k < k ∧ _) (fun z => Nat.lt_irrefl _ z.1), qt, q2]
            by_cases h : bit hic k = false ∧ (I 38 0 - I 2 (8 * k + 2)).toInt ≤ 0
            · rw [if_pos ⟨rfl, h⟩, if_pos ⟨Nat.lt_succ_self _, hp, h⟩]
            · rw [if_neg (fun z => h z.2), if_neg (fun z => h z.2.2)]
          · rw [if_neg (fun z => e z.1), q4]
            by_cases h : k < i ∧ pdF (en I b) (bit who) (bit free) (gv I 38) k = true ∧ bit hic k = false ∧ (I 38 0 - I 2 (8 * k + 2)).toInt ≤ 0
            · rw [if_pos h, if_pos ⟨by omega, h.2⟩]
            · rw [if_neg h, if_neg (fun z => h ⟨by omega, z.2⟩)]
        · by_cases e : k = i
          · subst e; rw [u2_same, hv2]
          · rw [u2_ne _ _ _ _ (Or.inr e), hF3 43 (by decide)]; exact q5 k (by omega)
        · show all + v = smF _ i + wVF _ _ _ _ _ i
          rw [← ga, ← hv2]
      refine r_iload C dX1_pass_6 rfl ?_
      refine r_aload_n C dX1_pass_8 rfl ?_
      refine r_getR C flX1_31 dX1_pass_9 rfl rfl rfl ?_
      refine r_getI C flX1_55 dX1_pass_12 rfl rfl ?_
      refine b_icge C (tgt := 110) rfl rfl dX1_pass_15 rfl (fun h15_1 => ?_) (fun h15_1 => ?_)
      · exfalso; rw [r1] at *; omega
      · refine r_iconst C (v := 1) dX1_pass_18 (by decide) ?_
        refine r_iload C dX1_pass_19 rfl ?_
        refine r_ishl C dX1_pass_21 ?_
        refine r_istore C dX1_pass_22 rfl rfl ?_
        refine r_aload_n C dX1_pass_24 rfl ?_
        refine r_getR C flX1_28 dX1_pass_25 rfl rfl rfl ?_
        refine r_iload C dX1_pass_28 rfl ?_
        refine r_iconst C (v := 0) dX1_pass_30 (by decide) ?_
        refine r_iast C rfl dX1_pass_31 (nIin hi3 (by decide)) ?_
        rw [ii, ← hI2]
        refine r_iload_n C dX1_pass_32 rfl ?_
        refine r_iload C dX1_pass_33 rfl ?_
        refine r_iand C dX1_pass_35 ?_
        refine r_ifeq C (tgt := 104) dX1_pass_36 rfl (fun h36_2 => ?_) (fun h36_2 => ?_)
        · exact none_ _ (by unfold pdF; rw [bit_f (by assumption)]; rfl)
        · refine r_aload_n C dX1_pass_39 rfl ?_
          refine r_getR C flX1_31 dX1_pass_40 rfl rfl rfl ?_
          refine r_iload C dX1_pass_43 rfl ?_
          refine r_aload_n C dX1_pass_45 rfl ?_
          refine r_getI C flX1_52 dX1_pass_46 rfl rfl ?_
          refine r_iload_n C dX1_pass_49 rfl ?_
          refine r_iload C dX1_pass_50 rfl ?_
          refine r_iand C dX1_pass_52 ?_
          refine r_ifeq C (tgt := 60) dX1_pass_53 rfl (fun h53_3 => ?_) (fun h53_3 => ?_)
          · refine r_iconst C (v := 0) dX1_pass_60 (by decide) ?_
            refine cV (ci := 3) C hx (sX3_isDrawing (d := d - 1) (by omega) i hi3 _ _ I2 J b (by rw [q2]; exact hE4 i his) (by rw [q2]; exact hE5 i his)) moX3_isDrawing mlX1_60 miX3_isDrawing msX3_isDrawing dX1_pass_61 rfl rfl rfl rfl rfl (by omega) rfl rfl (kp ?_)
            refine z_ifeq C (tgt := 104) dX1_pass_64 rfl (fun h64_5 => ?_) (fun h64_5 => ?_)
            · have hP := h64_5
              rw [q2, qt] at hP
              refine none_ _ ?_
              unfold pdF
              rw [bit_t (by assumption), Bool.true_and]
              refine decide_eq_false (fun z => hP ⟨?_, z.2⟩)
              rcases z.1 with z1 | z1
              · rw [bit_f ‹free &&& 1 <<< (nI i &&& 31) = 0›] at z1; exact absurd z1 (by decide)
              · exact Or.inr z1
            · refine r_aload_n C dX1_pass_67 rfl ?_
              refine r_getR C flX1_28 dX1_pass_68 rfl rfl rfl ?_
              refine r_iload C dX1_pass_71 rfl ?_
              refine r_aload_n C dX1_pass_73 rfl ?_
              refine r_iload C dX1_pass_74 rfl ?_
              refine r_iload_n C dX1_pass_76 rfl ?_
              refine r_iload C dX1_pass_77 rfl ?_
              refine r_iand C dX1_pass_79 ?_
              refine r_ifeq C (tgt := 87) dX1_pass_80 rfl (fun h80_6 => ?_) (fun h80_6 => ?_)
              · refine r_iconst C (v := 0) dX1_pass_87 (by decide) ?_
                refine cV (ci := 1) C hx (sX1_tries_38 (d := d - 1) (by omega) i hi3 _ I2 J b (by rw [q2]; exact hTI i his) hTW2) moX1_tries mlX1_64 miX1_tries msX1_tries dX1_pass_88 rfl rfl rfl rfl rfl (by omega) rfl rfl (ki (fun v_88_7 I_88_7 q_88_7 => ?_))
                refine r_iast C rfl dX1_pass_91 (nIin hi3 (by decide)) ?_
                rw [ii]
                refine r_iload C dX1_pass_92 rfl ?_
                refine r_aload_n C dX1_pass_94 rfl ?_
                refine r_getR C flX1_28 dX1_pass_95 rfl rfl rfl ?_
                refine r_iload C dX1_pass_98 rfl ?_
                refine r_iald C rfl dX1_pass_100 (nIin hi3 (by decide)) ?_
                rw [ii]
                refine r_iadd C dX1_pass_101 ?_
                refine r_istore C dX1_pass_102 rfl rfl ?_
                have hP := h64_5
                rw [q2, qt] at hP
                have hp : pdF (en I b) (bit who) (bit free) (gv I 38) i = true := by
                  unfold pdF
                  rw [bit_t ‹¬ who &&& 1 <<< (nI i &&& 31) = 0›, Bool.true_and]
                  refine decide_eq_true ⟨?_, hP.2⟩
                  exact Or.inr (hP.1.elim (fun z => absurd rfl z) id)
                have hbh : bit hic i = false := bit_f ‹hic &&& 1 <<< (nI i &&& 31) = 0›
                rw [u2_same]
                exact some_ _ _ _ hp (by rw [hbh]; exact q_88_7.1) q_88_7.2.1 (fun k => (q_88_7.2.2.1 k).trans (by rw [hbh]; simp)) q_88_7.2.2.2
              · refine r_iconst C (v := 1) dX1_pass_83 (by decide) ?_
                refine r_goto C (tgt := 88) dX1_pass_84 rfl ?_
                refine cV (ci := 1) C hx (sX1_tries_38 (d := d - 1) (by omega) i hi3 _ I2 J b (by rw [q2]; exact hTI i his) hTW2) moX1_tries mlX1_64 miX1_tries msX1_tries dX1_pass_88 rfl rfl rfl rfl rfl (by omega) rfl rfl (ki (fun v_88_8 I_88_8 q_88_8 => ?_))
                refine r_iast C rfl dX1_pass_91 (nIin hi3 (by decide)) ?_
                rw [ii]
                refine r_iload C dX1_pass_92 rfl ?_
                refine r_aload_n C dX1_pass_94 rfl ?_
                refine r_getR C flX1_28 dX1_pass_95 rfl rfl rfl ?_
                refine r_iload C dX1_pass_98 rfl ?_
                refine r_iald C rfl dX1_pass_100 (nIin hi3 (by decide)) ?_
                rw [ii]
                refine r_iadd C dX1_pass_101 ?_
                refine r_istore C dX1_pass_102 rfl rfl ?_
                have hP := h64_5
                rw [q2, qt] at hP
                have hp : pdF (en I b) (bit who) (bit free) (gv I 38) i = true := by
                  unfold pdF
                  rw [bit_t ‹¬ who &&& 1 <<< (nI i &&& 31) = 0›, Bool.true_and]
                  refine decide_eq_true ⟨?_, hP.2⟩
                  exact Or.inr (hP.1.elim (fun z => absurd rfl z) id)
                have hbh : bit hic i = true := bit_t ‹¬ hic &&& 1 <<< (nI i &&& 31) = 0›
                rw [u2_same]
                exact some_ _ _ _ hp (by rw [hbh]; exact q_88_8.1) q_88_8.2.1 (fun k => (q_88_8.2.2.1 k).trans (by rw [hbh]; rw [if_neg (fun z => absurd z.2.1 (by decide)), if_neg (fun z => absurd z.2.1 (by decide))])) q_88_8.2.2.2
          · refine r_iconst C (v := 1) dX1_pass_56 (by decide) ?_
            refine r_goto C (tgt := 61) dX1_pass_57 rfl ?_
            refine cV (ci := 3) C hx (sX3_isDrawing (d := d - 1) (by omega) i hi3 _ _ I2 J b (by rw [q2]; exact hE4 i his) (by rw [q2]; exact hE5 i his)) moX3_isDrawing mlX1_60 miX3_isDrawing msX3_isDrawing dX1_pass_61 rfl rfl rfl rfl rfl (by omega) rfl rfl (kp ?_)
            refine z_ifeq C (tgt := 104) dX1_pass_64 rfl (fun h64_10 => ?_) (fun h64_10 => ?_)
            · have hP := h64_10
              rw [q2, qt] at hP
              refine none_ _ ?_
              unfold pdF
              rw [bit_t (by assumption), Bool.true_and]
              refine decide_eq_false (fun z => hP ⟨?_, z.2⟩)
              exact Or.inl (by decide)
            · refine r_aload_n C dX1_pass_67 rfl ?_
              refine r_getR C flX1_28 dX1_pass_68 rfl rfl rfl ?_
              refine r_iload C dX1_pass_71 rfl ?_
              refine r_aload_n C dX1_pass_73 rfl ?_
              refine r_iload C dX1_pass_74 rfl ?_
              refine r_iload_n C dX1_pass_76 rfl ?_
              refine r_iload C dX1_pass_77 rfl ?_
              refine r_iand C dX1_pass_79 ?_
              refine r_ifeq C (tgt := 87) dX1_pass_80 rfl (fun h80_11 => ?_) (fun h80_11 => ?_)
              · refine r_iconst C (v := 0) dX1_pass_87 (by decide) ?_
                refine cV (ci := 1) C hx (sX1_tries_38 (d := d - 1) (by omega) i hi3 _ I2 J b (by rw [q2]; exact hTI i his) hTW2) moX1_tries mlX1_64 miX1_tries msX1_tries dX1_pass_88 rfl rfl rfl rfl rfl (by omega) rfl rfl (ki (fun v_88_12 I_88_12 q_88_12 => ?_))
                refine r_iast C rfl dX1_pass_91 (nIin hi3 (by decide)) ?_
                rw [ii]
                refine r_iload C dX1_pass_92 rfl ?_
                refine r_aload_n C dX1_pass_94 rfl ?_
                refine r_getR C flX1_28 dX1_pass_95 rfl rfl rfl ?_
                refine r_iload C dX1_pass_98 rfl ?_
                refine r_iald C rfl dX1_pass_100 (nIin hi3 (by decide)) ?_
                rw [ii]
                refine r_iadd C dX1_pass_101 ?_
                refine r_istore C dX1_pass_102 rfl rfl ?_
                have hP := h64_10
                rw [q2, qt] at hP
                have hp : pdF (en I b) (bit who) (bit free) (gv I 38) i = true := by
                  unfold pdF
                  rw [bit_t ‹¬ who &&& 1 <<< (nI i &&& 31) = 0›, Bool.true_and]
                  refine decide_eq_true ⟨?_, hP.2⟩
                  exact Or.inl (bit_t ‹¬ free &&& 1 <<< (nI i &&& 31) = 0›)
                have hbh : bit hic i = false := bit_f ‹hic &&& 1 <<< (nI i &&& 31) = 0›
                rw [u2_same]
                exact some_ _ _ _ hp (by rw [hbh]; exact q_88_12.1) q_88_12.2.1 (fun k => (q_88_12.2.2.1 k).trans (by rw [hbh]; simp)) q_88_12.2.2.2
              · refine r_iconst C (v := 1) dX1_pass_83 (by decide) ?_
                refine r_goto C (tgt := 88) dX1_pass_84 rfl ?_
                refine cV (ci := 1) C hx (sX1_tries_38 (d := d - 1) (by omega) i hi3 _ I2 J b (by rw [q2]; exact hTI i his) hTW2) moX1_tries mlX1_64 miX1_tries msX1_tries dX1_pass_88 rfl rfl rfl rfl rfl (by omega) rfl rfl (ki (fun v_88_13 I_88_13 q_88_13 => ?_))
                refine r_iast C rfl dX1_pass_91 (nIin hi3 (by decide)) ?_
                rw [ii]
                refine r_iload C dX1_pass_92 rfl ?_
                refine r_aload_n C dX1_pass_94 rfl ?_
                refine r_getR C flX1_28 dX1_pass_95 rfl rfl rfl ?_
                refine r_iload C dX1_pass_98 rfl ?_
                refine r_iald C rfl dX1_pass_100 (nIin hi3 (by decide)) ?_
                rw [ii]
                refine r_iadd C dX1_pass_101 ?_
                refine r_istore C dX1_pass_102 rfl rfl ?_
                have hP := h64_10
                rw [q2, qt] at hP
                have hp : pdF (en I b) (bit who) (bit free) (gv I 38) i = true := by
                  unfold pdF
                  rw [bit_t ‹¬ who &&& 1 <<< (nI i &&& 31) = 0›, Bool.true_and]
                  refine decide_eq_true ⟨?_, hP.2⟩
                  exact Or.inl (bit_t ‹¬ free &&& 1 <<< (nI i &&& 31) = 0›)
                have hbh : bit hic i = true := bit_t ‹¬ hic &&& 1 <<< (nI i &&& 31) = 0›
                rw [u2_same]
                exact some_ _ _ _ hp (by rw [hbh]; exact q_88_13.1) q_88_13.2.1 (fun k => (q_88_13.2.2.1 k).trans (by rw [hbh]; rw [if_neg (fun z => absurd z.2.1 (by decide)), if_neg (fun z => absurd z.2.1 (by decide))])) q_88_13.2.2.2
  refine r_iconst C (v := 0) dX1_pass_0 (by decide) ?_
  refine r_istore C dX1_pass_1 rfl rfl ?_
  refine r_iconst C (v := 0) dX1_pass_3 (by decide) ?_
  refine r_istore C dX1_pass_4 rfl rfl ?_
  exact loop s 0 0 none I (by omega) (fun k => by rw [if_neg (fun z => Nat.not_lt_zero k z.1)]) (fun k => by rw [if_neg (fun z => Nat.not_lt_zero k z.1)]) (fun k hk => absurd hk (Nat.not_lt_zero k)) rfl Fr.rf
