/-- what straw j gets alone, without ice, out of a glass of level l -/
def gfF (I : Is) (b : Bool) (j : Nat) (l : Int32) : Int32 := (whF (abT (I 2 (8 * j + 2))) (en I b) (b1 j) (b1 j) (bit 0) 60 (l, 0, (gv I 16).2.2.1, (gv I 16).2.2.2.1, fun _ => 0, fun _ => 0, fun _ => 0)).2.2.2.2.1 j
def leftF (B : Nat → Int32) (W x : Nat) : Nat := if (B x).toInt < (B (W - x)).toInt then x else W - x
def hlF (A B : Nat → Int32) (W : Nat) (r : Int32) : Nat → Nat → Nat → Int32 → Nat × Int32
  | 0, _, fi, mo => (fi, mo)
  | m + 1, x, fi, mo => if mo.toInt < (imax 0 (nI (leftF B W x) - r)).toInt ∧ mo.toInt < (A (leftF B W x)).toInt then hlF A B W r m (x + 1) x (A (leftF B W x)) else hlF A B W r m (x + 1) fi mo
theorem nI_sub {a c : Nat} (h : c ≤ a) (ha : a < 1000000) : nI a - nI c = nI (a - c) := by
  apply Int32.toInt_inj.mp
  have e1 := nIint (j := a) ha
  have e2 := nIint (j := c) (by omega)
  have e3 := nIint (j := a - c) (by omega)
  rw [tI_sub (by omega) (by omega)]
  omega
theorem imin999 {w : Nat} (h : w ≤ 999) : imin 999 (nI w) = nI w := by
  apply Int32.toInt_inj.mp
  rw [imin_int, nIint (by omega)]
  have e : (999 : Int32).toInt = 999 := rfl
  omega
set_option maxRecDepth 100000 in
set_option maxHeartbeats 400000 in
theorem sX8_halved {g : Gb} {d : Nat} (hd : 8 ≤ d) (ja jb Wn : Nat) (w : Int32) (hja : ja < 3) (hjb : jb < 3) (I : Is) (J : Js) (b : Bool) (hW : I 16 0 = nI Wn) (hW9 : Wn ≤ 999) (hNW : NW (I 1 1) (I 2)) (hTW : TW I b) (hv : VOk (gv I 16)) : MC9 g d mX8_halved [.ref 28, .int (nI ja), .int (nI jb), .int w] I J b (Qi J b (fun v I' => v = (if w = 0 then nI (hlF (fun x => gfF I b ja (nI x)) (fun x => gfF I b jb (nI x)) Wn (I 2 (8 * ja + 2)) (Wn + 1) 0 0 (-1)).1 else if w = 1 then (hlF (fun x => gfF I b ja (nI x)) (fun x => gfF I b jb (nI x)) Wn (I 2 (8 * ja + 2)) (Wn + 1) 0 0 (-1)).2 else imax (gfF I b jb (nI (hlF (fun x => gfF I b ja (nI x)) (fun x => gfF I b jb (nI x)) Wn (I 2 (8 * ja + 2)) (Wn + 1) 0 0 (-1)).1)) (gfF I b jb (nI (Wn - (hlF (fun x => gfF I b ja (nI x)) (fun x => gfF I b jb (nI x)) Wn (I 2 (8 * ja + 2)) (Wn + 1) 0 0 (-1)).1)))) ∧ Fr (29 :: [32, 33, 34, 35, 36, 37, 14, 15]) I I')) := by
  refine ent9 (own := RX8) rfl rfl rfl (fun X hg hx C Z => ?_)
  subst hg
  have inW : (nI Wn).toInt = (Wn : Int) := nIint (by omega)
  have key : ∀ (j : Nat) (hj : j < 3) (x : Nat) (hxW : x ≤ 999) (I' : Is), Fr (29 :: [32, 33, 34, 35, 36, 37, 14, 15]) I I' → MC9 (x_g X) (d - 1) mX8_gotFromGlass [.ref 28, .int (nI j), .int (nI x)] I' J b (Qi J b (fun v I2 => v = gfF I b j (nI x) ∧ Fr [32, 33, 34, 35, 36, 37, 14, 15] I' I2)) := by
    intro j hj x hxW I' hF
    have inx : (nI x).toInt = (x : Int) := nIint (by omega)
    have h := sX8_gotFromGlass (g := x_g X) (d := d - 1) (by omega) j hj (nI x) (by omega) I' J b (NW_rows (fun c hc => hF c (by revert hc; revert c; decide)) hNW) (TW_rows (fun c hc => hF c (by revert hc; revert c; decide)) hTW)
    rw [en_rows (b := b) (fun c hc => hF c (by revert hc; revert c; decide)), gv_rows (t := 16) (fun c hc => hF c (by revert hc; revert c; decide)), hF 2 (by decide)] at h
    exact h
  have loop2 : ∀ (m x fi : Nat) (mo : Int32) (x9 x10 : Option Value) (I' : Is), m + x = Wn + 1 → fi ≤ Wn → Fr (29 :: [32, 33, 34, 35, 36, 37, 14, 15]) I I' → (∀ k, k ≤ Wn → I' 29 k = gfF I b jb (nI k)) → hlF (fun x => gfF I b ja (nI x)) (fun x => gfF I b jb (nI x)) Wn (I 2 (8 * ja + 2)) m x fi mo = hlF (fun x => gfF I b ja (nI x)) (fun x => gfF I b jb (nI x)) Wn (I 2 (8 * ja + 2)) (Wn + 1) 0 0 (-1) →
      Aw X 65 [some (.ref 28), some (.int (nI ja)), some (.int (nI jb)), some (.int w), some (.int (nI Wn)), some (.int (I 2 (8 * ja + 2))), some (.int (nI fi)), some (.int mo), some (.int (nI x)), x9, x10] [] (st9 I' J b) := by
    intro m
    induction m with
    | zero =>
      intro x fi mo x9 x10 I' hm hfi hF hB hg
      have inx : (nI x).toInt = (x : Int) := nIint (by omega)
      have hg1 : (hlF (fun x => gfF I b ja (nI x)) (fun x => gfF I b jb (nI x)) Wn (I 2 (8 * ja + 2)) (Wn + 1) 0 0 (-1)).1 = fi := by rw [← hg]; rfl
      have hg2 : (hlF (fun x => gfF I b ja (nI x)) (fun x => gfF I b jb (nI x)) Wn (I 2 (8 * ja + 2)) (Wn + 1) 0 0 (-1)).2 = mo := by rw [← hg]; rfl
      refine r_iload C dX8_halved_65 rfl ?_
      refine r_iload C dX8_halved_67 rfl ?_
      refine b_icgt C (tgt := 148) rfl rfl dX8_halved_69 rfl (fun h69_1 => ?_) (fun h69_1 => ?_)
      · refine r_iload_n C dX8_halved_148 rfl ?_
        by_cases c0 : w = 0
        · subst c0
          refine r_lookup C (tgt := 176) dX8_halved_149 (by decide) rfl rfl ?_
          refine r_iload C dX8_halved_176 rfl ?_
          exact ri C Z dX8_halved_178 ⟨by rw [if_pos rfl, hg1], hF⟩
        have n0 : w.toInt ≠ 0 := ne_int c0
        by_cases c1 : w = 1
        · subst c1
          refine r_lookup C (tgt := 179) dX8_halved_149 (by decide) rfl rfl ?_
          refine r_iload C dX8_halved_179 rfl ?_
          exact ri C Z dX8_halved_181 ⟨by rw [if_neg (by decide), if_pos rfl, hg2], hF⟩
        have n1 : w.toInt ≠ 1 := ne_int c1
        refine r_lookup C (tgt := 182) dX8_halved_149 (by decide) (by simp [Op.lookupswitch.offset, n0.symm, n1.symm, n0, n1]; rfl) rfl ?_
        refine r_aload_n C dX8_halved_182 rfl ?_
        refine r_getR C flX8_9 dX8_halved_183 rfl rfl rfl ?_
        refine r_iload C dX8_halved_186 rfl ?_
        refine r_iald C rfl dX8_halved_188 (nIin (n := 1000) (by omega) (by decide)) ?_
        rw [nIix (by omega), hB _ hfi]
        refine r_aload_n C dX8_halved_189 rfl ?_
        refine r_getR C flX8_9 dX8_halved_190 rfl rfl rfl ?_
        refine r_iload C dX8_halved_193 rfl ?_
        refine r_iload C dX8_halved_195 rfl ?_
        refine r_isub C dX8_halved_197 ?_
        rw [nI_sub hfi (by omega)]
        refine r_iald C rfl dX8_halved_198 (nIin (n := 1000) (by omega) (by decide)) ?_
        rw [nIix (by omega), hB _ (by omega)]
        refine cmax C hx mlX8_86 dX8_halved_199 (by omega) rfl rfl ?_
        exact ri C Z dX8_halved_202 ⟨by rw [if_neg c0, if_neg c1, hg1], hF⟩
      · exfalso; omega
    | succ m ih =>
      intro x fi mo x9 x10 I' hm hfi hF hB hg
      have inx : (nI x).toInt = (x : Int) := nIint (by omega)
      have hxx : ix (nI x) = x := nIix (by omega)
      have hst : hlF (fun x => gfF I b ja (nI x)) (fun x => gfF I b jb (nI x)) Wn (I 2 (8 * ja + 2)) (m + 1) x fi mo = if mo.toInt < (imax 0 (nI (leftF (fun x => gfF I b jb (nI x)) Wn x) - I 2 (8 * ja + 2))).toInt ∧ mo.toInt < (gfF I b ja (nI (leftF (fun x => gfF I b jb (nI x)) Wn x))).toInt then hlF (fun x => gfF I b ja (nI x)) (fun x => gfF I b jb (nI x)) Wn (I 2 (8 * ja + 2)) m (x + 1) x (gfF I b ja (nI (leftF (fun x => gfF I b jb (nI x)) Wn x))) else hlF (fun x => gfF I b ja (nI x)) (fun x => gfF I b jb (nI x)) Wn (I 2 (8 * ja + 2)) m (x + 1) fi mo := rfl
      rw [hst] at hg
      clear hst
      have tail : ∀ (le : Nat) (x9 x10 : Option Value), le = leftF (fun x => gfF I b jb (nI x)) Wn x → le ≤ Wn → Aw X 104 [some (.ref 28), some (.int (nI ja)), some (.int (nI jb)), some (.int w), some (.int (nI Wn)), some (.int (I 2 (8 * ja + 2))), some (.int (nI fi)), some (.int mo), some (.int (nI x)), some (.int (nI le)), x10] [] (st9 I' J b) := by
        intro le x9 x10 hle hleW
        rw [← hle] at hg
        refine r_iconst C (v := 0) dX8_halved_104 (by decide) ?_
        refine r_iload C dX8_halved_105 rfl ?_
        refine r_iload C dX8_halved_107 rfl ?_
        refine r_isub C dX8_halved_109 ?_
        refine cmax C hx mlX8_86 dX8_halved_110 (by omega) rfl rfl ?_
        refine r_iload C dX8_halved_113 rfl ?_
        refine b_icle C (tgt := 142) rfl rfl dX8_halved_115 rfl (fun h115_1 => ?_) (fun h115_1 => ?_)
        · refine r_iinc C (v := 1) dX8_halved_142 rfl (by decide) rfl ?_
          refine r_goto C (tgt := 65) dX8_halved_145 rfl ?_
          rw [if_neg (fun z => by have := z.1; omega)] at hg
          rw [nI_s]
          exact ih (x + 1) _ _ _ _ _ (by omega) hfi hF hB hg
        · refine r_aload_n C dX8_halved_118 rfl ?_
          refine r_iload_n C dX8_halved_119 rfl ?_
          refine r_iload C dX8_halved_120 rfl ?_
          refine cV (ci := 8) C hx (key ja hja le (by omega) I' hF) moX8_gotFromGlass mlX8_80 miX8_gotFromGlass msX8_gotFromGlass dX8_halved_122 rfl rfl rfl rfl rfl (by omega) rfl rfl (ki (fun v_122_2 I_122_2 q_122_2 => ?_))
          have hq := q_122_2
          rw [hq.1]
          refine r_istore C dX8_halved_125 rfl rfl ?_
          refine r_iload C dX8_halved_127 rfl ?_
          refine r_iload C dX8_halved_129 rfl ?_
          refine b_icle C (tgt := 142) rfl rfl dX8_halved_131 rfl (fun h131_3 => ?_) (fun h131_3 => ?_)
          · refine r_iinc C (v := 1) dX8_halved_142 rfl (by decide) rfl ?_
            refine r_goto C (tgt := 65) dX8_halved_145 rfl ?_
            rw [if_neg (fun z => by have := z.2; omega)] at hg
            rw [nI_s]
            exact ih (x + 1) _ _ _ _ _ (by omega) hfi (hF.tr hq.2 (fun _ h => h) (fun _ h => List.mem_cons_of_mem _ h)) (fun k hk => by rw [hq.2 29 (by decide)]; exact hB k hk) hg
          · refine r_iload C dX8_halved_134 rfl ?_
            refine r_istore C dX8_halved_136 rfl rfl ?_
            refine r_iload C dX8_halved_138 rfl ?_
            refine r_istore C dX8_halved_140 rfl rfl ?_
            refine r_iinc C (v := 1) dX8_halved_142 rfl (by decide) rfl ?_
            refine r_goto C (tgt := 65) dX8_halved_145 rfl ?_
            rw [if_pos ⟨by assumption, by assumption⟩] at hg
            rw [nI_s]
            exact ih (x + 1) _ _ _ _ _ (by omega) (by omega) (hF.tr hq.2 (fun _ h => h) (fun _ h => List.mem_cons_of_mem _ h)) (fun k hk => by rw [hq.2 29 (by decide)]; exact hB k hk) hg
      refine r_iload C dX8_halved_65 rfl ?_
      refine r_iload C dX8_halved_67 rfl ?_
      refine b_icgt C (tgt := 148) rfl rfl dX8_halved_69 rfl (fun h69_1 => ?_) (fun h69_1 => ?_)
      · exfalso; omega
      · refine r_aload_n C dX8_halved_72 rfl ?_
        refine r_getR C flX8_9 dX8_halved_73 rfl rfl rfl ?_
        refine r_iload C dX8_halved_76 rfl ?_
        refine r_iald C rfl dX8_halved_78 (nIin (n := 1000) (by omega) (by decide)) ?_
        refine r_aload_n C dX8_halved_79 rfl ?_
        refine r_getR C flX8_9 dX8_halved_80 rfl rfl rfl ?_
        refine r_iload C dX8_halved_83 rfl ?_
        refine r_iload C dX8_halved_85 rfl ?_
        refine r_isub C dX8_halved_87 ?_
        refine r_iald C rfl dX8_halved_88 (by rw [nI_sub (by omega) (by omega)]; exact nIin (n := 1000) (by omega) (by decide)) ?_
        refine b_iclt C (tgt := 100) rfl rfl dX8_halved_89 rfl (fun h89_2 => ?_) (fun h89_2 => ?_)
        · refine r_iload C dX8_halved_100 rfl ?_
          refine r_istore C dX8_halved_102 rfl rfl ?_
          have hh := ‹(I' 29 (ix (nI x))).toInt < _›
          rw [hxx, hB x (by omega), nI_sub (by omega) (by omega), nIix (by omega), hB _ (by omega)] at hh
          exact tail x none _ (if_pos hh).symm (by omega)
        · refine r_iload C dX8_halved_92 rfl ?_
          refine r_iload C dX8_halved_94 rfl ?_
          refine r_isub C dX8_halved_96 ?_
          refine r_goto C (tgt := 102) dX8_halved_97 rfl ?_
          refine r_istore C dX8_halved_102 rfl rfl ?_
          have hh := ‹_ ≤ (I' 29 (ix (nI x))).toInt›
          rw [hxx, hB x (by omega), nI_sub (by omega) (by omega), nIix (by omega), hB _ (by omega)] at hh
          rw [nI_sub (by omega) (by omega)]
          exact tail (Wn - x) none _ (if_neg (Int.not_lt.mpr hh)).symm (by omega)
  have loop1 : ∀ (m x : Nat) (x6 x7 x8 x9 x10 : Option Value) (I' : Is), m + x = Wn + 1 → Fr (29 :: [32, 33, 34, 35, 36, 37, 14, 15]) I I' → (∀ k, k < x → I' 29 k = gfF I b jb (nI k)) →
      Aw X 18 [some (.ref 28), some (.int (nI ja)), some (.int (nI jb)), some (.int w), some (.int (nI Wn)), some (.int (nI x)), x6, x7, x8, x9, x10] [] (st9 I' J b) := by
    intro m
    induction m with
    | zero =>
      intro x x6 x7 x8 x9 x10 I' hm hF hB
      have inx : (nI x).toInt = (x : Int) := nIint (by omega)
      refine r_iload C dX8_halved_18 rfl ?_
      refine r_iload C dX8_halved_20 rfl ?_
      refine b_icgt C (tgt := 45) rfl rfl dX8_halved_22 rfl (fun h22_1 => ?_) (fun h22_1 => ?_)
      · refine r_aload_n C dX8_halved_45 rfl ?_
        refine r_getR C flX8_21 dX8_halved_46 rfl rfl rfl ?_
        refine r_iload_n C dX8_halved_49 rfl ?_
        refine r_iconst C (v := 2) dX8_halved_50 (by decide) ?_
        refine cV (ci := 3) C hx (sOf (d := d - 1) ja 2 hja (by decide) I' J b) moX3_ofStraw mlX8_83 miX3_ofStraw msX3_ofStraw dX8_halved_51 rfl rfl rfl rfl rfl (by omega) rfl rfl (kp ?_)
        rw [hF 2 (by decide)]
        refine r_istore C dX8_halved_54 rfl rfl ?_
        refine r_iconst C (v := 0) dX8_halved_56 (by decide) ?_
        refine r_istore C dX8_halved_57 rfl rfl ?_
        refine r_iconst C (v := -1) dX8_halved_59 (by decide) ?_
        refine r_istore C dX8_halved_60 rfl rfl ?_
        refine r_iconst C (v := 0) dX8_halved_62 (by decide) ?_
        refine r_istore C dX8_halved_63 rfl rfl ?_
        exact loop2 (Wn + 1) 0 0 (-1) _ _ _ rfl (Nat.zero_le _) hF (fun k hk => hB k (by omega)) rfl
      · exfalso; omega
    | succ m ih =>
      intro x x6 x7 x8 x9 x10 I' hm hF hB
      have inx : (nI x).toInt = (x : Int) := nIint (by omega)
      have hxx : ix (nI x) = x := nIix (by omega)
      refine r_iload C dX8_halved_18 rfl ?_
      refine r_iload C dX8_halved_20 rfl ?_
      refine b_icgt C (tgt := 45) rfl rfl dX8_halved_22 rfl (fun h22_1 => ?_) (fun h22_1 => ?_)
      · exfalso; omega
      · refine r_aload_n C dX8_halved_25 rfl ?_
        refine r_getR C flX8_9 dX8_halved_26 rfl rfl rfl ?_
        refine r_iload C dX8_halved_29 rfl ?_
        refine r_aload_n C dX8_halved_31 rfl ?_
        refine r_iload_n C dX8_halved_32 rfl ?_
        refine r_iload C dX8_halved_33 rfl ?_
        refine cV (ci := 8) C hx (key jb hjb x (by omega) I' hF) moX8_gotFromGlass mlX8_80 miX8_gotFromGlass msX8_gotFromGlass dX8_halved_35 rfl rfl rfl rfl rfl (by omega) rfl rfl (ki (fun v_35_2 I_35_2 q_35_2 => ?_))
        have hq := q_35_2
        rw [hq.1]
        refine r_iast C rfl dX8_halved_38 (nIin (n := 1000) (by omega) (by decide)) ?_
        rw [hxx]
        refine r_iinc C (v := 1) dX8_halved_39 rfl (by decide) rfl ?_
        refine r_goto C (tgt := 18) dX8_halved_42 rfl ?_
        rw [nI_s]
        refine ih (x + 1) _ _ _ _ _ _ (by omega) ((hF.tr hq.2 (fun _ h => h) (fun _ h => List.mem_cons_of_mem _ h)).st (by simp)) (fun k hk => ?_)
        by_cases e : k = x
        · rw [e, u2_same]
        · rw [u2_ne _ _ _ _ (Or.inr e), hq.2 29 (by decide)]; exact hB k (by omega)
  refine r_sipush C (v := 999) dX8_halved_0 (by decide) ?_
  refine r_aload_n C dX8_halved_3 rfl ?_
  refine r_getR C flX8_25 dX8_halved_4 rfl rfl rfl ?_
  refine r_getI C flX8_58 dX8_halved_7 rfl rfl ?_
  rw [hW]
  refine cmin C hx mlX8_75 dX8_halved_10 (by omega) rfl rfl ?_
  rw [imin999 hW9]
  refine r_istore C dX8_halved_13 rfl rfl ?_
  refine r_iconst C (v := 0) dX8_halved_15 (by decide) ?_
  refine r_istore C dX8_halved_16 rfl rfl ?_
  exact loop1 (Wn + 1) 0 _ _ _ _ _ I rfl Fr.rf (fun k hk => absurd hk (Nat.not_lt_zero k))
