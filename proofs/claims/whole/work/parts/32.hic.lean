def ushF (z : Int32) : Int32 := (z.toUInt32 >>> ((8 : Int32).toUInt32 &&& Int32.toUInt32 31)).toInt32
/-- who hiccups in a second: the draws go on from z -/
def hbF (lim z : Int32) : Nat → Int32 × Int32
  | 0 => (z, 0)
  | k + 1 => ((hbF lim z k).1 * 1103515245 + 12345, if (irm (ushF ((hbF lim z k).1 * 1103515245 + 12345)) 12).toInt < lim.toInt then (hbF lim z k).2 ||| (1 <<< (nI k &&& 31)) else (hbF lim z k).2)
def hsF (e : EV) (lim : Int32) (s : Nat) : Nat → Int32 → GV → Int32 × GV
  | 0, z, v => (z, v)
  | m + 1, z, v => hsF e lim s m (hbF lim z s).1 (secF e (bit 7) (bit 0) (bit (hbF lim z s).2) v)
def hgF (e : EV) (lim : Int32) (s : Nat) (v0 : GV) (x : Int32) : Nat → Int32 → Int32 → Int32
  | 0, _, sum => sum
  | m + 1, z, sum => hgF e lim s v0 x m (hsF e lim s 60 z v0).1 (sum + (if x.toInt < 0 then (hsF e lim s 60 z v0).2.1 else (hsF e lim s 60 z v0).2.2.2.2.2.1 (ix x)))
theorem hs_ok {e : EV} (he : EvOk e) {lim : Int32} {s : Nat} : ∀ (m : Nat) (z : Int32) (v : GV), VOk v → VOk (hsF e lim s m z v).2 := by
  intro m
  induction m with
  | zero => intro z v h; exact h
  | succ m ih => intro z v h; exact ih _ _ (sec_ok he h)
theorem hs_eqv {e : EV} (he : e.1 ≤ 3) {lim : Int32} {s : Nat} : ∀ (m : Nat) (z : Int32) (v w : GV), EqV v w → (hsF e lim s m z v).1 = (hsF e lim s m z w).1 ∧ EqV (hsF e lim s m z v).2 (hsF e lim s m z w).2 := by
  intro m
  induction m with
  | zero => intro z v w h; exact ⟨rfl, h⟩
  | succ m ih => intro z v w h; exact ih _ _ _ (secF_eqv he h)
set_option maxRecDepth 100000 in
set_option maxHeartbeats 400000 in
theorem sX8_hiccupped {g : Gb} {d : Nat} (hd : 8 ≤ d) (sd x : Int32) (n : Nat) (hn9 : n ≤ 20) (I : Is) (J : Js) (b : Bool) (hxx : x.toInt < 0 ∨ (0 ≤ x.toInt ∧ x.toInt < 3)) (s : Nat) (hs : (I 1 1).toInt = (s : Int)) (hs3 : s ≤ 3) (hNW : NW (I 1 1) (I 2)) (hTW : TW I b) (hv : VOk (gv I 16)) : MC9 g d mX8_hiccupped [.ref 28, .int sd, .int (nI n), .int x] I J b (Qi J b (fun v I' => v = hgF (en I b) (I 2 27) s (bgF (gv I 16)) x n sd 0 ∧ Fr [32, 33, 34, 35, 36, 37, 14, 15] I I')) := by
  refine ent9 (own := RX8) rfl rfl rfl (fun X hg hx C Z => ?_)
  subst hg
  have he := en_ok (b := b) hNW
  have inn : (nI n).toInt = (n : Int) := nIint (by omega)
  generalize hlim : I 2 27 = lim
  have lk : ∀ (m k : Nat) (z0 sum gl i : Int32) (I' : Is), m + k = s → Fr [32, 33, 34, 35, 36, 37, 14, 15] I I' → (Aw X 104 [some (.ref 28), some (.int sd), some (.int (nI n)), some (.int x), some (.int lim), some (.int (hbF lim z0 s).1), some (.int sum), some (.int gl), some (.int i), some (.int (hbF lim z0 s).2), some (.int (nI s))] [] (st9 I' J b)) →
      Aw X 53 [some (.ref 28), some (.int sd), some (.int (nI n)), some (.int x), some (.int lim), some (.int (hbF lim z0 k).1), some (.int sum), some (.int gl), some (.int i), some (.int (hbF lim z0 k).2), some (.int (nI k))] [] (st9 I' J b) := by
    intro m
    induction m with
    | zero =>
      intro k z0 sum gl i I' hm hF K
      have r1 : I' 1 = I 1 := hF 1 (by decide)
      have hk : k = s := by omega
      subst hk
      have ink : (nI k).toInt = (k : Int) := nIint (by omega)
      refine r_iload C dX8_hiccupped_53 rfl ?_
      refine r_aload_n C dX8_hiccupped_55 rfl ?_
      refine r_getR C flX8_21 dX8_hiccupped_56 rfl rfl rfl ?_
      refine r_getI C flX8_65 dX8_hiccupped_59 rfl rfl ?_
      rw [r1]
      refine b_icge C (tgt := 104) rfl rfl dX8_hiccupped_62 rfl (fun h62_1 => ?_) (fun h62_1 => ?_)
      · exact K
      · exfalso; omega
    | succ m ih =>
      intro k z0 sum gl i I' hm hF K
      have r1 : I' 1 = I 1 := hF 1 (by decide)
      have ink : (nI k).toInt = (k : Int) := nIint (by omega)
      refine r_iload C dX8_hiccupped_53 rfl ?_
      refine r_aload_n C dX8_hiccupped_55 rfl ?_
      refine r_getR C flX8_21 dX8_hiccupped_56 rfl rfl rfl ?_
      refine r_getI C flX8_65 dX8_hiccupped_59 rfl rfl ?_
      rw [r1]
      refine b_icge C (tgt := 104) rfl rfl dX8_hiccupped_62 rfl (fun h62_1 => ?_) (fun h62_1 => ?_)
      · exfalso; omega
      · refine r_iload C dX8_hiccupped_65 rfl ?_
        refine r_ldc C kkX8_140 dX8_hiccupped_67 ?_
        refine r_imul C dX8_hiccupped_69 ?_
        refine r_sipush C (v := 12345) dX8_hiccupped_70 (by decide) ?_
        refine r_iadd C dX8_hiccupped_73 ?_
        refine r_istore C dX8_hiccupped_74 rfl rfl ?_
        refine r_iload C dX8_hiccupped_76 rfl ?_
        refine r_bipush C (v := 8) dX8_hiccupped_78 (by decide) ?_
        refine r_iushr C dX8_hiccupped_80 ?_
        refine r_bipush C (v := 12) dX8_hiccupped_81 (by decide) ?_
        refine r_irem C dX8_hiccupped_83 (by decide) ?_
        refine r_iload C dX8_hiccupped_84 rfl ?_
        refine b_icge C (tgt := 98) rfl rfl dX8_hiccupped_86 rfl (fun h86_2 => ?_) (fun h86_2 => ?_)
        · refine r_iinc C (v := 1) dX8_hiccupped_98 rfl (by decide) rfl ?_
          refine r_goto C (tgt := 53) dX8_hiccupped_101 rfl ?_
          have e2 : (hbF lim z0 (k + 1)).2 = (hbF lim z0 k).2 := if_neg (Int.not_lt.mpr (by assumption))
          have k9 := ih (k + 1) z0 sum gl i I' (by omega) hF K
          rw [e2] at k9
          rw [nI_s]
          exact k9
        · refine r_iload C dX8_hiccupped_89 rfl ?_
          refine r_iconst C (v := 1) dX8_hiccupped_91 (by decide) ?_
          refine r_iload C dX8_hiccupped_92 rfl ?_
          refine r_ishl C dX8_hiccupped_94 ?_
          refine r_ior C dX8_hiccupped_95 ?_
          refine r_istore C dX8_hiccupped_96 rfl rfl ?_
          refine r_iinc C (v := 1) dX8_hiccupped_98 rfl (by decide) rfl ?_
          refine r_goto C (tgt := 53) dX8_hiccupped_101 rfl ?_
          have e2 : (hbF lim z0 (k + 1)).2 = (hbF lim z0 k).2 ||| (1 <<< (nI k &&& 31)) := if_pos (by assumption)
          have k9 := ih (k + 1) z0 sum gl i I' (by omega) hF K
          rw [e2] at k9
          rw [nI_s]
          exact k9
  have ls : ∀ (m i : Nat) (z0 sum gl : Int32) (x9 x10 : Option Value) (v : GV) (I' : Is), m + i = 60 → VOk v → EqV (gv I' 32) v → Fr [32, 33, 34, 35, 36, 37, 14, 15] I I' →
      (∀ (x8 : Int32) (x9 x10 : Option Value) (I2 : Is), EqV (gv I2 32) (hsF (en I b) lim s m z0 v).2 → Fr [32, 33, 34, 35, 36, 37, 14, 15] I I2 → Aw X 122 [some (.ref 28), some (.int sd), some (.int (nI n)), some (.int x), some (.int lim), some (.int (hsF (en I b) lim s m z0 v).1), some (.int sum), some (.int gl), some (.int x8), x9, x10] [] (st9 I2 J b)) →
      Aw X 40 [some (.ref 28), some (.int sd), some (.int (nI n)), some (.int x), some (.int lim), some (.int z0), some (.int sum), some (.int gl), some (.int (nI i)), x9, x10] [] (st9 I' J b) := by
    intro m
    induction m with
    | zero =>
      intro i z0 sum gl x9 x10 v I' hm hvo hE hF K
      have ini : (nI i).toInt = (i : Int) := nIint (by omega)
      refine r_iload C dX8_hiccupped_40 rfl ?_
      refine r_bipush C (v := 60) dX8_hiccupped_42 (by decide) ?_
      refine b_icge C (tgt := 122) (my := 60) rfl rfl dX8_hiccupped_44 rfl (fun h44_1 => ?_) (fun h44_1 => ?_)
      · exact K _ _ _ _ hE hF
      · exfalso; omega
    | succ m ih =>
      intro i z0 sum gl x9 x10 v I' hm hvo hE hF K
      have ini : (nI i).toInt = (i : Int) := nIint (by omega)
      have hvi : VOk (gv I' 32) := VOk.eqv hE hvo
      have hen : en I' b = en I b := en_rows (fun c hc => hF c (by revert hc; revert c; decide))
      refine r_iload C dX8_hiccupped_40 rfl ?_
      refine r_bipush C (v := 60) dX8_hiccupped_42 (by decide) ?_
      refine b_icge C (tgt := 122) (my := 60) rfl rfl dX8_hiccupped_44 rfl (fun h44_1 => ?_) (fun h44_1 => ?_)
      · exfalso; omega
      · refine r_iconst C (v := 0) dX8_hiccupped_47 (by decide) ?_
        refine r_istore C dX8_hiccupped_48 rfl rfl ?_
        refine r_iconst C (v := 0) dX8_hiccupped_50 (by decide) ?_
        refine r_istore C dX8_hiccupped_51 rfl rfl ?_
        refine lk s 0 z0 sum gl (nI i) I' rfl hF ?_
        refine r_aload_n C dX8_hiccupped_104 rfl ?_
        refine r_getR C flX8_34 dX8_hiccupped_105 rfl rfl rfl ?_
        refine r_bipush C (v := 7) dX8_hiccupped_108 (by decide) ?_
        refine r_iconst C (v := 0) dX8_hiccupped_110 (by decide) ?_
        refine r_iload C dX8_hiccupped_111 rfl ?_
        refine cV (ci := 1) C hx (passT_32 (d := d - 1) (by omega) 7 0 (hbF lim z0 s).2 I' J b (NW_rows (fun c hc => hF c (by revert hc; revert c; decide)) hNW) (TW_rows (fun c hc => hF c (by revert hc; revert c; decide)) hTW) hvi) moX1_pass mlX8_44 miX1_pass msX1_pass dX8_hiccupped_113 rfl rfl rfl rfl rfl (by omega) rfl rfl (kv (fun I_113_1 q_113_1 => ?_))
        have hq := q_113_1
        refine r_iinc C (v := 1) dX8_hiccupped_116 rfl (by decide) rfl ?_
        refine r_goto C (tgt := 40) dX8_hiccupped_119 rfl ?_
        rw [nI_s]
        exact ih (i + 1) _ _ _ _ _ (secF (en I b) (bit 7) (bit 0) (bit (hbF lim z0 s).2) v) _ (by omega) (sec_ok he hvo) (by rw [hq.1, hen]; exact secF_eqv he.1 hE) (hF.tr hq.2.2.2 (by decide) (by decide)) K
  have lg : ∀ (m i : Nat) (z0 sum : Int32) (x8 x9 x10 : Option Value) (I' : Is), m + i = n → Fr [32, 33, 34, 35, 36, 37, 14, 15] I I' → hgF (en I b) lim s (bgF (gv I 16)) x m z0 sum = hgF (en I b) lim s (bgF (gv I 16)) x n sd 0 →
      Aw X 20 [some (.ref 28), some (.int sd), some (.int (nI n)), some (.int x), some (.int lim), some (.int z0), some (.int sum), some (.int (nI i)), x8, x9, x10] [] (st9 I' J b) := by
    intro m
    induction m with
    | zero =>
      intro i z0 sum x8 x9 x10 I' hm hF hg
      have ini : (nI i).toInt = (i : Int) := nIint (by omega)
      refine r_iload C dX8_hiccupped_20 rfl ?_
      refine r_iload_n C dX8_hiccupped_22 rfl ?_
      refine b_icge C (tgt := 156) rfl rfl dX8_hiccupped_23 rfl (fun h23_1 => ?_) (fun h23_1 => ?_)
      · refine r_iload C dX8_hiccupped_156 rfl ?_
        exact ri C Z dX8_hiccupped_158 ⟨by rw [hlim, ← hg]; rfl, hF⟩
      · exfalso; omega
    | succ m ih =>
      intro i z0 sum x8 x9 x10 I' hm hF hg
      have ini : (nI i).toInt = (i : Int) := nIint (by omega)
      have hst : hgF (en I b) lim s (bgF (gv I 16)) x (m + 1) z0 sum = hgF (en I b) lim s (bgF (gv I 16)) x m (hsF (en I b) lim s 60 z0 (bgF (gv I 16))).1 (sum + (if x.toInt < 0 then (hsF (en I b) lim s 60 z0 (bgF (gv I 16))).2.1 else (hsF (en I b) lim s 60 z0 (bgF (gv I 16))).2.2.2.2.2.1 (ix x))) := rfl
      rw [hst] at hg
      clear hst
      have g16 : gv I' 16 = gv I 16 := gv_rows (fun c hc => hF c (by revert hc; revert c; decide))
      refine r_iload C dX8_hiccupped_20 rfl ?_
      refine r_iload_n C dX8_hiccupped_22 rfl ?_
      refine b_icge C (tgt := 156) rfl rfl dX8_hiccupped_23 rfl (fun h23_1 => ?_) (fun h23_1 => ?_)
      · exfalso; omega
      · refine r_aload_n C dX8_hiccupped_26 rfl ?_
        refine r_getR C flX8_34 dX8_hiccupped_27 rfl rfl rfl ?_
        refine r_aload_n C dX8_hiccupped_30 rfl ?_
        refine r_getR C flX8_25 dX8_hiccupped_31 rfl rfl rfl ?_
        refine cV (ci := 1) C hx (sX1_begin_32_16 (d := d - 1) (by omega) I' J b) moX1_begin mlX8_40 miX1_begin msX1_begin dX8_hiccupped_34 rfl rfl rfl rfl rfl (by omega) rfl rfl (kv (fun I_34_2 q_34_2 => ?_))
        have hq := q_34_2
        rw [g16] at hq
        refine r_iconst C (v := 0) dX8_hiccupped_37 (by decide) ?_
        refine r_istore C dX8_hiccupped_38 rfl rfl ?_
        refine ls 60 0 z0 sum (nI i) _ _ (bgF (gv I 16)) _ rfl (bg_ok hv) hq.1 (hF.tr hq.2.2 (by decide) (by decide)) (fun x8 x9 x10 I2 hE2 hF2 => ?_)
        refine r_iload C dX8_hiccupped_122 rfl ?_
        refine r_iload_n C dX8_hiccupped_124 rfl ?_
        refine b_ifge C (tgt := 138) dX8_hiccupped_125 rfl (fun h125_1 => ?_) (fun h125_1 => ?_)
        · refine r_aload_n C dX8_hiccupped_138 rfl ?_
          refine r_getR C flX8_34 dX8_hiccupped_139 rfl rfl rfl ?_
          refine r_getR C flX8_68 dX8_hiccupped_142 rfl rfl rfl ?_
          refine r_iload_n C dX8_hiccupped_145 rfl ?_
          refine r_iald C rfl dX8_hiccupped_146 (vin (by omega) (show x.toInt < 3 by omega)) ?_
          refine r_iadd C dX8_hiccupped_147 ?_
          refine r_istore C dX8_hiccupped_148 rfl rfl ?_
          refine r_iinc C (v := 1) dX8_hiccupped_150 rfl (by decide) rfl ?_
          refine r_goto C (tgt := 20) dX8_hiccupped_153 rfl ?_
          rw [if_neg (by omega), ← hE2.2.2.2.2.1 (ix x) (by have := ix_nn (i := x) (by omega); omega)] at hg
          rw [nI_s]
          exact ih (i + 1) _ _ _ _ _ _ (by omega) hF2 hg
        · refine r_aload_n C dX8_hiccupped_128 rfl ?_
          refine r_getR C flX8_34 dX8_hiccupped_129 rfl rfl rfl ?_
          refine r_getI C flX8_58 dX8_hiccupped_132 rfl rfl ?_
          refine r_goto C (tgt := 147) dX8_hiccupped_135 rfl ?_
          refine r_iadd C dX8_hiccupped_147 ?_
          refine r_istore C dX8_hiccupped_148 rfl rfl ?_
          refine r_iinc C (v := 1) dX8_hiccupped_150 rfl (by decide) rfl ?_
          refine r_goto C (tgt := 20) dX8_hiccupped_153 rfl ?_
          rw [if_pos (by assumption), ← hE2.1] at hg
          rw [nI_s]
          exact ih (i + 1) _ _ _ _ _ _ (by omega) hF2 hg
  refine r_aload_n C dX8_hiccupped_0 rfl ?_
  refine r_getR C flX8_21 dX8_hiccupped_1 rfl rfl rfl ?_
  refine r_bipush C (v := 11) dX8_hiccupped_4 (by decide) ?_
  refine cV (ci := 3) C hx (sOg (d := d - 1) (by omega) 11 (by decide) (by decide) I J b) moX3_ofGlass mlX8_109 miX3_ofGlass msX3_ofGlass dX8_hiccupped_6 rfl rfl rfl rfl rfl (by omega) rfl rfl (kp ?_)
  rw [show I 2 (16 + 11) = lim from hlim]
  refine r_istore C dX8_hiccupped_9 rfl rfl ?_
  refine r_iload_n C dX8_hiccupped_11 rfl ?_
  refine r_istore C dX8_hiccupped_12 rfl rfl ?_
  refine r_iconst C (v := 0) dX8_hiccupped_14 (by decide) ?_
  refine r_istore C dX8_hiccupped_15 rfl rfl ?_
  refine r_iconst C (v := 0) dX8_hiccupped_17 (by decide) ?_
  refine r_istore C dX8_hiccupped_18 rfl rfl ?_
  exact lg n 0 sd 0 _ _ _ I rfl Fr.rf rfl
