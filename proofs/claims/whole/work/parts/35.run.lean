/-- bodies noted in their order -/
def ntL (I : Is) (l : List Int32) : Is := l.foldl ntF I
theorem ntL_app (I : Is) (l l' : List Int32) : ntL I (l ++ l') = ntL (ntL I l) l' := List.foldl_append
theorem ntF_row (I : Is) (bo : Int32) {t : Nat} (h : t ≠ 48) (h' : t ≠ 50) : ntF I bo t = I t := by
  unfold ntF
  rw [u2_row h]
  split
  · rw [u2_row h']
  · rfl
theorem ntL_row {t : Nat} (h : t ≠ 48) (h' : t ≠ 50) : ∀ (l : List Int32) (I : Is), ntL I l t = I t
  | [], _ => rfl
  | bo :: l, I => (ntL_row h h' l (ntF I bo)).trans (ntF_row I bo h h')
theorem ntF_ran (I : Is) (bo : Int32) (h0 : 0 ≤ (I 48 1).toInt) (h1 : (I 48 1).toInt < 1000) : (ntF I bo 48 1).toInt = (I 48 1).toInt + 1 := by
  unfold ntF
  rw [u2_same, tI_add (by rw [one_int]; omega) (by rw [one_int]; omega), one_int]
theorem ntL_ran : ∀ (l : List Int32) (I : Is), 0 ≤ (I 48 1).toInt → (I 48 1).toInt + l.length ≤ 1000 → (ntL I l 48 1).toInt = (I 48 1).toInt + l.length
  | [], I, _, _ => by show (I 48 1).toInt = (I 48 1).toInt + ((0 : Nat) : Int); omega
  | bo :: l, I, h0, h1 => by
    have h2 : (I 48 1).toInt + ((l.length + 1 : Nat) : Int) ≤ 1000 := h1
    have h3 := ntF_ran I bo h0 (by omega)
    have h4 := ntL_ran l (ntF I bo) (by omega) (by omega)
    show (ntL (ntF I bo) l 48 1).toInt = (I 48 1).toInt + ((l.length + 1 : Nat) : Int)
    omega
theorem owF_lt (a : Int32) : ∀ (m : Nat) (x : Int32), (owF a m x).toInt < 8
  | 0, _ => by show (-1 : Int32).toInt < 8; decide
  | m + 1, x => by
    show (if x.toInt < 0 ∨ 8 ≤ x.toInt then (-1 : Int32) else if ¬ ownF x a = 0 then x else owF a m (abvF x)).toInt < 8
    split
    · decide
    · split
      · omega
      · exact owF_lt a m _
/-- what a body answers and the bodies that it runs -/
def rnB (n own up x : Int32) (R : Int32 → Int32 → Int32 → Int32 × List Int32) (bo : Int32) : Int32 × List Int32 :=
  if bo = 1 then (x + n, []) else
  if bo = 2 then ((R own 1 x).1 - (R own 2 1).1, (R own 1 x).2 ++ (R own 2 1).2) else
  if bo = 10 then ((R own 0 x).1 * 2, (R own 0 x).2) else
  if bo = 11 then (x ^^^ n, []) else
  if bo = 20 then ((R up 0 x).1 + 3, (R up 0 x).2) else
  if bo = 30 then (-(R up 1 x).1, (R up 1 x).2) else
  if bo = 40 then ((R up 2 x).1 * 3, (R up 2 x).2) else
  if bo = 41 then ((R up 1 (x + 1)).1, (R up 1 (x + 1)).2) else
  if bo = 50 then ((R up 2 x).1 - (R own 0 2).1, (R up 2 x).2 ++ (R own 0 2).2) else
  if bo = 60 then ((R up 3 x).1 ^^^ 5, (R up 3 x).2) else
  if bo = 70 then ((R up 0 x).1 * 2, (R up 0 x).2) else
  if bo = 80 then ((R up 1 x).1 + (R own 2 2).1, (R up 1 x).2 ++ (R own 2 2).2) else
  if bo = 81 then ((R up 3 x).1 - 1, (R up 3 x).2) else
  (0, [])
/-- an act: its answer and the bodies that ran -/
def runF (n own : Int32) : Nat → Int32 → Int32 → Int32 → Int32 × List Int32
  | 0, _, _, _ => (0, [])
  | m + 1, k, a, x => if (owF a 8 k).toInt < 0 then (0, []) else ((rnB n own (abvF (owF a 8 k)) x (runF n own m) (ownF (owF a 8 k) a)).1, ownF (owF a 8 k) a :: (rnB n own (abvF (owF a 8 k)) x (runF n own m) (ownF (owF a 8 k) a)).2)
set_option maxRecDepth 100000 in
set_option maxHeartbeats 400000 in
theorem sX5_run {g : Gb} (n own : Int32) (hn : 0 ≤ n.toInt ∧ n.toInt < 50) (J : Js) (b : Bool) : ∀ (m : Nat) {d : Nat} (hm : m ≤ 41) (hd : m + 2 ≤ d) (k a x dep : Int32) (I : Is) (ha : 0 ≤ a.toInt ∧ a.toInt < 4) (hdep : dep.toInt + m = 41) (ho : I 49 (ix n) = own) (h0 : 0 ≤ (I 48 1).toInt) (h1 : (I 48 1).toInt + (runF n own m k a x).2.length ≤ 1000), MC9 g d mX5_run [.ref 48, .int n, .int k, .int a, .int x, .int dep] I J b (Qi J b (fun v I' => v = (runF n own m k a x).1 ∧ I' = ntL I (runF n own m k a x).2)) := by
  intro m
  induction m with
  | zero =>
    intro d hm hd k a x dep I ha hdep ho h0 h1
    refine ent9 (own := RX5) rfl rfl rfl (fun X hg hx C Z => ?_)
    subst hg
    refine r_iload_n C dX5_run_0 rfl ?_
    refine r_iload_n C dX5_run_1 rfl ?_
    refine cS C hx (sX5_ownerOf (d := d - 1) (by omega) k a I J b ha) moX5_ownerOf mlX5_36 mtX5_ownerOf dX5_run_2 rfl rfl (by omega) rfl rfl (ki (fun v_2_1 I_2_1 q_2_1 => ?_))
    obtain ⟨hII, hat⟩ := q_2_1
    rw [hII]
    clear hII
    refine r_istore C dX5_run_5 rfl rfl ?_
    refine r_iload C dX5_run_7 rfl ?_
    refine b_iflt C (tgt := 19) dX5_run_9 rfl (fun h9_2 => ?_) (fun h9_2 => ?_)
    · refine r_iconst C (v := 0) dX5_run_19 (by decide) ?_
      exact ri C Z dX5_run_20 ⟨rfl, rfl⟩
    · refine r_iload C dX5_run_12 rfl ?_
      refine r_bipush C (v := 40) dX5_run_14 (by decide) ?_
      refine b_icle C (tgt := 21) (my := 40) rfl rfl dX5_run_16 rfl (fun h16_3 => ?_) (fun h16_3 => ?_)
      · exfalso; omega
      · refine r_iconst C (v := 0) dX5_run_19 (by decide) ?_
        exact ri C Z dX5_run_20 ⟨rfl, rfl⟩
  | succ m ih =>
    intro d hm hd k a x dep I ha hdep ho h0 h1
    refine ent9 (own := RX5) rfl rfl rfl (fun X hg hx C Z => ?_)
    subst hg
    refine r_iload_n C dX5_run_0 rfl ?_
    refine r_iload_n C dX5_run_1 rfl ?_
    refine cS C hx (sX5_ownerOf (d := d - 1) (by omega) k a I J b ha) moX5_ownerOf mlX5_36 mtX5_ownerOf dX5_run_2 rfl rfl (by omega) rfl rfl (ki (fun v_2_1 I_2_1 q_2_1 => ?_))
    obtain ⟨hII, hat⟩ := q_2_1
    rw [hII]
    clear hII
    refine r_istore C dX5_run_5 rfl rfl ?_
    refine r_iload C dX5_run_7 rfl ?_
    refine b_iflt C (tgt := 19) dX5_run_9 rfl (fun h9_2 => ?_) (fun h9_2 => ?_)
    · have hst : runF n own (m + 1) k a x = (0, []) := if_pos (by rw [← hat]; assumption)
      refine r_iconst C (v := 0) dX5_run_19 (by decide) ?_
      exact ri C Z dX5_run_20 ⟨(congrArg Prod.fst hst).symm, (congrArg (fun z : Int32 × List Int32 => ntL I z.2) hst).symm⟩
    · refine r_iload C dX5_run_12 rfl ?_
      refine r_bipush C (v := 40) dX5_run_14 (by decide) ?_
      refine b_icle C (tgt := 21) (my := 40) rfl rfl dX5_run_16 rfl (fun h16_3 => ?_) (fun h16_3 => ?_)
      · have hv0 : ¬ v_2_1.toInt < 0 := by omega
        have hv8 : v_2_1.toInt < 8 := by rw [hat]; exact owF_lt a 8 k
        have hst : runF n own (m + 1) k a x = ((rnB n own (abvF v_2_1) x (runF n own m) (ownF v_2_1 a)).1, ownF v_2_1 a :: (rnB n own (abvF v_2_1) x (runF n own m) (ownF v_2_1 a)).2) := by
          subst hat
          exact if_neg hv0
        clear hat
        obtain ⟨bo, hbo⟩ : ∃ z, ownF v_2_1 a = z := ⟨_, rfl⟩
        rw [hbo] at hst
        refine r_gets C (j := 4) rfl gsX5_40 dX5_run_21 ?_
        refine r_iload C dX5_run_24 rfl ?_
        refine r_iconst C (v := 4) dX5_run_26 (by decide) ?_
        refine r_imul C dX5_run_27 ?_
        refine r_iload_n C dX5_run_28 rfl ?_
        refine r_iadd C dX5_run_29 ?_
        refine r_iaro C (j := 4) rfl dX5_run_30 (own_in ⟨by omega, by omega⟩ ha) ?_
        rw [show roF (x_g X) 4 (ix (v_2_1 * 4 + a)) = bo from hbo]
        clear hbo
        refine r_istore C dX5_run_31 rfl rfl ?_
        refine r_aload_n C dX5_run_33 rfl ?_
        refine r_iload C dX5_run_34 rfl ?_
        refine cV (ci := 5) C hx (sX5_note (d := d - 1) (by omega) bo I J b h0) moX5_note mlX5_43 miX5_note msX5_note dX5_run_36 rfl rfl rfl rfl rfl (by omega) rfl rfl (kv (fun I_36_4 q_36_4 => ?_))
        obtain rfl := q_36_4
        refine r_aload_n C dX5_run_39 rfl ?_
        refine r_getR C flX5_11 dX5_run_40 rfl rfl rfl ?_
        refine r_iload_n C dX5_run_43 rfl ?_
        refine r_iald C rfl dX5_run_44 (vin hn.1 (show n.toInt < 50 from hn.2)) ?_
        rw [show ntF I bo 49 (ix n) = own from (congrFun (ntF_row I bo (by decide) (by decide)) _).trans ho]
        refine r_istore C dX5_run_45 rfl rfl ?_
        refine r_gets C (j := 3) rfl gsX5_26 dX5_run_47 ?_
        refine r_iload C dX5_run_50 rfl ?_
        refine r_iaro C (j := 3) rfl dX5_run_52 (vin (by omega) (show v_2_1.toInt < 8 by omega)) ?_
        rw [show roF (x_g X) 3 (ix v_2_1) = abvF v_2_1 from rfl]
        refine r_istore C dX5_run_53 rfl rfl ?_
        refine r_iload C dX5_run_55 rfl ?_
        refine r_iconst C (v := 1) dX5_run_57 (by decide) ?_
        refine r_iadd C dX5_run_58 ?_
        refine r_istore C dX5_run_59 rfl rfl ?_
        have hdd : (dep + 1).toInt + (m : Int) = 41 := by
          rw [tI_add (by rw [one_int]; omega) (by rw [one_int]; omega), one_int]; omega
        have hN49 : ntF I bo 49 (ix n) = own := (congrFun (ntF_row I bo (by decide) (by decide)) _).trans ho
        have hL : (I 48 1).toInt + (((rnB n own (abvF v_2_1) x (runF n own m) bo).2.length + 1 : Nat) : Int) ≤ 1000 := by rw [hst] at h1; exact h1
        have hN0 := ntF_ran I bo h0 (by omega)
        refine r_iload C dX5_run_61 rfl ?_
        by_cases c1 : bo = 1
        · subst c1
          have hB : rnB n own (abvF v_2_1) x (runF n own m) 1 = (x + n, []) := rfl
          rw [hB] at hst hL
          have hM : (I 48 1).toInt + ((([] : List Int32).length + 1 : Nat) : Int) ≤ 1000 := hL
          clear hL hB
          refine r_lookup C (tgt := 176) dX5_run_63 (by decide) (show _ = (113 : Int) from rfl) rfl ?_
          refine r_iload C dX5_run_176 rfl ?_
          refine r_iload_n C dX5_run_178 rfl ?_
          refine r_iadd C dX5_run_179 ?_
          exact ri C Z dX5_run_180 ⟨(congrArg Prod.fst hst).symm, (congrArg (fun z : Int32 × List Int32 => ntL I z.2) hst).symm⟩
        have n1 := ne_int c1
        have m1 : (1 : Int32).toInt = 1 := rfl
        by_cases c2 : bo = 2
        · subst c2
          have hB : rnB n own (abvF v_2_1) x (runF n own m) 2 = ((runF n own m own 1 x).1 - (runF n own m own 2 1).1, (runF n own m own 1 x).2 ++ (runF n own m own 2 1).2) := rfl
          rw [hB] at hst hL
          have hM : (I 48 1).toInt + ((((runF n own m own 1 x).2 ++ (runF n own m own 2 1).2 : List Int32).length + 1 : Nat) : Int) ≤ 1000 := hL
          rw [List.length_append] at hM
          clear hL hB
          refine r_lookup C (tgt := 181) dX5_run_63 (by decide) (show _ = (118 : Int) from rfl) rfl ?_
          refine r_aload_n C dX5_run_181 rfl ?_
          refine r_iload_n C dX5_run_182 rfl ?_
          refine r_iload C dX5_run_183 rfl ?_
          refine r_iconst C (v := 1) dX5_run_185 (by decide) ?_
          refine r_iload C dX5_run_186 rfl ?_
          refine r_iload C dX5_run_188 rfl ?_
          refine cV (ci := 5) C hx (ih (d := d - 1) (by omega) (by omega) own 1 x (dep + 1) (ntF I 2) (by decide) hdd hN49 (by omega) (by omega)) moX5_run mlX5_32 miX5_run msX5_run dX5_run_190 rfl rfl rfl rfl rfl (by omega) rfl rfl (ki (fun v_190_5 I_190_5 q_190_5 => ?_))
          obtain ⟨rfl, rfl⟩ := q_190_5
          refine r_aload_n C dX5_run_193 rfl ?_
          refine r_iload_n C dX5_run_194 rfl ?_
          refine r_iload C dX5_run_195 rfl ?_
          refine r_iconst C (v := 2) dX5_run_197 (by decide) ?_
          refine r_iconst C (v := 1) dX5_run_198 (by decide) ?_
          refine r_iload C dX5_run_199 rfl ?_
          refine cV (ci := 5) C hx (ih (d := d - 1) (by omega) (by omega) own 2 1 (dep + 1) (ntL (ntF I 2) (runF n own m own 1 x).2) (by decide) hdd ((congrFun (ntL_row (t := 49) (by decide) (by decide) _ _) _).trans hN49) (by have := ntL_ran (runF n own m own 1 x).2 (ntF I 2) (by omega) (by omega); omega) (by have := ntL_ran (runF n own m own 1 x).2 (ntF I 2) (by omega) (by omega); omega)) moX5_run mlX5_32 miX5_run msX5_run dX5_run_201 rfl rfl rfl rfl rfl (by omega) rfl rfl (ki (fun v_201_6 I_201_6 q_201_6 => ?_))
          obtain ⟨rfl, rfl⟩ := q_201_6
          refine r_isub C dX5_run_204 ?_
          exact ri C Z dX5_run_205 ⟨(congrArg Prod.fst hst).symm, ((congrArg (fun z : Int32 × List Int32 => ntL I z.2) hst).trans (ntL_app (ntF I 2) _ _)).symm⟩
        have n2 := ne_int c2
        have m2 : (2 : Int32).toInt = 2 := rfl
        by_cases c10 : bo = 10
        · subst c10
          have hB : rnB n own (abvF v_2_1) x (runF n own m) 10 = ((runF n own m own 0 x).1 * 2, (runF n own m own 0 x).2) := rfl
          rw [hB] at hst hL
          have hM : (I 48 1).toInt + ((((runF n own m own 0 x).2 : List Int32).length + 1 : Nat) : Int) ≤ 1000 := hL
          clear hL hB
          refine r_lookup C (tgt := 206) dX5_run_63 (by decide) (show _ = (143 : Int) from rfl) rfl ?_
          refine r_aload_n C dX5_run_206 rfl ?_
          refine r_iload_n C dX5_run_207 rfl ?_
          refine r_iload C dX5_run_208 rfl ?_
          refine r_iconst C (v := 0) dX5_run_210 (by decide) ?_
          refine r_iload C dX5_run_211 rfl ?_
          refine r_iload C dX5_run_213 rfl ?_
          refine cV (ci := 5) C hx (ih (d := d - 1) (by omega) (by omega) own 0 x (dep + 1) (ntF I 10) (by decide) hdd hN49 (by omega) (by omega)) moX5_run mlX5_32 miX5_run msX5_run dX5_run_215 rfl rfl rfl rfl rfl (by omega) rfl rfl (ki (fun v_215_7 I_215_7 q_215_7 => ?_))
          obtain ⟨rfl, rfl⟩ := q_215_7
          refine r_iconst C (v := 2) dX5_run_218 (by decide) ?_
          refine r_imul C dX5_run_219 ?_
          exact ri C Z dX5_run_220 ⟨(congrArg Prod.fst hst).symm, (congrArg (fun z : Int32 × List Int32 => ntL I z.2) hst).symm⟩
        have n10 := ne_int c10
        have m10 : (10 : Int32).toInt = 10 := rfl
        by_cases c11 : bo = 11
        · subst c11
          have hB : rnB n own (abvF v_2_1) x (runF n own m) 11 = (x ^^^ n, []) := rfl
          rw [hB] at hst hL
          have hM : (I 48 1).toInt + ((([] : List Int32).length + 1 : Nat) : Int) ≤ 1000 := hL
          clear hL hB
          refine r_lookup C (tgt := 221) dX5_run_63 (by decide) (show _ = (158 : Int) from rfl) rfl ?_
          refine r_iload C dX5_run_221 rfl ?_
          refine r_iload_n C dX5_run_223 rfl ?_
          refine r_ixor C dX5_run_224 ?_
          exact ri C Z dX5_run_225 ⟨(congrArg Prod.fst hst).symm, (congrArg (fun z : Int32 × List Int32 => ntL I z.2) hst).symm⟩
        have n11 := ne_int c11
        have m11 : (11 : Int32).toInt = 11 := rfl
        by_cases c20 : bo = 20
        · subst c20
          have hB : rnB n own (abvF v_2_1) x (runF n own m) 20 = ((runF n own m (abvF v_2_1) 0 x).1 + 3, (runF n own m (abvF v_2_1) 0 x).2) := rfl
          rw [hB] at hst hL
          have hM : (I 48 1).toInt + ((((runF n own m (abvF v_2_1) 0 x).2 : List Int32).length + 1 : Nat) : Int) ≤ 1000 := hL
          clear hL hB
          refine r_lookup C (tgt := 226) dX5_run_63 (by decide) (show _ = (163 : Int) from rfl) rfl ?_
          refine r_aload_n C dX5_run_226 rfl ?_
          refine r_iload_n C dX5_run_227 rfl ?_
          refine r_iload C dX5_run_228 rfl ?_
          refine r_iconst C (v := 0) dX5_run_230 (by decide) ?_
          refine r_iload C dX5_run_231 rfl ?_
          refine r_iload C dX5_run_233 rfl ?_
          refine cV (ci := 5) C hx (ih (d := d - 1) (by omega) (by omega) (abvF v_2_1) 0 x (dep + 1) (ntF I 20) (by decide) hdd hN49 (by omega) (by omega)) moX5_run mlX5_32 miX5_run msX5_run dX5_run_235 rfl rfl rfl rfl rfl (by omega) rfl rfl (ki (fun v_235_8 I_235_8 q_235_8 => ?_))
          obtain ⟨rfl, rfl⟩ := q_235_8
          refine r_iconst C (v := 3) dX5_run_238 (by decide) ?_
          refine r_iadd C dX5_run_239 ?_
          exact ri C Z dX5_run_240 ⟨(congrArg Prod.fst hst).symm, (congrArg (fun z : Int32 × List Int32 => ntL I z.2) hst).symm⟩
        have n20 := ne_int c20
        have m20 : (20 : Int32).toInt = 20 := rfl
        by_cases c30 : bo = 30
        · subst c30
          have hB : rnB n own (abvF v_2_1) x (runF n own m) 30 = (-(runF n own m (abvF v_2_1) 1 x).1, (runF n own m (abvF v_2_1) 1 x).2) := rfl
          rw [hB] at hst hL
          have hM : (I 48 1).toInt + ((((runF n own m (abvF v_2_1) 1 x).2 : List Int32).length + 1 : Nat) : Int) ≤ 1000 := hL
          clear hL hB
          refine r_lookup C (tgt := 241) dX5_run_63 (by decide) (show _ = (178 : Int) from rfl) rfl ?_
          refine r_aload_n C dX5_run_241 rfl ?_
          refine r_iload_n C dX5_run_242 rfl ?_
          refine r_iload C dX5_run_243 rfl ?_
          refine r_iconst C (v := 1) dX5_run_245 (by decide) ?_
          refine r_iload C dX5_run_246 rfl ?_
          refine r_iload C dX5_run_248 rfl ?_
          refine cV (ci := 5) C hx (ih (d := d - 1) (by omega) (by omega) (abvF v_2_1) 1 x (dep + 1) (ntF I 30) (by decide) hdd hN49 (by omega) (by omega)) moX5_run mlX5_32 miX5_run msX5_run dX5_run_250 rfl rfl rfl rfl rfl (by omega) rfl rfl (ki (fun v_250_9 I_250_9 q_250_9 => ?_))
          obtain ⟨rfl, rfl⟩ := q_250_9
          refine r_ineg C dX5_run_253 ?_
          exact ri C Z dX5_run_254 ⟨(congrArg Prod.fst hst).symm, (congrArg (fun z : Int32 × List Int32 => ntL I z.2) hst).symm⟩
        have n30 := ne_int c30
        have m30 : (30 : Int32).toInt = 30 := rfl
        by_cases c40 : bo = 40
        · subst c40
          have hB : rnB n own (abvF v_2_1) x (runF n own m) 40 = ((runF n own m (abvF v_2_1) 2 x).1 * 3, (runF n own m (abvF v_2_1) 2 x).2) := rfl
          rw [hB] at hst hL
          have hM : (I 48 1).toInt + ((((runF n own m (abvF v_2_1) 2 x).2 : List Int32).length + 1 : Nat) : Int) ≤ 1000 := hL
          clear hL hB
          refine r_lookup C (tgt := 255) dX5_run_63 (by decide) (show _ = (192 : Int) from rfl) rfl ?_
          refine r_aload_n C dX5_run_255 rfl ?_
          refine r_iload_n C dX5_run_256 rfl ?_
          refine r_iload C dX5_run_257 rfl ?_
          refine r_iconst C (v := 2) dX5_run_259 (by decide) ?_
          refine r_iload C dX5_run_260 rfl ?_
          refine r_iload C dX5_run_262 rfl ?_
          refine cV (ci := 5) C hx (ih (d := d - 1) (by omega) (by omega) (abvF v_2_1) 2 x (dep + 1) (ntF I 40) (by decide) hdd hN49 (by omega) (by omega)) moX5_run mlX5_32 miX5_run msX5_run dX5_run_264 rfl rfl rfl rfl rfl (by omega) rfl rfl (ki (fun v_264_10 I_264_10 q_264_10 => ?_))
          obtain ⟨rfl, rfl⟩ := q_264_10
          refine r_iconst C (v := 3) dX5_run_267 (by decide) ?_
          refine r_imul C dX5_run_268 ?_
          exact ri C Z dX5_run_269 ⟨(congrArg Prod.fst hst).symm, (congrArg (fun z : Int32 × List Int32 => ntL I z.2) hst).symm⟩
        have n40 := ne_int c40
        have m40 : (40 : Int32).toInt = 40 := rfl
        by_cases c41 : bo = 41
        · subst c41
          have hB : rnB n own (abvF v_2_1) x (runF n own m) 41 = ((runF n own m (abvF v_2_1) 1 (x + 1)).1, (runF n own m (abvF v_2_1) 1 (x + 1)).2) := rfl
          rw [hB] at hst hL
          have hM : (I 48 1).toInt + ((((runF n own m (abvF v_2_1) 1 (x + 1)).2 : List Int32).length + 1 : Nat) : Int) ≤ 1000 := hL
          clear hL hB
          refine r_lookup C (tgt := 270) dX5_run_63 (by decide) (show _ = (207 : Int) from rfl) rfl ?_
          refine r_aload_n C dX5_run_270 rfl ?_
          refine r_iload_n C dX5_run_271 rfl ?_
          refine r_iload C dX5_run_272 rfl ?_
          refine r_iconst C (v := 1) dX5_run_274 (by decide) ?_
          refine r_iload C dX5_run_275 rfl ?_
          refine r_iconst C (v := 1) dX5_run_277 (by decide) ?_
          refine r_iadd C dX5_run_278 ?_
          refine r_iload C dX5_run_279 rfl ?_
          refine cV (ci := 5) C hx (ih (d := d - 1) (by omega) (by omega) (abvF v_2_1) 1 (x + 1) (dep + 1) (ntF I 41) (by decide) hdd hN49 (by omega) (by omega)) moX5_run mlX5_32 miX5_run msX5_run dX5_run_281 rfl rfl rfl rfl rfl (by omega) rfl rfl (ki (fun v_281_11 I_281_11 q_281_11 => ?_))
          obtain ⟨rfl, rfl⟩ := q_281_11
          exact ri C Z dX5_run_284 ⟨(congrArg Prod.fst hst).symm, (congrArg (fun z : Int32 × List Int32 => ntL I z.2) hst).symm⟩
        have n41 := ne_int c41
        have m41 : (41 : Int32).toInt = 41 := rfl
        by_cases c50 : bo = 50
        · subst c50
          have hB : rnB n own (abvF v_2_1) x (runF n own m) 50 = ((runF n own m (abvF v_2_1) 2 x).1 - (runF n own m own 0 2).1, (runF n own m (abvF v_2_1) 2 x).2 ++ (runF n own m own 0 2).2) := rfl
          rw [hB] at hst hL
          have hM : (I 48 1).toInt + ((((runF n own m (abvF v_2_1) 2 x).2 ++ (runF n own m own 0 2).2 : List Int32).length + 1 : Nat) : Int) ≤ 1000 := hL
          rw [List.length_append] at hM
          clear hL hB
          refine r_lookup C (tgt := 285) dX5_run_63 (by decide) (show _ = (222 : Int) from rfl) rfl ?_
          refine r_aload_n C dX5_run_285 rfl ?_
          refine r_iload_n C dX5_run_286 rfl ?_
          refine r_iload C dX5_run_287 rfl ?_
          refine r_iconst C (v := 2) dX5_run_289 (by decide) ?_
          refine r_iload C dX5_run_290 rfl ?_
          refine r_iload C dX5_run_292 rfl ?_
          refine cV (ci := 5) C hx (ih (d := d - 1) (by omega) (by omega) (abvF v_2_1) 2 x (dep + 1) (ntF I 50) (by decide) hdd hN49 (by omega) (by omega)) moX5_run mlX5_32 miX5_run msX5_run dX5_run_294 rfl rfl rfl rfl rfl (by omega) rfl rfl (ki (fun v_294_12 I_294_12 q_294_12 => ?_))
          obtain ⟨rfl, rfl⟩ := q_294_12
          refine r_aload_n C dX5_run_297 rfl ?_
          refine r_iload_n C dX5_run_298 rfl ?_
          refine r_iload C dX5_run_299 rfl ?_
          refine r_iconst C (v := 0) dX5_run_301 (by decide) ?_
          refine r_iconst C (v := 2) dX5_run_302 (by decide) ?_
          refine r_iload C dX5_run_303 rfl ?_
          refine cV (ci := 5) C hx (ih (d := d - 1) (by omega) (by omega) own 0 2 (dep + 1) (ntL (ntF I 50) (runF n own m (abvF v_2_1) 2 x).2) (by decide) hdd ((congrFun (ntL_row (t := 49) (by decide) (by decide) _ _) _).trans hN49) (by have := ntL_ran (runF n own m (abvF v_2_1) 2 x).2 (ntF I 50) (by omega) (by omega); omega) (by have := ntL_ran (runF n own m (abvF v_2_1) 2 x).2 (ntF I 50) (by omega) (by omega); omega)) moX5_run mlX5_32 miX5_run msX5_run dX5_run_305 rfl rfl rfl rfl rfl (by omega) rfl rfl (ki (fun v_305_13 I_305_13 q_305_13 => ?_))
          obtain ⟨rfl, rfl⟩ := q_305_13
          refine r_isub C dX5_run_308 ?_
          exact ri C Z dX5_run_309 ⟨(congrArg Prod.fst hst).symm, ((congrArg (fun z : Int32 × List Int32 => ntL I z.2) hst).trans (ntL_app (ntF I 50) _ _)).symm⟩
        have n50 := ne_int c50
        have m50 : (50 : Int32).toInt = 50 := rfl
        by_cases c60 : bo = 60
        · subst c60
          have hB : rnB n own (abvF v_2_1) x (runF n own m) 60 = ((runF n own m (abvF v_2_1) 3 x).1 ^^^ 5, (runF n own m (abvF v_2_1) 3 x).2) := rfl
          rw [hB] at hst hL
          have hM : (I 48 1).toInt + ((((runF n own m (abvF v_2_1) 3 x).2 : List Int32).length + 1 : Nat) : Int) ≤ 1000 := hL
          clear hL hB
          refine r_lookup C (tgt := 310) dX5_run_63 (by decide) (show _ = (247 : Int) from rfl) rfl ?_
          refine r_aload_n C dX5_run_310 rfl ?_
          refine r_iload_n C dX5_run_311 rfl ?_
          refine r_iload C dX5_run_312 rfl ?_
          refine r_iconst C (v := 3) dX5_run_314 (by decide) ?_
          refine r_iload C dX5_run_315 rfl ?_
          refine r_iload C dX5_run_317 rfl ?_
          refine cV (ci := 5) C hx (ih (d := d - 1) (by omega) (by omega) (abvF v_2_1) 3 x (dep + 1) (ntF I 60) (by decide) hdd hN49 (by omega) (by omega)) moX5_run mlX5_32 miX5_run msX5_run dX5_run_319 rfl rfl rfl rfl rfl (by omega) rfl rfl (ki (fun v_319_14 I_319_14 q_319_14 => ?_))
          obtain ⟨rfl, rfl⟩ := q_319_14
          refine r_iconst C (v := 5) dX5_run_322 (by decide) ?_
          refine r_ixor C dX5_run_323 ?_
          exact ri C Z dX5_run_324 ⟨(congrArg Prod.fst hst).symm, (congrArg (fun z : Int32 × List Int32 => ntL I z.2) hst).symm⟩
        have n60 := ne_int c60
        have m60 : (60 : Int32).toInt = 60 := rfl
        by_cases c70 : bo = 70
        · subst c70
          have hB : rnB n own (abvF v_2_1) x (runF n own m) 70 = ((runF n own m (abvF v_2_1) 0 x).1 * 2, (runF n own m (abvF v_2_1) 0 x).2) := rfl
          rw [hB] at hst hL
          have hM : (I 48 1).toInt + ((((runF n own m (abvF v_2_1) 0 x).2 : List Int32).length + 1 : Nat) : Int) ≤ 1000 := hL
          clear hL hB
          refine r_lookup C (tgt := 325) dX5_run_63 (by decide) (show _ = (262 : Int) from rfl) rfl ?_
          refine r_aload_n C dX5_run_325 rfl ?_
          refine r_iload_n C dX5_run_326 rfl ?_
          refine r_iload C dX5_run_327 rfl ?_
          refine r_iconst C (v := 0) dX5_run_329 (by decide) ?_
          refine r_iload C dX5_run_330 rfl ?_
          refine r_iload C dX5_run_332 rfl ?_
          refine cV (ci := 5) C hx (ih (d := d - 1) (by omega) (by omega) (abvF v_2_1) 0 x (dep + 1) (ntF I 70) (by decide) hdd hN49 (by omega) (by omega)) moX5_run mlX5_32 miX5_run msX5_run dX5_run_334 rfl rfl rfl rfl rfl (by omega) rfl rfl (ki (fun v_334_15 I_334_15 q_334_15 => ?_))
          obtain ⟨rfl, rfl⟩ := q_334_15
          refine r_iconst C (v := 2) dX5_run_337 (by decide) ?_
          refine r_imul C dX5_run_338 ?_
          exact ri C Z dX5_run_339 ⟨(congrArg Prod.fst hst).symm, (congrArg (fun z : Int32 × List Int32 => ntL I z.2) hst).symm⟩
        have n70 := ne_int c70
        have m70 : (70 : Int32).toInt = 70 := rfl
        by_cases c80 : bo = 80
        · subst c80
          have hB : rnB n own (abvF v_2_1) x (runF n own m) 80 = ((runF n own m (abvF v_2_1) 1 x).1 + (runF n own m own 2 2).1, (runF n own m (abvF v_2_1) 1 x).2 ++ (runF n own m own 2 2).2) := rfl
          rw [hB] at hst hL
          have hM : (I 48 1).toInt + ((((runF n own m (abvF v_2_1) 1 x).2 ++ (runF n own m own 2 2).2 : List Int32).length + 1 : Nat) : Int) ≤ 1000 := hL
          rw [List.length_append] at hM
          clear hL hB
          refine r_lookup C (tgt := 340) dX5_run_63 (by decide) (show _ = (277 : Int) from rfl) rfl ?_
          refine r_aload_n C dX5_run_340 rfl ?_
          refine r_iload_n C dX5_run_341 rfl ?_
          refine r_iload C dX5_run_342 rfl ?_
          refine r_iconst C (v := 1) dX5_run_344 (by decide) ?_
          refine r_iload C dX5_run_345 rfl ?_
          refine r_iload C dX5_run_347 rfl ?_
          refine cV (ci := 5) C hx (ih (d := d - 1) (by omega) (by omega) (abvF v_2_1) 1 x (dep + 1) (ntF I 80) (by decide) hdd hN49 (by omega) (by omega)) moX5_run mlX5_32 miX5_run msX5_run dX5_run_349 rfl rfl rfl rfl rfl (by omega) rfl rfl (ki (fun v_349_16 I_349_16 q_349_16 => ?_))
          obtain ⟨rfl, rfl⟩ := q_349_16
          refine r_aload_n C dX5_run_352 rfl ?_
          refine r_iload_n C dX5_run_353 rfl ?_
          refine r_iload C dX5_run_354 rfl ?_
          refine r_iconst C (v := 2) dX5_run_356 (by decide) ?_
          refine r_iconst C (v := 2) dX5_run_357 (by decide) ?_
          refine r_iload C dX5_run_358 rfl ?_
          refine cV (ci := 5) C hx (ih (d := d - 1) (by omega) (by omega) own 2 2 (dep + 1) (ntL (ntF I 80) (runF n own m (abvF v_2_1) 1 x).2) (by decide) hdd ((congrFun (ntL_row (t := 49) (by decide) (by decide) _ _) _).trans hN49) (by have := ntL_ran (runF n own m (abvF v_2_1) 1 x).2 (ntF I 80) (by omega) (by omega); omega) (by have := ntL_ran (runF n own m (abvF v_2_1) 1 x).2 (ntF I 80) (by omega) (by omega); omega)) moX5_run mlX5_32 miX5_run msX5_run dX5_run_360 rfl rfl rfl rfl rfl (by omega) rfl rfl (ki (fun v_360_17 I_360_17 q_360_17 => ?_))
          obtain ⟨rfl, rfl⟩ := q_360_17
          refine r_iadd C dX5_run_363 ?_
          exact ri C Z dX5_run_364 ⟨(congrArg Prod.fst hst).symm, ((congrArg (fun z : Int32 × List Int32 => ntL I z.2) hst).trans (ntL_app (ntF I 80) _ _)).symm⟩
        have n80 := ne_int c80
        have m80 : (80 : Int32).toInt = 80 := rfl
        by_cases c81 : bo = 81
        · subst c81
          have hB : rnB n own (abvF v_2_1) x (runF n own m) 81 = ((runF n own m (abvF v_2_1) 3 x).1 - 1, (runF n own m (abvF v_2_1) 3 x).2) := rfl
          rw [hB] at hst hL
          have hM : (I 48 1).toInt + ((((runF n own m (abvF v_2_1) 3 x).2 : List Int32).length + 1 : Nat) : Int) ≤ 1000 := hL
          clear hL hB
          refine r_lookup C (tgt := 365) dX5_run_63 (by decide) (show _ = (302 : Int) from rfl) rfl ?_
          refine r_aload_n C dX5_run_365 rfl ?_
          refine r_iload_n C dX5_run_366 rfl ?_
          refine r_iload C dX5_run_367 rfl ?_
          refine r_iconst C (v := 3) dX5_run_369 (by decide) ?_
          refine r_iload C dX5_run_370 rfl ?_
          refine r_iload C dX5_run_372 rfl ?_
          refine cV (ci := 5) C hx (ih (d := d - 1) (by omega) (by omega) (abvF v_2_1) 3 x (dep + 1) (ntF I 81) (by decide) hdd hN49 (by omega) (by omega)) moX5_run mlX5_32 miX5_run msX5_run dX5_run_374 rfl rfl rfl rfl rfl (by omega) rfl rfl (ki (fun v_374_18 I_374_18 q_374_18 => ?_))
          obtain ⟨rfl, rfl⟩ := q_374_18
          refine r_iconst C (v := 1) dX5_run_377 (by decide) ?_
          refine r_isub C dX5_run_378 ?_
          exact ri C Z dX5_run_379 ⟨(congrArg Prod.fst hst).symm, (congrArg (fun z : Int32 × List Int32 => ntL I z.2) hst).symm⟩
        have n81 := ne_int c81
        have m81 : (81 : Int32).toInt = 81 := rfl
        have hB : rnB n own (abvF v_2_1) x (runF n own m) bo = (0, []) := by
              unfold rnB
              rw [if_neg c1, if_neg c2, if_neg c10, if_neg c11, if_neg c20, if_neg c30, if_neg c40, if_neg c41, if_neg c50, if_neg c60, if_neg c70, if_neg c80, if_neg c81]
        rw [hB] at hst
        have q1 : ¬ (1 : Int) = bo.toInt := fun e => n1 (e.symm.trans m1.symm)
        have q2 : ¬ (2 : Int) = bo.toInt := fun e => n2 (e.symm.trans m2.symm)
        have q10 : ¬ (10 : Int) = bo.toInt := fun e => n10 (e.symm.trans m10.symm)
        have q11 : ¬ (11 : Int) = bo.toInt := fun e => n11 (e.symm.trans m11.symm)
        have q20 : ¬ (20 : Int) = bo.toInt := fun e => n20 (e.symm.trans m20.symm)
        have q30 : ¬ (30 : Int) = bo.toInt := fun e => n30 (e.symm.trans m30.symm)
        have q40 : ¬ (40 : Int) = bo.toInt := fun e => n40 (e.symm.trans m40.symm)
        have q41 : ¬ (41 : Int) = bo.toInt := fun e => n41 (e.symm.trans m41.symm)
        have q50 : ¬ (50 : Int) = bo.toInt := fun e => n50 (e.symm.trans m50.symm)
        have q60 : ¬ (60 : Int) = bo.toInt := fun e => n60 (e.symm.trans m60.symm)
        have q70 : ¬ (70 : Int) = bo.toInt := fun e => n70 (e.symm.trans m70.symm)
        have q80 : ¬ (80 : Int) = bo.toInt := fun e => n80 (e.symm.trans m80.symm)
        have q81 : ¬ (81 : Int) = bo.toInt := fun e => n81 (e.symm.trans m81.symm)
        refine r_lookup C (tgt := 380) (off := 317) dX5_run_63 (by decide) (by simp [Op.lookupswitch.offset, q1, q2, q10, q11, q20, q30, q40, q41, q50, q60, q70, q80, q81]) rfl ?_
        refine r_iconst C (v := 0) dX5_run_380 (by decide) ?_
        exact ri C Z dX5_run_381 ⟨(congrArg Prod.fst hst).symm, (congrArg (fun z : Int32 × List Int32 => ntL I z.2) hst).symm⟩
      · exfalso; omega
theorem rnB_bare (n own up x y : Int32) (R R' : Int32 → Int32 → Int32 → Int32 × List Int32) (h : ∀ k a x y, (R k a x).2 = (R' k a y).2) (bo : Int32) : (rnB n own up x R bo).2 = (rnB 0 own up y R' bo).2 := by
  unfold rnB
  by_cases c1 : bo = 1
  · rw [if_pos c1, if_pos c1]
  rw [if_neg c1, if_neg c1]
  by_cases c2 : bo = 2
  · rw [if_pos c2, if_pos c2]
    show (R own 1 x).2 ++ (R own 2 1).2 = _
    exact congr (congrArg List.append (h own 1 x y)) (h own 2 1 1)
  rw [if_neg c2, if_neg c2]
  by_cases c10 : bo = 10
  · rw [if_pos c10, if_pos c10]
    exact h _ _ _ _
  rw [if_neg c10, if_neg c10]
  by_cases c11 : bo = 11
  · rw [if_pos c11, if_pos c11]
  rw [if_neg c11, if_neg c11]
  by_cases c20 : bo = 20
  · rw [if_pos c20, if_pos c20]
    exact h _ _ _ _
  rw [if_neg c20, if_neg c20]
  by_cases c30 : bo = 30
  · rw [if_pos c30, if_pos c30]
    exact h _ _ _ _
  rw [if_neg c30, if_neg c30]
  by_cases c40 : bo = 40
  · rw [if_pos c40, if_pos c40]
    exact h _ _ _ _
  rw [if_neg c40, if_neg c40]
  by_cases c41 : bo = 41
  · rw [if_pos c41, if_pos c41]
    exact h _ _ _ _
  rw [if_neg c41, if_neg c41]
  by_cases c50 : bo = 50
  · rw [if_pos c50, if_pos c50]
    show (R up 2 x).2 ++ (R own 0 2).2 = _
    exact congr (congrArg List.append (h up 2 x y)) (h own 0 2 2)
  rw [if_neg c50, if_neg c50]
  by_cases c60 : bo = 60
  · rw [if_pos c60, if_pos c60]
    exact h _ _ _ _
  rw [if_neg c60, if_neg c60]
  by_cases c70 : bo = 70
  · rw [if_pos c70, if_pos c70]
    exact h _ _ _ _
  rw [if_neg c70, if_neg c70]
  by_cases c80 : bo = 80
  · rw [if_pos c80, if_pos c80]
    show (R up 1 x).2 ++ (R own 2 2).2 = _
    exact congr (congrArg List.append (h up 1 x y)) (h own 2 2 2)
  rw [if_neg c80, if_neg c80]
  by_cases c81 : bo = 81
  · rw [if_pos c81, if_pos c81]
    exact h _ _ _ _
  rw [if_neg c81, if_neg c81]
theorem runF_bare (n own : Int32) : ∀ (m : Nat) (k a x y : Int32), (runF n own m k a x).2 = (runF 0 own m k a y).2
  | 0, _, _, _, _ => rfl
  | m + 1, k, a, x, y => by
    show (if (owF a 8 k).toInt < 0 then ((0 : Int32), ([] : List Int32)) else ((rnB n own (abvF (owF a 8 k)) x (runF n own m) (ownF (owF a 8 k) a)).1, ownF (owF a 8 k) a :: (rnB n own (abvF (owF a 8 k)) x (runF n own m) (ownF (owF a 8 k) a)).2)).2 = (if (owF a 8 k).toInt < 0 then ((0 : Int32), ([] : List Int32)) else ((rnB 0 own (abvF (owF a 8 k)) y (runF 0 own m) (ownF (owF a 8 k) a)).1, ownF (owF a 8 k) a :: (rnB 0 own (abvF (owF a 8 k)) y (runF 0 own m) (ownF (owF a 8 k) a)).2)).2
    by_cases h : (owF a 8 k).toInt < 0
    · rw [if_pos h, if_pos h]
    · rw [if_neg h, if_neg h]
      exact congrArg (ownF (owF a 8 k) a :: ·) (rnB_bare n own _ x y _ _ (runF_bare n own m) _)
theorem runF_few : ∀ k : Fin 8, ∀ a : Fin 4, (runF 0 (nI k.val) 41 (nI k.val) (nI a.val) 0).2.length ≤ 14 := by decide +kernel
theorem runF_short (n own a x : Int32) (ha : 0 ≤ a.toInt ∧ a.toInt < 4) : (runF n own 41 own a x).2.length ≤ 14 := by
  by_cases h : own.toInt < 0 ∨ 8 ≤ own.toInt
  · have e : owF a 8 own = -1 := if_pos h
    have e2 : runF n own 41 own a x = (0, []) := if_pos (by rw [e]; decide)
    rw [e2]; decide
  · have eo : own = nI own.toInt.toNat := by
      apply Int32.toInt_inj.mp
      rw [nIint (by omega)]; omega
    have ea : a = nI a.toInt.toNat := by
      apply Int32.toInt_inj.mp
      rw [nIint (by omega)]; omega
    rw [runF_bare n own 41 own a x 0, eo, ea]
    exact runF_few ⟨own.toInt.toNat, by omega⟩ ⟨a.toInt.toNat, by omega⟩
/-- a sip's act from the start: answer and state -/
def actF (I : Is) (n a x : Int32) : Int32 × Is := if (0 ≤ n.toInt ∧ n.toInt < (I 48 0).toInt) ∧ 0 ≤ a.toInt ∧ a.toInt < 4 then ((runF n (I 49 (ix n)) 41 (I 49 (ix n)) a x).1, ntL (u2 I 48 1 0) (runF n (I 49 (ix n)) 41 (I 49 (ix n)) a x).2) else (0, u2 I 48 1 0)
set_option maxRecDepth 100000 in
theorem sX5_begin {g : Gb} {d : Nat} (hd : 44 ≤ d) (n a x : Int32) (I : Is) (J : Js) (b : Bool) (h50 : (I 48 0).toInt ≤ 50) : MC9 g d mX5_begin [.ref 48, .int n, .int a, .int x] I J b (Qi J b (fun v I' => v = (actF I n a x).1 ∧ I' = (actF I n a x).2)) := by
  refine ent9 (own := RX5) rfl rfl rfl (fun X hg hx C Z => ?_)
  subst hg
  refine r_aload_n C dX5_begin_0 rfl ?_
  refine r_iconst C (v := 0) dX5_begin_1 (by decide) ?_
  refine r_putI C flX5_29 dX5_begin_2 rfl rfl rfl rfl rfl ?_
  refine r_aload_n C dX5_begin_5 rfl ?_
  refine r_iload_n C dX5_begin_6 rfl ?_
  refine cV (ci := 5) C hx (sX5_has (d := d - 1) (by omega) n (u2 I 48 1 0) J b) moX5_has mlX5_22 miX5_has msX5_has dX5_begin_7 rfl rfl rfl rfl rfl (by omega) rfl rfl (kp ?_)
  refine z_ifeq C (tgt := 22) dX5_begin_10 rfl (fun h10_2 => ?_) (fun h10_2 => ?_)
  · refine r_iconst C (v := 0) dX5_begin_22 (by decide) ?_
    exact ri C Z dX5_begin_23 (show _ ∧ _ from by unfold actF; rw [if_neg (fun z => absurd z.1 (by assumption))]; exact ⟨rfl, rfl⟩)
  · refine r_iload_n C dX5_begin_13 rfl ?_
    refine b_iflt C (tgt := 22) dX5_begin_14 rfl (fun h14_3 => ?_) (fun h14_3 => ?_)
    · refine r_iconst C (v := 0) dX5_begin_22 (by decide) ?_
      exact ri C Z dX5_begin_23 (show _ ∧ _ from by unfold actF; rw [if_neg (fun z => by omega)]; exact ⟨rfl, rfl⟩)
    · refine r_iload_n C dX5_begin_17 rfl ?_
      refine r_iconst C (v := 4) dX5_begin_18 (by decide) ?_
      refine b_iclt C (tgt := 24) (my := 4) rfl rfl dX5_begin_19 rfl (fun h19_4 => ?_) (fun h19_4 => ?_)
      · have h5 := (‹_ ∧ _› : 0 ≤ n.toInt ∧ n.toInt < (I 48 0).toInt)
        have hn : 0 ≤ n.toInt ∧ n.toInt < 50 := ⟨h5.1, by omega⟩
        refine r_aload_n C dX5_begin_24 rfl ?_
        refine r_iload_n C dX5_begin_25 rfl ?_
        refine r_aload_n C dX5_begin_26 rfl ?_
        refine r_getR C flX5_11 dX5_begin_27 rfl rfl rfl ?_
        refine r_iload_n C dX5_begin_30 rfl ?_
        refine r_iald C rfl dX5_begin_31 (vin hn.1 (show n.toInt < 50 from hn.2)) ?_
        refine r_iload_n C dX5_begin_32 rfl ?_
        refine r_iload_n C dX5_begin_33 rfl ?_
        refine r_iconst C (v := 0) dX5_begin_34 (by decide) ?_
        refine cV (ci := 5) C hx (sX5_run n (I 49 (ix n)) hn J b 41 (d := d - 1) (by omega) (by omega) (I 49 (ix n)) a x 0 (u2 I 48 1 0) ⟨by omega, by omega⟩ rfl rfl (by rw [u2_same]; decide) (by rw [u2_same]; have := runF_short n (I 49 (ix n)) a x ⟨by omega, by omega⟩; show (0 : Int32).toInt + _ ≤ 1000; rw [show (0 : Int32).toInt = 0 from rfl]; omega)) moX5_run mlX5_32 miX5_run msX5_run dX5_begin_35 rfl rfl rfl rfl rfl (by omega) rfl rfl (ki (fun v_35_5 I_35_5 q_35_5 => ?_))
        obtain ⟨rfl, rfl⟩ := q_35_5
        exact ri C Z dX5_begin_38 (show _ ∧ _ from by unfold actF; rw [if_pos ⟨h5, by omega, by omega⟩]; exact ⟨rfl, rfl⟩)
      · refine r_iconst C (v := 0) dX5_begin_22 (by decide) ?_
        exact ri C Z dX5_begin_23 (show _ ∧ _ from by unfold actF; rw [if_neg (fun z => by omega)]; exact ⟨rfl, rfl⟩)
