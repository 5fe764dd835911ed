theorem sb_sm (l : Int32) (f : Nat → Int32) : ∀ n, sbF l f n = l - smF f n := by
  intro n
  induction n with
  | zero => exact (Int32.sub_zero l).symm
  | succ n ih =>
    show sbF l f n - f n = l - (smF f n + f n)
    rw [ih, Int32.sub_sub]
theorem mlF_int {e : EV} {ice l1 : Int32} (h24 : 0 ≤ (e.2.1 24).toInt ∧ (e.2.1 24).toInt ≤ 9) (hi : 0 ≤ ice.toInt ∧ ice.toInt ≤ 99) (hl : 0 ≤ l1.toInt ∧ l1.toInt ≤ 999) : (mlF e ice l1).toInt = min (min (e.2.1 24).toInt ice.toInt) (999 - l1.toInt) ∧ (999 - l1).toInt = 999 - l1.toInt := by
  have e9 : (999 - l1).toInt = 999 - l1.toInt := tI_sub (x := 999) (by rw [show (999 : Int32).toInt = 999 from rfl]; omega) (by rw [show (999 : Int32).toInt = 999 from rfl]; omega)
  refine ⟨?_, e9⟩
  unfold mlF
  by_cases c : 0 < ice.toInt
  · rw [if_pos c, imin_int, imin_int, e9]
  · rw [if_neg c, show (0 : Int32).toInt = 0 from rfl]
    omega
theorem th_fr {I I' : Is} {l f : List Nat} (h : FrM l f I I') (h1 : 65 ∉ l) (h2 : 71 ∉ l) (h3 : 6 ∉ f) (h4 : 14 ∉ f) (h5 : 28 ∉ f) (h6 : 29 ∉ f) (h7 : 30 ∉ f) : enM I' = enM I ∧ ptM I' = ptM I ∧ frM I' = frM I ∧ hcM I' = hcM I := by
  refine ⟨enM_fr h h1 h2 h3 h4, ?_, ?_, ?_⟩
  · unfold ptM; rw [h.2 28 h5]
  · unfold frM; rw [h.2 29 h6]
  · unfold hcM; rw [h.2 30 h7]
theorem gv_fr {I I' : Is} {l f : List Nat} (h : FrM l f I I') (h1 : 65 ∉ l) (h2 : 73 ∉ l) (h3 : 74 ∉ l) (h4 : 75 ∉ l) (h5 : 21 ∉ f) (h6 : 22 ∉ f) (h7 : 23 ∉ f) : gvM I' = gvM I := by
  unfold gvM
  rw [h.1 65 (by decide) h1, h.1 73 (by decide) h2, h.1 74 (by decide) h3, h.1 75 (by decide) h4, h.2 21 h5, h.2 22 h6, h.2 23 h7]
theorem pd_fr {I I' : Is} {l f : List Nat} (h : FrM l f I I') (h1 : 65 ∉ l) (h2 : 71 ∉ l) (h3 : 6 ∉ f) (h4 : 14 ∉ f) (h5 : 28 ∉ f) (h6 : 29 ∉ f) (h8 : 23 ∉ f) (j : Nat) : pdF (enM I') (ptM I') (frM I') (gvM I') j = pdF (enM I) (ptM I) (frM I) (gvM I) j := by
  have e2 : ptM I' = ptM I := by unfold ptM; rw [h.2 28 h5]
  have e3 : frM I' = frM I := by unfold frM; rw [h.2 29 h6]
  have e4 : (gvM I').2.2.1 = (gvM I).2.2.1 := h.2 23 h8
  unfold pdF
  rw [enM_fr h h1 h2 h3 h4, e2, e3, e4]
set_option maxRecDepth 100000 in
set_option maxHeartbeats 400000 in
theorem sX10_secondGoes {g : Gb} {d : Nat} (hd : 82 ≤ d) (I : Is) (J : Js) (b : Bool) (hN : NM I) (hv : VOk (gvM I)) : MC9 g d mX10_secondGoes [.ref 64] I J b (Qv J b (fun I' => gvM I' = secF (enM I) (ptM I) (frM I) (hcM I) (gvM I) ∧ FrM [72, 73, 74, 75, 76] [15, 16, 17, 18, 19, 21, 22, 23] I I')) := by
  obtain ⟨n, hne⟩ : ∃ n, n = ix (I 64 6) := ⟨_, rfl⟩
  have hn : (I 64 6).toInt = (n : Int) := by rw [hne]; exact (ix_nn hN.1.1).symm
  have hn3 : n ≤ 3 := by have := hN.1.2.1; omega
  have hEO := enM_ok hN
  obtain ⟨W, hW⟩ : ∃ W, W = wVF (enM I) (ptM I) (frM I) (hcM I) (gvM I) := ⟨_, rfl⟩
  obtain ⟨al, hal⟩ : ∃ al, al = smF W n := ⟨_, rfl⟩
  obtain ⟨G, hG⟩ : ∃ G : Nat → Int32, G = fun k => shF (I 64 21) al (W k) := ⟨_, rfl⟩
  obtain ⟨P, hP⟩ : ∃ P : Nat → Bool, P = fun j => pdF (enM I) (ptM I) (frM I) (gvM I) j := ⟨_, rfl⟩
  obtain ⟨l1, hl1⟩ : ∃ l1, l1 = sbF (I 64 21) G n := ⟨_, rfl⟩
  have hl1F : l1 = l1F (enM I) (ptM I) (frM I) (hcM I) (gvM I) := by
    rw [hl1, hG, hal, hW, hne]; rfl
  have hlr : 0 ≤ l1.toInt ∧ l1.toInt ≤ 999 := by
    obtain ⟨a1, a2, a3⟩ := l1_int hEO (pt := ptM I) (fr := frM I) (hc := hcM I) hv
    have := hv.1
    rw [hl1F]; omega
  have hsec : secF (enM I) (ptM I) (frM I) (hcM I) (gvM I) = (l1 + mlF (enM I) (I 64 22) l1, I 64 22 - mlF (enM I) (I 64 22) l1, I 64 23 + 1,
      (fun k => if k < n ∧ P k = true then I 73 k + 1 else I 73 k), (fun k => if k < n then I 74 k + G k else I 74 k),
      (fun k => if k < n then I 74 k * swF (I 65) k + G k * swF (I 65) k else I 74 k * swF (I 65) k),
      (fun k => if k < n ∧ P k = true ∧ hcM I k = false ∧ (I 64 21 - I 65 (8 * k + 2)).toInt ≤ 0 then I 75 k + 1 else I 75 k)) := by
    rw [hl1, hG, hal, hW, hP, hne]; rfl
  have hlv : 0 ≤ (I 64 21).toInt ∧ (I 64 21).toInt ≤ 999 := hv.1
  have hic : 0 ≤ (I 64 22).toInt ∧ (I 64 22).toInt ≤ 99 := hv.2
  obtain ⟨hm1, hm2⟩ := mlF_int (e := enM I) hEO.2.2.1 hic hlr
  have hls : l1 = I 64 21 - smF G n := by rw [hl1]; exact sb_sm _ _ _
  rw [hsec]
  clear hsec hl1 hl1F
  refine ent9 (own := RX10) rfl rfl rfl (fun X hg hx C Z => ?_)
  subst hg
  have melt : ∀ (I' : Is) (m a1 a2 : Int32) (x3 x4 x5 : Option Value), m = mlF (enM I) (I 64 22) l1 → FrM [72, 73, 74, 75, 76] [15, 16, 17, 18, 19, 21] I I' → I' 64 21 = l1 → (∀ j, I' 73 j = if j < n ∧ P j = true then I 73 j + 1 else I 73 j) → (∀ j, I' 74 j = if j < n then I 74 j + G j else I 74 j) → (∀ j, I' 75 j = if j < n ∧ P j = true ∧ hcM I j = false ∧ (I 64 21 - I 65 (8 * j + 2)).toInt ≤ 0 then I 75 j + 1 else I 75 j) → Aw X 236 [some (.ref 64), some (.int a1), some (.int a2), x3, x4, x5] [.int m] (st9 I' J b) := by
    intro I' m a1 a2 x3 x4 x5 hm hF e21 h73 h74 h75
    have e22 : I' 64 22 = I 64 22 := hF.2 22 (by decide)
    have e23 : I' 64 23 = I 64 23 := hF.2 23 (by decide)
    have e65 : I' 65 = I 65 := hF.1 65 (by decide) (by decide)
    refine r_istore_n C dX10_secondGoes_236 rfl rfl ?_
    refine r_aload_n C dX10_secondGoes_237 rfl ?_
    refine r_dup C dX10_secondGoes_238 rfl ?_
    refine r_getI C flX10_225 dX10_secondGoes_239 rfl rfl ?_
    refine r_iload_n C dX10_secondGoes_242 rfl ?_
    refine r_iadd C dX10_secondGoes_243 ?_
    refine r_putI C flX10_225 dX10_secondGoes_244 rfl rfl rfl rfl rfl ?_
    refine r_aload_n C dX10_secondGoes_247 rfl ?_
    refine r_dup C dX10_secondGoes_248 rfl ?_
    refine r_getI C flX10_228 dX10_secondGoes_249 rfl rfl ?_
    refine r_iload_n C dX10_secondGoes_252 rfl ?_
    refine r_isub C dX10_secondGoes_253 ?_
    refine r_putI C flX10_228 dX10_secondGoes_254 rfl rfl rfl rfl rfl ?_
    refine r_aload_n C dX10_secondGoes_257 rfl ?_
    refine r_dup C dX10_secondGoes_258 rfl ?_
    refine r_getI C flX10_231 dX10_secondGoes_259 rfl rfl ?_
    refine r_iconst C (v := 1) dX10_secondGoes_262 (by decide) ?_
    refine r_iadd C dX10_secondGoes_263 ?_
    refine r_putI C flX10_231 dX10_secondGoes_264 rfl rfl rfl rfl rfl ?_
    exact rv C Z dX10_secondGoes_267 (show _ ∧ _ from ⟨Prod.ext (by show I' 64 21 + m = _; rw [e21, hm]) (Prod.ext (by show I' 64 22 - m = _; rw [e22, hm]) (Prod.ext (by show I' 64 23 + 1 = _; rw [e23]) (Prod.ext (funext h73) (Prod.ext (funext h74) (Prod.ext (funext fun k => by
        show I' 74 k * swF (I' 65) k = if k < n then I 74 k * swF (I 65) k + G k * swF (I 65) k else I 74 k * swF (I 65) k
        rw [h74 k, e65]
        by_cases c : k < n
        · rw [if_pos c, if_pos c, Int32.add_mul]
        · rw [if_neg c, if_neg c]) (funext h75)))))), ((((hF.mo (by decide) (by decide)).sf (by decide)).sf (by decide)).sf (by decide))⟩)
  have loop2 : ∀ (m k : Nat) (I' : Is) (x4 x5 : Option Value), m + k = n → FrM [72, 73, 74, 75, 76] [15, 16, 17, 18, 19] I I' → (∀ j, j < n → I' 76 j = W j) → (∀ j, I' 73 j = if j < k ∧ P j = true then I 73 j + 1 else I 73 j) → (∀ j, I' 74 j = if j < k then I 74 j + G j else I 74 j) → (∀ j, I' 75 j = if j < k ∧ P j = true ∧ hcM I j = false ∧ (I 64 21 - I 65 (8 * j + 2)).toInt ≤ 0 then I 75 j + 1 else I 75 j) → Aw X 42 [some (.ref 64), some (.int al), some (.int (smF G k)), some (.int (nI k)), x4, x5] [] (st9 I' J b) := by
    intro m
    induction m with
    | zero =>
      intro k I' x4 x5 hm hF h76 h73 h74 h75
      have ink : (nI k).toInt = (k : Int) := nIint (by omega)
      have e6 : (I' 64 6).toInt = (n : Int) := by rw [hF.2 6 (by decide)]; exact hn
      have hkn : k = n := by omega
      rw [hkn] at h73 h74 h75
      have e21 : I' 64 21 = I 64 21 := hF.2 21 (by decide)
      have e22 : I' 64 22 = I 64 22 := hF.2 22 (by decide)
      have e65 : I' 65 = I 65 := hF.1 65 (by decide) (by decide)
      refine r_iload_n C dX10_secondGoes_42 rfl ?_
      refine r_aload_n C dX10_secondGoes_43 rfl ?_
      refine r_getI C flX10_102 dX10_secondGoes_44 rfl rfl ?_
      refine b_icge C (tgt := 173) rfl rfl dX10_secondGoes_47 rfl (fun h47_1 => ?_) (fun h47_1 => ?_)
      · refine r_aload_n C dX10_secondGoes_173 rfl ?_
        refine r_dup C dX10_secondGoes_174 rfl ?_
        refine r_getI C flX10_225 dX10_secondGoes_175 rfl rfl ?_
        refine r_iload_n C dX10_secondGoes_178 rfl ?_
        refine r_isub C dX10_secondGoes_179 ?_
        refine r_putI C flX10_225 dX10_secondGoes_180 rfl rfl rfl rfl rfl ?_
        rw [e21, hkn, ← hls]
        obtain ⟨IL, hIL⟩ : ∃ z, z = u2 I' 64 21 l1 := ⟨_, rfl⟩
        rw [← hIL]
        have f21 : IL 64 21 = l1 := by rw [hIL]; exact u2_same ..
        have f22 : IL 64 22 = I 64 22 := by rw [hIL]; exact (u2_ne _ _ _ _ (Or.inr (by decide))).trans e22
        have f65 : IL 65 = I 65 := by rw [hIL]; exact (u2_row (by decide)).trans e65
        have hFL : FrM [72, 73, 74, 75, 76] [15, 16, 17, 18, 19, 21] I IL := by rw [hIL]; exact (hF.mo (by decide) (by decide)).sf (by decide)
        have g73 := fun j => (congrFun (show IL 73 = I' 73 from by rw [hIL]; exact u2_row (by decide)) j).trans (h73 j)
        have g74 := fun j => (congrFun (show IL 74 = I' 74 from by rw [hIL]; exact u2_row (by decide)) j).trans (h74 j)
        have g75 := fun j => (congrFun (show IL 75 = I' 75 from by rw [hIL]; exact u2_row (by decide)) j).trans (h75 j)
        have x24 : ((enM I).2.1 24).toInt = (I 65 24).toInt := rfl
        rw [x24] at hm1
        refine r_aload_n C dX10_secondGoes_183 rfl ?_
        refine r_getR C flX10_9 dX10_secondGoes_184 rfl rfl rfl ?_
        refine r_bipush C (v := 24) dX10_secondGoes_187 (by decide) ?_
        refine r_iald C rfl dX10_secondGoes_189 (vin (by decide) (by decide)) ?_
        rw [show IL 65 (ix 24) = I 65 24 from congrFun f65 24]
        refine r_aload_n C dX10_secondGoes_190 rfl ?_
        refine r_getI C flX10_228 dX10_secondGoes_191 rfl rfl ?_
        rw [f22]
        refine b_icge C (tgt := 207) rfl rfl dX10_secondGoes_194 rfl (fun h194_2 => ?_) (fun h194_2 => ?_)
        · refine r_aload_n C dX10_secondGoes_207 rfl ?_
          refine r_getI C flX10_228 dX10_secondGoes_208 rfl rfl ?_
          rw [f22]
          refine r_istore_n C dX10_secondGoes_211 rfl rfl ?_
          refine r_iload_n C dX10_secondGoes_212 rfl ?_
          refine r_sipush C (v := 999) dX10_secondGoes_213 (by decide) ?_
          refine r_aload_n C dX10_secondGoes_216 rfl ?_
          refine r_getI C flX10_225 dX10_secondGoes_217 rfl rfl ?_
          rw [f21]
          refine r_isub C dX10_secondGoes_220 ?_
          refine b_icge C (tgt := 228) rfl rfl dX10_secondGoes_221 rfl (fun h221_3 => ?_) (fun h221_3 => ?_)
          · refine r_sipush C (v := 999) dX10_secondGoes_228 (by decide) ?_
            refine r_aload_n C dX10_secondGoes_231 rfl ?_
            refine r_getI C flX10_225 dX10_secondGoes_232 rfl rfl ?_
            rw [f21]
            refine r_isub C dX10_secondGoes_235 ?_
            exact melt IL _ _ _ _ _ _ (Int32.toInt_inj.mp (by rw [hm1]; omega)) hFL f21 g73 g74 g75
          · refine r_iload_n C dX10_secondGoes_224 rfl ?_
            refine r_goto C (tgt := 236) dX10_secondGoes_225 rfl ?_
            exact melt IL _ _ _ _ _ _ (Int32.toInt_inj.mp (by rw [hm1]; omega)) hFL f21 g73 g74 g75
        · refine r_aload_n C dX10_secondGoes_197 rfl ?_
          refine r_getR C flX10_9 dX10_secondGoes_198 rfl rfl rfl ?_
          refine r_bipush C (v := 24) dX10_secondGoes_201 (by decide) ?_
          refine r_iald C rfl dX10_secondGoes_203 (vin (by decide) (by decide)) ?_
          rw [show IL 65 (ix 24) = I 65 24 from congrFun f65 24]
          refine r_goto C (tgt := 211) dX10_secondGoes_204 rfl ?_
          refine r_istore_n C dX10_secondGoes_211 rfl rfl ?_
          refine r_iload_n C dX10_secondGoes_212 rfl ?_
          refine r_sipush C (v := 999) dX10_secondGoes_213 (by decide) ?_
          refine r_aload_n C dX10_secondGoes_216 rfl ?_
          refine r_getI C flX10_225 dX10_secondGoes_217 rfl rfl ?_
          rw [f21]
          refine r_isub C dX10_secondGoes_220 ?_
          refine b_icge C (tgt := 228) rfl rfl dX10_secondGoes_221 rfl (fun h221_4 => ?_) (fun h221_4 => ?_)
          · refine r_sipush C (v := 999) dX10_secondGoes_228 (by decide) ?_
            refine r_aload_n C dX10_secondGoes_231 rfl ?_
            refine r_getI C flX10_225 dX10_secondGoes_232 rfl rfl ?_
            rw [f21]
            refine r_isub C dX10_secondGoes_235 ?_
            exact melt IL _ _ _ _ _ _ (Int32.toInt_inj.mp (by rw [hm1]; omega)) hFL f21 g73 g74 g75
          · refine r_iload_n C dX10_secondGoes_224 rfl ?_
            refine r_goto C (tgt := 236) dX10_secondGoes_225 rfl ?_
            exact melt IL _ _ _ _ _ _ (Int32.toInt_inj.mp (by rw [hm1]; omega)) hFL f21 g73 g74 g75
      · exfalso; omega
    | succ m ih =>
      intro k I' x4 x5 hm hF h76 h73 h74 h75
      have ink : (nI k).toInt = (k : Int) := nIint (by omega)
      have kx : ix (nI k) = k := nIix (by omega)
      have hk : k < n := by omega
      have e6 : (I' 64 6).toInt = (n : Int) := by rw [hF.2 6 (by decide)]; exact hn
      have e21 : I' 64 21 = I 64 21 := hF.2 21 (by decide)
      have e65 : I' 65 = I 65 := hF.1 65 (by decide) (by decide)
      have hrk := hN.1.2.2.1 k (by omega)
      have hPk : pdF (enM I') (ptM I') (frM I') (gvM I') k = P k := by rw [hP]; exact pd_fr hF (by decide) (by decide) (by decide) (by decide) (by decide) (by decide) (by decide) k
      have g74 : I' 74 k = I 74 k := by rw [h74 k, if_neg (Nat.lt_irrefl k)]
      have g73 : I' 73 k = I 73 k := by rw [h73 k, if_neg (fun z => Nat.lt_irrefl k z.1)]
      have g75 : I' 75 k = I 75 k := by rw [h75 k, if_neg (fun z => Nat.lt_irrefl k z.1)]
      have mid1 : ∀ (ge : Int32) (x5 : Option Value), ge = G k → Aw X 87 [some (.ref 64), some (.int al), some (.int (smF G k)), some (.int (nI k)), some (.int (bI (P k = true))), x5] [.int ge] (st9 I' J b) := by
        intro ge x5 hge
        obtain ⟨I2, hI2⟩ : ∃ z, z = u2 I' 74 k (I 74 k + ge) := ⟨_, rfl⟩
        have hF2 : FrM [72, 73, 74, 75, 76] [15, 16, 17, 18, 19] I I2 := by rw [hI2]; exact hF.st (by decide) (by decide)
        have f21 : I2 64 21 = I 64 21 := hF2.2 21 (by decide)
        have f30 : I2 64 30 = I 64 30 := hF2.2 30 (by decide)
        have f65 : I2 65 = I 65 := hF2.1 65 (by decide) (by decide)
        have r75 : I2 75 = I' 75 := by rw [hI2]; exact u2_row (by decide)
        have r73 : I2 73 = I' 73 := by rw [hI2]; exact u2_row (by decide)
        have r76 : I2 76 = I' 76 := by rw [hI2]; exact u2_row (by decide)
        have q74 : ∀ j, I2 74 j = if j < k + 1 then I 74 j + G j else I 74 j := fun j => by
          rw [hI2]
          by_cases e : j = k
          · subst e; rw [u2_same, if_pos (Nat.lt_succ_self _), hge]
          · rw [u2_ne _ _ _ _ (Or.inr e), h74 j]
            by_cases c : j < k
            · rw [if_pos c, if_pos (by omega)]
            · rw [if_neg c, if_neg (by omega)]
        have mid2 : ∀ (z : Int32), z = (if P k = true ∧ hcM I k = false ∧ (I 64 21 - I 65 (8 * k + 2)).toInt ≤ 0 then 1 else 0) → Aw X 146 [some (.ref 64), some (.int al), some (.int (smF G k + ge)), some (.int (nI k)), some (.int (bI (P k = true))), some (.int ge)] [.int z, .int (I 75 k), .int (nI k), .ref 75] (st9 I2 J b) := by
          intro z hz
          obtain ⟨I3, hI3⟩ : ∃ y, y = u2 I2 75 k (I 75 k + z) := ⟨_, rfl⟩
          have hF3 : FrM [72, 73, 74, 75, 76] [15, 16, 17, 18, 19] I I3 := by rw [hI3]; exact hF2.st (by decide) (by decide)
          have s73 : I3 73 = I' 73 := by rw [hI3, ← r73]; exact u2_row (by decide)
          have s74 : I3 74 = I2 74 := by rw [hI3]; exact u2_row (by decide)
          have s76 : I3 76 = I' 76 := by rw [hI3, ← r76]; exact u2_row (by decide)
          have q75 : ∀ j, I3 75 j = if j < k + 1 ∧ P j = true ∧ hcM I j = false ∧ (I 64 21 - I 65 (8 * j + 2)).toInt ≤ 0 then I 75 j + 1 else I 75 j := fun j => by
            rw [hI3]
            by_cases e : j = k
            · subst e
              rw [u2_same, hz]
              by_cases c : P j = true ∧ hcM I j = false ∧ (I 64 21 - I 65 (8 * j + 2)).toInt ≤ 0
              · rw [if_pos c, if_pos ⟨Nat.lt_succ_self _, c⟩]
              · rw [if_neg c, if_neg (fun y => c y.2), Int32.add_zero]
            · rw [u2_ne _ _ _ _ (Or.inr e), r75, h75 j]
              by_cases c : j < k
              · simp only [show j < k + 1 by omega, c, true_and]
              · rw [if_neg (fun y => c y.1), if_neg (fun y => absurd y.1 (by omega))]
          refine r_iadd C dX10_secondGoes_146 ?_
          refine r_iast C rfl dX10_secondGoes_147 (vin (by omega) (show (nI k).toInt < 3 by omega)) ?_
          rw [kx, ← hI3]
          refine r_aload_n C dX10_secondGoes_148 rfl ?_
          refine r_getR C flX10_34 dX10_secondGoes_149 rfl rfl rfl ?_
          refine r_iload_n C dX10_secondGoes_152 rfl ?_
          refine r_dup2 C dX10_secondGoes_153 rfl rfl ?_
          refine r_iald C rfl dX10_secondGoes_154 (vin (by omega) (show (nI k).toInt < 3 by omega)) ?_
          rw [kx, s73, g73]
          refine r_iload C dX10_secondGoes_155 rfl ?_
          refine z_ifeq C (tgt := 164) dX10_secondGoes_157 rfl (fun h157_1 => ?_) (fun h157_1 => ?_)
          · refine r_iconst C (v := 0) dX10_secondGoes_164 (by decide) ?_
            refine r_iadd C dX10_secondGoes_165 ?_
            refine r_iast C rfl dX10_secondGoes_166 (vin (by omega) (show (nI k).toInt < 3 by omega)) ?_
            rw [kx]
            refine r_iinc C (v := 1) dX10_secondGoes_167 rfl (by decide) rfl ?_
            refine r_goto C (tgt := 42) dX10_secondGoes_170 rfl ?_
            rw [nI_s, hge, show smF G k + G k = smF G (k + 1) from rfl]
            exact ih (k + 1) _ _ _ (by omega) (hF3.st (by decide) (by decide)) (fun j hj => by rw [u2_row (t := 73) (t' := 76) (by decide), s76]; exact h76 j hj) (fun j => by
              by_cases e : j = k
              · subst e; rw [u2_same]; rw [if_neg (fun y => absurd y.2 (by assumption)), Int32.add_zero]
              · rw [u2_ne _ _ _ _ (Or.inr e), s73, h73 j]
                by_cases c : j < k
                · simp only [show j < k + 1 by omega, c, true_and]
                · rw [if_neg (fun y => c y.1), if_neg (fun y => absurd y.1 (by omega))]) (fun j => by rw [u2_row (t := 73) (t' := 74) (by decide), s74]; exact q74 j) (fun j => by rw [u2_row (t := 73) (t' := 75) (by decide)]; exact q75 j)
          · refine r_iconst C (v := 1) dX10_secondGoes_160 (by decide) ?_
            refine r_goto C (tgt := 165) dX10_secondGoes_161 rfl ?_
            refine r_iadd C dX10_secondGoes_165 ?_
            refine r_iast C rfl dX10_secondGoes_166 (vin (by omega) (show (nI k).toInt < 3 by omega)) ?_
            rw [kx]
            refine r_iinc C (v := 1) dX10_secondGoes_167 rfl (by decide) rfl ?_
            refine r_goto C (tgt := 42) dX10_secondGoes_170 rfl ?_
            rw [nI_s, hge, show smF G k + G k = smF G (k + 1) from rfl]
            exact ih (k + 1) _ _ _ (by omega) (hF3.st (by decide) (by decide)) (fun j hj => by rw [u2_row (t := 73) (t' := 76) (by decide), s76]; exact h76 j hj) (fun j => by
              by_cases e : j = k
              · subst e; rw [u2_same]; rw [if_pos ⟨Nat.lt_succ_self _, by assumption⟩]
              · rw [u2_ne _ _ _ _ (Or.inr e), s73, h73 j]
                by_cases c : j < k
                · simp only [show j < k + 1 by omega, c, true_and]
                · rw [if_neg (fun y => c y.1), if_neg (fun y => absurd y.1 (by omega))]) (fun j => by rw [u2_row (t := 73) (t' := 74) (by decide), s74]; exact q74 j) (fun j => by rw [u2_row (t := 73) (t' := 75) (by decide)]; exact q75 j)
        refine r_istore C dX10_secondGoes_87 rfl rfl ?_
        refine r_aload_n C dX10_secondGoes_89 rfl ?_
        refine r_getR C flX10_37 dX10_secondGoes_90 rfl rfl rfl ?_
        refine r_iload_n C dX10_secondGoes_93 rfl ?_
        refine r_dup2 C dX10_secondGoes_94 rfl rfl ?_
        refine r_iald C rfl dX10_secondGoes_95 (vin (by omega) (show (nI k).toInt < 3 by omega)) ?_
        rw [kx, g74]
        refine r_iload C dX10_secondGoes_96 rfl ?_
        refine r_iadd C dX10_secondGoes_98 ?_
        refine r_iast C rfl dX10_secondGoes_99 (vin (by omega) (show (nI k).toInt < 3 by omega)) ?_
        rw [kx, ← hI2]
        refine r_iload_n C dX10_secondGoes_100 rfl ?_
        refine r_iload C dX10_secondGoes_101 rfl ?_
        refine r_iadd C dX10_secondGoes_103 ?_
        refine r_istore_n C dX10_secondGoes_104 rfl rfl ?_
        refine r_aload_n C dX10_secondGoes_105 rfl ?_
        refine r_getR C flX10_40 dX10_secondGoes_106 rfl rfl rfl ?_
        refine r_iload_n C dX10_secondGoes_109 rfl ?_
        refine r_dup2 C dX10_secondGoes_110 rfl rfl ?_
        refine r_iald C rfl dX10_secondGoes_111 (vin (by omega) (show (nI k).toInt < 3 by omega)) ?_
        rw [kx, r75, g75]
        refine r_iload C dX10_secondGoes_112 rfl ?_
        refine z_ifeq C (tgt := 145) dX10_secondGoes_114 rfl (fun h114_1 => ?_) (fun h114_1 => ?_)
        · refine r_iconst C (v := 0) dX10_secondGoes_145 (by decide) ?_
          exact mid2 0 (if_neg (fun z => absurd z.1 (by assumption))).symm
        · refine r_aload_n C dX10_secondGoes_117 rfl ?_
          refine r_getI C flX10_241 dX10_secondGoes_118 rfl rfl ?_
          rw [f30]
          refine r_iload_n C dX10_secondGoes_121 rfl ?_
          refine cS C hx (sX10_isIn (d := d - 1) (by omega) (I 64 30) k I2 J b) moX10_isIn mlX10_244 mtX10_isIn dX10_secondGoes_122 rfl rfl (by omega) rfl rfl (kp ?_)
          refine z_ifne C (tgt := 145) dX10_secondGoes_125 rfl (fun h125_3 => ?_) (fun h125_3 => ?_)
          · refine r_iconst C (v := 0) dX10_secondGoes_145 (by decide) ?_
            exact mid2 0 (if_neg (fun z => absurd (z.2.1.symm.trans (show hcM I k = true by assumption)) (by decide))).symm
          · refine r_aload_n C dX10_secondGoes_128 rfl ?_
            refine r_getI C flX10_225 dX10_secondGoes_129 rfl rfl ?_
            rw [f21]
            refine r_aload_n C dX10_secondGoes_132 rfl ?_
            refine r_iload_n C dX10_secondGoes_133 rfl ?_
            refine r_iconst C (v := 2) dX10_secondGoes_134 (by decide) ?_
            refine cV (ci := 10) C hx (sX10_ofStraw (d := d - 1) k 2 (by omega) (by decide) I2 J b) moX10_ofStraw mlX10_218 miX10_ofStraw msX10_ofStraw dX10_secondGoes_135 rfl rfl rfl rfl rfl (by omega) rfl rfl (kp ?_)
            refine b_icgt C (tgt := 145) rfl rfl dX10_secondGoes_138 rfl (fun h138_5 => ?_) (fun h138_5 => ?_)
            · refine r_iconst C (v := 0) dX10_secondGoes_145 (by decide) ?_
              have hh : (I2 65 (8 * k + 2)).toInt < (I 64 21).toInt := by assumption
              rw [f65] at hh
              exact mid2 0 (if_neg (fun z => by have z3 := z.2.2; rw [tI_sub (by omega) (by omega)] at z3; omega)).symm
            · refine r_iconst C (v := 1) dX10_secondGoes_141 (by decide) ?_
              refine r_goto C (tgt := 146) dX10_secondGoes_142 rfl ?_
              have hh : (I 64 21).toInt ≤ (I2 65 (8 * k + 2)).toInt := by assumption
              rw [f65] at hh
              exact mid2 1 (if_pos ⟨by assumption, Bool.eq_false_iff.mpr (by assumption), by rw [tI_sub (by omega) (by omega)]; omega⟩).symm
      refine r_iload_n C dX10_secondGoes_42 rfl ?_
      refine r_aload_n C dX10_secondGoes_43 rfl ?_
      refine r_getI C flX10_102 dX10_secondGoes_44 rfl rfl ?_
      refine b_icge C (tgt := 173) rfl rfl dX10_secondGoes_47 rfl (fun h47_1 => ?_) (fun h47_1 => ?_)
      · exfalso; omega
      · refine r_aload_n C dX10_secondGoes_50 rfl ?_
        refine r_iload_n C dX10_secondGoes_51 rfl ?_
        refine cV (ci := 10) C hx (sX10_draws (d := d - 1) (by omega) k (by omega) I' J b (by rw [e65]; exact hrk.2.2.2.2.1) (by rw [e65]; exact hrk.2.2.2.2.2.1)) moX10_draws mlX10_247 miX10_draws msX10_draws dX10_secondGoes_52 rfl rfl rfl rfl rfl (by omega) rfl rfl (kp ?_)
        rw [hPk]
        refine r_istore C dX10_secondGoes_55 rfl rfl ?_
        refine r_iload_n C dX10_secondGoes_57 rfl ?_
        refine r_aload_n C dX10_secondGoes_58 rfl ?_
        refine r_getI C flX10_225 dX10_secondGoes_59 rfl rfl ?_
        rw [e21]
        refine b_icle C (tgt := 81) rfl rfl dX10_secondGoes_62 rfl (fun h62_3 => ?_) (fun h62_3 => ?_)
        · refine r_aload_n C dX10_secondGoes_81 rfl ?_
          refine r_getR C flX10_43 dX10_secondGoes_82 rfl rfl rfl ?_
          refine r_iload_n C dX10_secondGoes_85 rfl ?_
          refine r_iald C rfl dX10_secondGoes_86 (vin (by omega) (show (nI k).toInt < 3 by omega)) ?_
          rw [kx, h76 k hk]
          exact mid1 _ _ (by rw [hG]; unfold shF; exact (if_neg (by omega)).symm)
        · refine r_aload_n C dX10_secondGoes_65 rfl ?_
          refine r_getR C flX10_43 dX10_secondGoes_66 rfl rfl rfl ?_
          refine r_iload_n C dX10_secondGoes_69 rfl ?_
          refine r_iald C rfl dX10_secondGoes_70 (vin (by omega) (show (nI k).toInt < 3 by omega)) ?_
          rw [kx, h76 k hk]
          refine r_aload_n C dX10_secondGoes_71 rfl ?_
          refine r_getI C flX10_225 dX10_secondGoes_72 rfl rfl ?_
          rw [e21]
          refine r_imul C dX10_secondGoes_75 ?_
          refine r_iload_n C dX10_secondGoes_76 rfl ?_
          refine r_idiv C dX10_secondGoes_77 (fun z => by have z1 := congrArg Int32.toInt z; rw [show (0 : Int32).toInt = 0 from rfl] at z1; omega) ?_
          refine r_goto C (tgt := 87) dX10_secondGoes_78 rfl ?_
          exact mid1 _ _ (by rw [hG]; unfold shF; exact (if_pos (by assumption)).symm)
  have loop1 : ∀ (m k : Nat) (I' : Is) (x3 x4 x5 : Option Value), m + k = n → FrM [72, 76] [15, 16, 17, 18, 19] I I' → (∀ j, j < k → I' 76 j = W j) → Aw X 4 [some (.ref 64), some (.int (smF W k)), some (.int (nI k)), x3, x4, x5] [] (st9 I' J b) := by
    intro m
    induction m with
    | zero =>
      intro k I' x3 x4 x5 hm hF h76
      have ink : (nI k).toInt = (k : Int) := nIint (by omega)
      have e6 : (I' 64 6).toInt = (n : Int) := by rw [hF.2 6 (by decide)]; exact hn
      have hkn : k = n := by omega
      refine r_iload_n C dX10_secondGoes_4 rfl ?_
      refine r_aload_n C dX10_secondGoes_5 rfl ?_
      refine r_getI C flX10_102 dX10_secondGoes_6 rfl rfl ?_
      refine b_icge C (tgt := 38) rfl rfl dX10_secondGoes_9 rfl (fun h9_1 => ?_) (fun h9_1 => ?_)
      · refine r_iconst C (v := 0) dX10_secondGoes_38 (by decide) ?_
        refine r_istore_n C dX10_secondGoes_39 rfl rfl ?_
        refine r_iconst C (v := 0) dX10_secondGoes_40 (by decide) ?_
        refine r_istore_n C dX10_secondGoes_41 rfl rfl ?_
        rw [hkn, ← hal]
        exact loop2 n 0 _ _ _ rfl (hF.mo (by decide) (by decide)) (fun j hj => h76 j (by omega)) (fun j => by rw [hF.1 73 (by decide) (by decide), if_neg (fun z => absurd z.1 (Nat.not_lt_zero j))]) (fun j => by rw [hF.1 74 (by decide) (by decide), if_neg (Nat.not_lt_zero j)]) (fun j => by rw [hF.1 75 (by decide) (by decide), if_neg (fun z => absurd z.1 (Nat.not_lt_zero j))])
      · exfalso; omega
    | succ m ih =>
      intro k I' x3 x4 x5 hm hF h76
      have ink : (nI k).toInt = (k : Int) := nIint (by omega)
      have kx : ix (nI k) = k := nIix (by omega)
      have e6 : (I' 64 6).toInt = (n : Int) := by rw [hF.2 6 (by decide)]; exact hn
      obtain ⟨t1, t2, t3, t4⟩ := th_fr hF (by decide) (by decide) (by decide) (by decide) (by decide) (by decide) (by decide)
      have t5 := gv_fr hF (by decide) (by decide) (by decide) (by decide) (by decide) (by decide) (by decide)
      refine r_iload_n C dX10_secondGoes_4 rfl ?_
      refine r_aload_n C dX10_secondGoes_5 rfl ?_
      refine r_getI C flX10_102 dX10_secondGoes_6 rfl rfl ?_
      refine b_icge C (tgt := 38) rfl rfl dX10_secondGoes_9 rfl (fun h9_1 => ?_) (fun h9_1 => ?_)
      · exfalso; omega
      · refine r_aload_n C dX10_secondGoes_12 rfl ?_
        refine r_getR C flX10_43 dX10_secondGoes_13 rfl rfl rfl ?_
        refine r_iload_n C dX10_secondGoes_16 rfl ?_
        refine r_aload_n C dX10_secondGoes_17 rfl ?_
        refine r_iload_n C dX10_secondGoes_18 rfl ?_
        refine cV (ci := 10) C hx (sX10_wantsNow (d := d - 1) (by omega) k (by omega) I' J b (NM_fr hF (by decide) (by decide) (by decide) hN) (by rw [t5]; exact hv) (by rw [hF.2 6 (by decide), ← hne]; omega)) moX10_wantsNow mlX10_250 miX10_wantsNow msX10_wantsNow dX10_secondGoes_19 rfl rfl rfl rfl rfl (by omega) rfl rfl (ki (fun v_19_2 I_19_2 q_19_2 => ?_))
        rw [t1, t2, t3, t4, t5, ← hW] at q_19_2
        obtain ⟨hw, hFw⟩ := q_19_2
        rw [hw]
        refine r_iast C rfl dX10_secondGoes_22 (vin (by omega) (show (nI k).toInt < 3 by omega)) ?_
        rw [kx]
        refine r_iload_n C dX10_secondGoes_23 rfl ?_
        refine r_aload_n C dX10_secondGoes_24 rfl ?_
        refine r_getR C flX10_43 dX10_secondGoes_25 rfl rfl rfl ?_
        refine r_iload_n C dX10_secondGoes_28 rfl ?_
        refine r_iald C rfl dX10_secondGoes_29 (vin (by omega) (show (nI k).toInt < 3 by omega)) ?_
        rw [kx, u2_same]
        refine r_iadd C dX10_secondGoes_30 ?_
        refine r_istore_n C dX10_secondGoes_31 rfl rfl ?_
        refine r_iinc C (v := 1) dX10_secondGoes_32 rfl (by decide) rfl ?_
        refine r_goto C (tgt := 4) dX10_secondGoes_35 rfl ?_
        rw [nI_s, show smF W k + W k = smF W (k + 1) from rfl]
        exact ih (k + 1) _ _ _ _ (by omega) ((hF.tr hFw (by decide) (by decide) (by decide) (by decide)).st (by decide) (by decide)) (fun j hj => by
          by_cases e : j = k
          · subst e; exact u2_same ..
          · rw [u2_ne _ _ _ _ (Or.inr e), hFw.1 76 (by decide) (by decide)]; exact h76 j (by omega))
  refine r_iconst C (v := 0) dX10_secondGoes_0 (by decide) ?_
  refine r_istore_n C dX10_secondGoes_1 rfl rfl ?_
  refine r_iconst C (v := 0) dX10_secondGoes_2 (by decide) ?_
  refine r_istore_n C dX10_secondGoes_3 rfl rfl ?_
  exact loop1 n 0 I _ _ _ rfl FrM.rf (fun j hj => absurd hj (Nat.not_lt_zero j))
