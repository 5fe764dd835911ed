def dgM (T : Int32 → Int32) : Nat → Int32 → PS → Int32 × PS
  | 0, v, p => (v, p)
  | n + 1, v, p => if dgF (T p.1) then dgM T n (10 * v + T p.1 - 48) (p.1 + 1, p.2.1, p.2.2) else (v, p)
/-- a name, a number, or a fault -/
def nmM (T : Int32 → Int32) (nm : Nat → Int32) (p : PS) : Int32 × PS := if 0 ≤ (nmgF (T p.1)).toInt then (nm (ix (nmgF (T p.1))), (p.1 + 1, p.2.1, p.2.2)) else if dgF (T p.1) then dgM T 4 0 p else (0, wrP p)
def opM (T : Int32 → Int32) (nm : Nat → Int32) (p : PS) : Int32 × PS := if 0 ≤ p.2.1.toInt then (0, p) else if T p.1 = 40 ∨ T p.1 = 33 ∨ T p.1 = 45 then (0, wrP p) else nmM T nm p
def stM (T : Int32 → Int32) (nm : Nat → Int32) (f5 f1 : PS → Int32 × PS) (p : PS) : Int32 × PS := if 0 ≤ p.2.1.toInt then (0, p) else if T p.1 = 40 then
      (if tkQ T 41 (f5 (p.1 + 1, p.2.1, p.2.2 + 1)).2 then ((f5 (p.1 + 1, p.2.1, p.2.2 + 1)).1, ((f5 (p.1 + 1, p.2.1, p.2.2 + 1)).2.1 + 1, (f5 (p.1 + 1, p.2.1, p.2.2 + 1)).2.2.1, (f5 (p.1 + 1, p.2.1, p.2.2 + 1)).2.2.2 - 1)) else (0, wrP (f5 (p.1 + 1, p.2.1, p.2.2 + 1)).2))
    else if T p.1 = 33 ∨ T p.1 = 45 then ((if T p.1 = 45 then -(f1 (p.1 + 1, p.2.1, p.2.2 + 1)).1 else bI ((f1 (p.1 + 1, p.2.1, p.2.2 + 1)).1 = 0)), ((f1 (p.1 + 1, p.2.1, p.2.2 + 1)).2.1, (f1 (p.1 + 1, p.2.1, p.2.2 + 1)).2.2.1, (f1 (p.1 + 1, p.2.1, p.2.2 + 1)).2.2.2 - 1))
    else nmM T nm p
def oneM (T : Int32 → Int32) (nm : Nat → Int32) : Nat → PS → Int32 × PS
  | 0 => opM T nm
  | m + 1 => stM T nm (jnM T (oneM T nm m) 5) (oneM T nm m)
theorem dg_n0 {c : Int32} (h : dgF c) : ¬ c = 0 := fun e => by
  rw [e] at h
  exact absurd h.1 (by decide)
theorem nmg_n0 {c : Int32} (h : 0 ≤ (nmgF c).toInt) : ¬ c = 0 := fun e => by
  rw [e] at h
  exact absurd h (by decide)
theorem dgM_stop {T : Int32 → Int32} {n : Nat} {v : Int32} {p : PS} (h : ¬ dgF (T p.1)) : dgM T n v p = (v, p) := by
  cases n with
  | zero => rfl
  | succ n => exact if_neg h
theorem nmg_rng (c : Int32) : (nmgF c).toInt ≤ 5 := by
  unfold nmgF
  repeat (first | decide | split)
theorem PG.cl {I : Is} {p q : PS} (hp : PO I p) (h : PG I (p.1 + 1, p.2.1, p.2.2 + 1) q) (hu : (p.1 + 1).toInt = p.1.toInt + 1) : PG I p (q.1, q.2.1, q.2.2 - 1) := by
  refine ⟨?_, h.2.1, fun z => ⟨(h.2.2 z).1, ?_⟩⟩
  · have h1 : (p.1 + 1).toInt ≤ q.1.toInt := h.1
    show p.1.toInt ≤ q.1.toInt
    omega
  · show q.2.2 - 1 = p.2.2
    rw [(h.2.2 z).2]
    exact Int32.add_sub_cancel _ _
theorem PG.cw {I : Is} {p q : PS} (hp : PO I p) (h : PG I (p.1 + 1, p.2.1, p.2.2 + 1) q) (hu : (p.1 + 1).toInt = p.1.toInt + 1) : PG I p (wrP q) := by
  have h1 : (p.1 + 1).toInt ≤ q.1.toInt := h.1
  have h0 := hp.1
  refine ⟨by show p.1.toInt ≤ q.1.toInt; omega, h.2.1, fun z => ?_⟩
  unfold wrP at z
  by_cases c : q.2.1.toInt < 0
  · rw [if_pos c] at z
    have z' : q.1.toInt < 0 := z
    omega
  · rw [if_neg c] at z
    exact absurd z c
set_option maxRecDepth 100000 in
set_option maxHeartbeats 400000 in
theorem one_tail {X : Cx} {d : Nat} {I : Is} {J : Js} {b : Bool} {p : PS} {G : Int32 × PS} {x2 x3 x4 : Option Value} (hx : x_n X = 91) (C : Ok X RX10 mX10_one.2.1 mX10_one.2.2.1 d 91) (Z : Rt X mX10_one.2.2.2 91 (Qi J b (fun v I' => v = G.1 ∧ I' = setP I G.2 ∧ PG I p G.2))) (hG : nmM (txM I) (I 72) p = G) (hB : BE I) (hp : PO I p) (hd : 2 ≤ d) : Aw X 145 [some (.ref 64), some (.int (txM I p.1)), x2, x3, x4] [] (st9 (setP I p) J b) := by
  have loop : ∀ (n i : Nat) (v : Int32) (q : PS), n + i = 4 → ¬ 0 ≤ (nmgF (txM I p.1)).toInt → dgM (txM I) n v q = dgM (txM I) 4 0 p → PG I p q → (i = 0 → q = p) → (¬ i = 0 → dgF (txM I p.1)) → Aw X 176 [some (.ref 64), some (.int (txM I p.1)), some (.int (nmgF (txM I p.1))), some (.int v), some (.int (nI i))] [] (st9 (setP I q) J b) := by
    intro n
    induction n with
    | zero =>
      intro i v q hn hneg hv hPG h0 h1
      have ini : (nI i).toInt = (i : Int) := nIint (by omega)
      refine r_iload C dX10_one_176 rfl ?_
      refine r_iconst C (v := 4) dX10_one_178 (by decide) ?_
      refine b_icge C (tgt := 229) (my := 4) rfl rfl dX10_one_179 rfl (fun h179_1 => ?_) (fun h179_1 => ?_)
      · refine r_iload C dX10_one_229 rfl ?_
        refine r_ifne C (tgt := 241) dX10_one_231 rfl (fun h231_2 => ?_) (fun h231_2 => ?_)
        · refine r_iload_n C dX10_one_241 rfl ?_
          exact ri C Z dX10_one_242 (show _ ∧ _ ∧ _ from by unfold nmM at hG; rw [if_neg hneg, if_pos (h1 (by omega)), ← hv] at hG; rw [← hG]; exact ⟨rfl, rfl, hPG⟩)
        · exfalso; have z9 := congrArg Int32.toInt (show nI i = 0 by assumption); have z8 : (0 : Int32).toInt = 0 := rfl; omega
      · exfalso; omega
    | succ n ih =>
      intro i v q hn hneg hv hPG h0 h1
      have ini : (nI i).toInt = (i : Int) := nIint (by omega)
      refine r_iload C dX10_one_176 rfl ?_
      refine r_iconst C (v := 4) dX10_one_178 (by decide) ?_
      refine b_icge C (tgt := 229) (my := 4) rfl rfl dX10_one_179 rfl (fun h179_1 => ?_) (fun h179_1 => ?_)
      · exfalso; omega
      · refine r_aload_n C dX10_one_182 rfl ?_
        refine cV (ci := 10) C hx (sX10_byteAt (d := d - 1) (by omega) I J b q hB (PG.po hp hPG)) moX10_byteAt mlX10_180 miX10_byteAt msX10_byteAt dX10_one_183 rfl rfl rfl rfl rfl (by omega) rfl rfl (kp ?_)
        refine r_bipush C (v := 48) dX10_one_186 (by decide) ?_
        refine b_iclt C (tgt := 229) (my := 48) rfl rfl dX10_one_188 rfl (fun h188_3 => ?_) (fun h188_3 => ?_)
        · refine r_iload C dX10_one_229 rfl ?_
          refine r_ifne C (tgt := 241) dX10_one_231 rfl (fun h231_4 => ?_) (fun h231_4 => ?_)
          · refine r_iload_n C dX10_one_241 rfl ?_
            exact ri C Z dX10_one_242 (show _ ∧ _ ∧ _ from by
          have hnd : ¬ dgF (txM I q.1) := fun z => by have z1 := z.1; have z2 := z.2; omega
          have hi0 : ¬ i = 0 := fun e => (show ¬ nI i = 0 by assumption) (by rw [e]; rfl)
          unfold nmM at hG; rw [if_neg hneg, if_pos (h1 hi0), ← hv, dgM_stop hnd] at hG; rw [← hG]; exact ⟨rfl, rfl, hPG⟩)
          · refine r_aload_n C dX10_one_234 rfl ?_
            refine cV (ci := 10) C hx (sX10_wrong (d := d - 1) (by omega) I J b q) moX10_wrong mlX10_205 miX10_wrong msX10_wrong dX10_one_235 rfl rfl rfl rfl rfl (by omega) rfl rfl (ki (fun v_235_5 I_235_5 q_235_5 => ?_))
            obtain ⟨rfl, rfl⟩ := q_235_5
            refine r_goto C (tgt := 242) dX10_one_238 rfl ?_
            exact ri C Z dX10_one_242 (show _ ∧ _ ∧ _ from by
          have hi0 : i = 0 := by have z9 := congrArg Int32.toInt (show nI i = 0 by assumption); have z8 : (0 : Int32).toInt = 0 := rfl; omega
          have hnd : ¬ dgF (txM I q.1) := fun z => by have z1 := z.1; have z2 := z.2; omega
          rw [h0 hi0] at hnd ⊢
          unfold nmM at hG; rw [if_neg hneg, if_neg hnd] at hG; rw [← hG]; exact ⟨rfl, rfl, PG.wr hp⟩)
        · refine r_aload_n C dX10_one_191 rfl ?_
          refine cV (ci := 10) C hx (sX10_byteAt (d := d - 1) (by omega) I J b q hB (PG.po hp hPG)) moX10_byteAt mlX10_180 miX10_byteAt msX10_byteAt dX10_one_192 rfl rfl rfl rfl rfl (by omega) rfl rfl (kp ?_)
          refine r_bipush C (v := 57) dX10_one_195 (by decide) ?_
          refine b_icgt C (tgt := 229) (my := 57) rfl rfl dX10_one_197 rfl (fun h197_7 => ?_) (fun h197_7 => ?_)
          · refine r_iload C dX10_one_229 rfl ?_
            refine r_ifne C (tgt := 241) dX10_one_231 rfl (fun h231_8 => ?_) (fun h231_8 => ?_)
            · refine r_iload_n C dX10_one_241 rfl ?_
              exact ri C Z dX10_one_242 (show _ ∧ _ ∧ _ from by
          have hnd : ¬ dgF (txM I q.1) := fun z => by have z1 := z.1; have z2 := z.2; omega
          have hi0 : ¬ i = 0 := fun e => (show ¬ nI i = 0 by assumption) (by rw [e]; rfl)
          unfold nmM at hG; rw [if_neg hneg, if_pos (h1 hi0), ← hv, dgM_stop hnd] at hG; rw [← hG]; exact ⟨rfl, rfl, hPG⟩)
            · refine r_aload_n C dX10_one_234 rfl ?_
              refine cV (ci := 10) C hx (sX10_wrong (d := d - 1) (by omega) I J b q) moX10_wrong mlX10_205 miX10_wrong msX10_wrong dX10_one_235 rfl rfl rfl rfl rfl (by omega) rfl rfl (ki (fun v_235_9 I_235_9 q_235_9 => ?_))
              obtain ⟨rfl, rfl⟩ := q_235_9
              refine r_goto C (tgt := 242) dX10_one_238 rfl ?_
              exact ri C Z dX10_one_242 (show _ ∧ _ ∧ _ from by
          have hi0 : i = 0 := by have z9 := congrArg Int32.toInt (show nI i = 0 by assumption); have z8 : (0 : Int32).toInt = 0 := rfl; omega
          have hnd : ¬ dgF (txM I q.1) := fun z => by have z1 := z.1; have z2 := z.2; omega
          rw [h0 hi0] at hnd ⊢
          unfold nmM at hG; rw [if_neg hneg, if_neg hnd] at hG; rw [← hG]; exact ⟨rfl, rfl, PG.wr hp⟩)
          · have hdg : dgF (txM I q.1) := ⟨by assumption, by assumption⟩
            obtain ⟨hup, hui⟩ := PG.up hB (PG.po hp hPG) (dg_n0 hdg)
            have hv1 : dgM (txM I) (n + 1) v q = dgM (txM I) n (10 * v + txM I q.1 - 48) (q.1 + 1, q.2.1, q.2.2) := if_pos hdg
            refine r_bipush C (v := 10) dX10_one_200 (by decide) ?_
            refine r_iload_n C dX10_one_202 rfl ?_
            refine r_imul C dX10_one_203 ?_
            refine r_aload_n C dX10_one_204 rfl ?_
            refine cV (ci := 10) C hx (sX10_byteAt (d := d - 1) (by omega) I J b q hB (PG.po hp hPG)) moX10_byteAt mlX10_180 miX10_byteAt msX10_byteAt dX10_one_205 rfl rfl rfl rfl rfl (by omega) rfl rfl (kp ?_)
            refine r_iadd C dX10_one_208 ?_
            refine r_bipush C (v := 48) dX10_one_209 (by decide) ?_
            refine r_isub C dX10_one_211 ?_
            refine r_istore_n C dX10_one_212 rfl rfl ?_
            refine r_iinc C (v := 1) dX10_one_213 rfl (by decide) rfl ?_
            refine r_aload_n C dX10_one_216 rfl ?_
            refine r_dup C dX10_one_217 rfl ?_
            refine g_at C dX10_one_218 ?_
            refine r_iconst C (v := 1) dX10_one_221 (by decide) ?_
            refine r_iadd C dX10_one_222 ?_
            refine p_at C dX10_one_223 ?_
            refine r_goto C (tgt := 176) dX10_one_226 rfl ?_
            rw [nI_s]
            exact ih (i + 1) _ _ (by omega) hneg (hv1.symm.trans hv) (hPG.tr hup) (fun e => absurd e (by omega)) (fun _ => by
              by_cases e : i = 0
              · rw [h0 e] at hdg; exact hdg
              · exact h1 e)
  refine r_iload_n C dX10_one_145 rfl ?_
  refine cS C hx (sX10_nameOf (d := d - 1) (by omega) _ (setP I p) J b) moX10_nameOf mlX10_211 mtX10_nameOf dX10_one_146 rfl rfl (by omega) rfl rfl (kp ?_)
  refine r_istore_n C dX10_one_149 rfl rfl ?_
  refine r_iload_n C dX10_one_150 rfl ?_
  refine b_iflt C (tgt := 171) dX10_one_151 rfl (fun h151_2 => ?_) (fun h151_2 => ?_)
  · refine r_iconst C (v := 0) dX10_one_171 (by decide) ?_
    refine r_istore_n C dX10_one_172 rfl rfl ?_
    refine r_iconst C (v := 0) dX10_one_173 (by decide) ?_
    refine r_istore C dX10_one_174 rfl rfl ?_
    exact loop 4 0 0 p rfl (by omega) rfl (PG.rf hp) (fun _ => rfl) (fun e => absurd rfl e)
  · have hup := (PG.up hB hp (nmg_n0 (by assumption))).1
    refine r_aload_n C dX10_one_154 rfl ?_
    refine r_dup C dX10_one_155 rfl ?_
    refine g_at C dX10_one_156 ?_
    refine r_iconst C (v := 1) dX10_one_159 (by decide) ?_
    refine r_iadd C dX10_one_160 ?_
    refine p_at C dX10_one_161 ?_
    refine r_aload_n C dX10_one_164 rfl ?_
    refine r_getR C flX10_31 dX10_one_165 rfl rfl rfl ?_
    refine r_iload_n C dX10_one_168 rfl ?_
    refine r_iald C rfl dX10_one_169 (vin (by assumption) (show (nmgF (txM I p.1)).toInt < 6 by have := nmg_rng (txM I p.1); omega)) ?_
    exact ri C Z dX10_one_170 (show _ ∧ _ ∧ _ from by unfold nmM at hG; rw [if_pos (by assumption)] at hG; rw [← hG]; exact ⟨congrFun (sP_row I _ (by decide)) _, rfl, hup⟩)
set_option maxRecDepth 100000 in
set_option maxHeartbeats 400000 in
theorem sX10_one {g : Gb} {I : Is} (hB : BE I) : ∀ m : Nat, m ≤ 6 → EvC g I (11 * m + 2) m mX10_one (oneM (txM I) (I 72) m) := by
  intro m
  induction m with
  | zero =>
    intro hm d hd J b p hp hop
    show MC9 g d mX10_one [.ref 64] (setP I p) J b (Qi J b (fun v I' => v = (opM (txM I) (I 72) p).1 ∧ I' = setP I (opM (txM I) (I 72) p).2 ∧ PG I p (opM (txM I) (I 72) p).2))
    obtain ⟨G, hst⟩ : ∃ G, opM (txM I) (I 72) p = G := ⟨_, rfl⟩
    rw [hst]
    refine ent9 (own := RX10) rfl rfl rfl (fun X hg hx C Z => ?_)
    subst hg
    unfold opM at hst
    refine r_aload_n C dX10_one_0 rfl ?_
    refine g_fa C dX10_one_1 ?_
    refine b_iflt C (tgt := 9) dX10_one_4 rfl (fun h4_1 => ?_) (fun h4_1 => ?_)
    · refine r_aload_n C dX10_one_9 rfl ?_
      refine cV (ci := 10) C hx (sX10_byteAt (d := d - 1) (by omega) I J b p hB hp) moX10_byteAt mlX10_180 miX10_byteAt msX10_byteAt dX10_one_10 rfl rfl rfl rfl rfl (by omega) rfl rfl (kp ?_)
      refine r_istore_n C dX10_one_13 rfl rfl ?_
      refine r_iload_n C dX10_one_14 rfl ?_
      refine r_bipush C (v := 33) dX10_one_15 (by decide) ?_
      refine r_iceq C (tgt := 32) dX10_one_17 rfl (fun h17_3 => ?_) (fun h17_3 => ?_)
      · have hfa : p.2.1.toInt < 0 := by assumption
        have hco : txM I p.1 = 40 ∨ txM I p.1 = 33 ∨ txM I p.1 = 45 := by first | exact Or.inl (by assumption) | exact Or.inr (Or.inl (by assumption)) | exact Or.inr (Or.inr (by assumption))
        refine r_aload_n C dX10_one_32 rfl ?_
        refine g_op C dX10_one_33 ?_
        refine r_bipush C (v := 6) dX10_one_36 (by decide) ?_
        refine r_icne C (tgt := 46) dX10_one_38 rfl (fun h38_4 => ?_) (fun h38_4 => ?_)
        · exact absurd (show p.2.2 = 6 from Int32.toInt_inj.mp (by have z8 : (6 : Int32).toInt = 6 := rfl; have := hop hfa; omega)) (by assumption)
        · refine r_aload_n C dX10_one_41 rfl ?_
          refine cV (ci := 10) C hx (sX10_wrong (d := d - 1) (by omega) I J b p) moX10_wrong mlX10_205 miX10_wrong msX10_wrong dX10_one_42 rfl rfl rfl rfl rfl (by omega) rfl rfl (ki (fun v_42_5 I_42_5 q_42_5 => ?_))
          obtain ⟨rfl, rfl⟩ := q_42_5
          exact ri C Z dX10_one_45 (show _ ∧ _ ∧ _ from by rw [if_neg (by omega), if_pos hco] at hst; rw [← hst]; exact ⟨rfl, rfl, PG.wr hp⟩)
      · refine r_iload_n C dX10_one_20 rfl ?_
        refine r_bipush C (v := 45) dX10_one_21 (by decide) ?_
        refine r_iceq C (tgt := 32) dX10_one_23 rfl (fun h23_6 => ?_) (fun h23_6 => ?_)
        · have hfa : p.2.1.toInt < 0 := by assumption
          have hco : txM I p.1 = 40 ∨ txM I p.1 = 33 ∨ txM I p.1 = 45 := by first | exact Or.inl (by assumption) | exact Or.inr (Or.inl (by assumption)) | exact Or.inr (Or.inr (by assumption))
          refine r_aload_n C dX10_one_32 rfl ?_
          refine g_op C dX10_one_33 ?_
          refine r_bipush C (v := 6) dX10_one_36 (by decide) ?_
          refine r_icne C (tgt := 46) dX10_one_38 rfl (fun h38_7 => ?_) (fun h38_7 => ?_)
          · exact absurd (show p.2.2 = 6 from Int32.toInt_inj.mp (by have z8 : (6 : Int32).toInt = 6 := rfl; have := hop hfa; omega)) (by assumption)
          · refine r_aload_n C dX10_one_41 rfl ?_
            refine cV (ci := 10) C hx (sX10_wrong (d := d - 1) (by omega) I J b p) moX10_wrong mlX10_205 miX10_wrong msX10_wrong dX10_one_42 rfl rfl rfl rfl rfl (by omega) rfl rfl (ki (fun v_42_8 I_42_8 q_42_8 => ?_))
            obtain ⟨rfl, rfl⟩ := q_42_8
            exact ri C Z dX10_one_45 (show _ ∧ _ ∧ _ from by rw [if_neg (by omega), if_pos hco] at hst; rw [← hst]; exact ⟨rfl, rfl, PG.wr hp⟩)
        · refine r_iload_n C dX10_one_26 rfl ?_
          refine r_bipush C (v := 40) dX10_one_27 (by decide) ?_
          refine r_icne C (tgt := 145) dX10_one_29 rfl (fun h29_9 => ?_) (fun h29_9 => ?_)
          · rw [if_neg (by omega), if_neg (fun z => z.elim (by assumption) (fun y => y.elim (by assumption) (by assumption)))] at hst
            exact one_tail hx C Z hst hB hp (by omega)
          · have hfa : p.2.1.toInt < 0 := by assumption
            have hco : txM I p.1 = 40 ∨ txM I p.1 = 33 ∨ txM I p.1 = 45 := by first | exact Or.inl (by assumption) | exact Or.inr (Or.inl (by assumption)) | exact Or.inr (Or.inr (by assumption))
            refine r_aload_n C dX10_one_32 rfl ?_
            refine g_op C dX10_one_33 ?_
            refine r_bipush C (v := 6) dX10_one_36 (by decide) ?_
            refine r_icne C (tgt := 46) dX10_one_38 rfl (fun h38_10 => ?_) (fun h38_10 => ?_)
            · exact absurd (show p.2.2 = 6 from Int32.toInt_inj.mp (by have z8 : (6 : Int32).toInt = 6 := rfl; have := hop hfa; omega)) (by assumption)
            · refine r_aload_n C dX10_one_41 rfl ?_
              refine cV (ci := 10) C hx (sX10_wrong (d := d - 1) (by omega) I J b p) moX10_wrong mlX10_205 miX10_wrong msX10_wrong dX10_one_42 rfl rfl rfl rfl rfl (by omega) rfl rfl (ki (fun v_42_11 I_42_11 q_42_11 => ?_))
              obtain ⟨rfl, rfl⟩ := q_42_11
              exact ri C Z dX10_one_45 (show _ ∧ _ ∧ _ from by rw [if_neg (by omega), if_pos hco] at hst; rw [← hst]; exact ⟨rfl, rfl, PG.wr hp⟩)
    · refine r_iconst C (v := 0) dX10_one_7 (by decide) ?_
      exact ri C Z dX10_one_8 (show _ ∧ _ ∧ _ from by rw [if_pos (by assumption)] at hst; rw [← hst]; exact ⟨rfl, rfl, PG.rf hp⟩)
  | succ m ih =>
    intro hm d hd J b p hp hop
    have sub1 : EvC g I (11 * m + 2) m mX10_one (oneM (txM I) (I 72) m) := ih (by omega)
    have sub2 : EvC g I (11 * m + 12) m mX10_either (jnM (txM I) (oneM (txM I) (I 72) m) 5) := sX10_either hB (sX10_bothOf hB (sX10_compared hB (sX10_sums hB (sX10_product hB sub1))))
    show MC9 g d mX10_one [.ref 64] (setP I p) J b (Qi J b (fun v I' => v = (stM (txM I) (I 72) (jnM (txM I) (oneM (txM I) (I 72) m) 5) (oneM (txM I) (I 72) m) p).1 ∧ I' = setP I (stM (txM I) (I 72) (jnM (txM I) (oneM (txM I) (I 72) m) 5) (oneM (txM I) (I 72) m) p).2 ∧ PG I p (stM (txM I) (I 72) (jnM (txM I) (oneM (txM I) (I 72) m) 5) (oneM (txM I) (I 72) m) p).2))
    clear ih
    generalize jnM (txM I) (oneM (txM I) (I 72) m) 5 = f5 at *
    generalize oneM (txM I) (I 72) m = f1 at *
    obtain ⟨G, hst⟩ : ∃ G, stM (txM I) (I 72) f5 f1 p = G := ⟨_, rfl⟩
    rw [hst]
    refine ent9 (own := RX10) rfl rfl rfl (fun X hg hx C Z => ?_)
    subst hg
    unfold stM at hst
    have mid : ∀ (x2 x3 x4 : Option Value), p.2.1.toInt < 0 → (txM I p.1 = 40 ∨ txM I p.1 = 33 ∨ txM I p.1 = 45) → Aw X 32 [some (.ref 64), some (.int (txM I p.1)), x2, x3, x4] [] (st9 (setP I p) J b) := by
      intro x2 x3 x4 hfa hco
      refine r_aload_n C dX10_one_32 rfl ?_
      refine g_op C dX10_one_33 ?_
      refine r_bipush C (v := 6) dX10_one_36 (by decide) ?_
      refine r_icne C (tgt := 46) dX10_one_38 rfl (fun h38_1 => ?_) (fun h38_1 => ?_)
      · have hT0 : ¬ txM I p.1 = 0 := fun e => by rw [e] at hco; exact absurd hco (by decide)
        obtain ⟨hup, hui⟩ := PG.up hB hp hT0
        have hpu : PO I (p.1 + 1, p.2.1, p.2.2 + 1) := ⟨(PG.po hp hup).1, (PG.po hp hup).2⟩
        have ho1 : p.2.1.toInt < 0 → (p.2.2 + 1).toInt + (m : Int) = 6 := fun z => by
          have h0 := hop z
          rw [tI_add (by rw [one_int]; omega) (by rw [one_int]; omega), one_int]; omega
        refine r_aload_n C dX10_one_46 rfl ?_
        refine r_dup C dX10_one_47 rfl ?_
        refine g_op C dX10_one_48 ?_
        refine r_iconst C (v := 1) dX10_one_51 (by decide) ?_
        refine r_iadd C dX10_one_52 ?_
        refine p_op C dX10_one_53 ?_
        refine r_aload_n C dX10_one_56 rfl ?_
        refine r_dup C dX10_one_57 rfl ?_
        refine g_at C dX10_one_58 ?_
        refine r_iconst C (v := 1) dX10_one_61 (by decide) ?_
        refine r_iadd C dX10_one_62 ?_
        refine p_at C dX10_one_63 ?_
        refine r_iload_n C dX10_one_66 rfl ?_
        refine r_bipush C (v := 40) dX10_one_67 (by decide) ?_
        refine r_icne C (tgt := 79) dX10_one_69 rfl (fun h69_2 => ?_) (fun h69_2 => ?_)
        · refine r_aload_n C dX10_one_79 rfl ?_
          refine cV (ci := 10) C hx (sub1 (d - 1) (by omega) J b (p.1 + 1, p.2.1, p.2.2 + 1) hpu ho1) moX10_one mlX10_199 miX10_one msX10_one dX10_one_80 rfl rfl rfl rfl rfl (by omega) rfl rfl (ki (fun v_80_3 I_80_3 q_80_3 => ?_))
          obtain ⟨rfl, rfl, hPG1⟩ := q_80_3
          refine r_istore_n C dX10_one_83 rfl rfl ?_
          refine r_iload_n C dX10_one_84 rfl ?_
          refine r_bipush C (v := 40) dX10_one_85 (by decide) ?_
          refine r_icne C (tgt := 104) dX10_one_87 rfl (fun h87_4 => ?_) (fun h87_4 => ?_)
          · refine r_aload_n C dX10_one_104 rfl ?_
            refine r_dup C dX10_one_105 rfl ?_
            refine g_op C dX10_one_106 ?_
            refine r_iconst C (v := 1) dX10_one_109 (by decide) ?_
            refine r_isub C dX10_one_110 ?_
            refine p_op C dX10_one_111 ?_
            refine r_iload_n C dX10_one_114 rfl ?_
            refine r_bipush C (v := 40) dX10_one_115 (by decide) ?_
            refine r_icne C (tgt := 124) dX10_one_117 rfl (fun h117_5 => ?_) (fun h117_5 => ?_)
            · refine r_iload_n C dX10_one_124 rfl ?_
              refine r_bipush C (v := 45) dX10_one_125 (by decide) ?_
              refine r_icne C (tgt := 135) dX10_one_127 rfl (fun h127_6 => ?_) (fun h127_6 => ?_)
              · refine r_iload_n C dX10_one_135 rfl ?_
                refine r_ifne C (tgt := 143) dX10_one_136 rfl (fun h136_7 => ?_) (fun h136_7 => ?_)
                · refine r_iconst C (v := 0) dX10_one_143 (by decide) ?_
                  exact ri C Z dX10_one_144 (show _ ∧ _ ∧ _ from by rw [if_neg (by omega), if_neg (by assumption), if_pos (hco.resolve_left (by assumption))] at hst; rw [← hst]; exact ⟨((if_neg (by assumption)).trans (bI_f (by assumption))).symm, rfl, PG.cl hp hPG1 hui⟩)
                · refine r_iconst C (v := 1) dX10_one_139 (by decide) ?_
                  refine r_goto C (tgt := 144) dX10_one_140 rfl ?_
                  exact ri C Z dX10_one_144 (show _ ∧ _ ∧ _ from by rw [if_neg (by omega), if_neg (by assumption), if_pos (hco.resolve_left (by assumption))] at hst; rw [← hst]; exact ⟨((if_neg (by assumption)).trans (bI_t (by assumption))).symm, rfl, PG.cl hp hPG1 hui⟩)
              · refine r_iload_n C dX10_one_130 rfl ?_
                refine r_ineg C dX10_one_131 ?_
                refine r_goto C (tgt := 144) dX10_one_132 rfl ?_
                exact ri C Z dX10_one_144 (show _ ∧ _ ∧ _ from by rw [if_neg (by omega), if_neg (by assumption), if_pos (hco.resolve_left (by assumption))] at hst; rw [← hst]; exact ⟨(if_pos (by assumption)).symm, rfl, PG.cl hp hPG1 hui⟩)
            · exfalso; exact absurd ‹txM I p.1 = 40› (by assumption)
          · exfalso; exact absurd ‹txM I p.1 = 40› (by assumption)
        · refine r_aload_n C dX10_one_72 rfl ?_
          refine cV (ci := 10) C hx (sub2 (d - 1) (by omega) J b (p.1 + 1, p.2.1, p.2.2 + 1) hpu ho1) moX10_either mlX10_208 miX10_either msX10_either dX10_one_73 rfl rfl rfl rfl rfl (by omega) rfl rfl (ki (fun v_73_8 I_73_8 q_73_8 => ?_))
          obtain ⟨rfl, rfl, hPG5⟩ := q_73_8
          refine r_goto C (tgt := 83) dX10_one_76 rfl ?_
          refine r_istore_n C dX10_one_83 rfl rfl ?_
          refine r_iload_n C dX10_one_84 rfl ?_
          refine r_bipush C (v := 40) dX10_one_85 (by decide) ?_
          refine r_icne C (tgt := 104) dX10_one_87 rfl (fun h87_9 => ?_) (fun h87_9 => ?_)
          · exfalso; exact absurd ‹txM I p.1 = 40› (by assumption)
          · refine r_aload_n C dX10_one_90 rfl ?_
            refine r_bipush C (v := 41) dX10_one_91 (by decide) ?_
            refine cV (ci := 10) C hx (sX10_takes (d := d - 1) (by omega) 41 I J b (f5 (p.1 + 1, p.2.1, p.2.2 + 1)).2 hB (PG.po hpu hPG5)) moX10_takes mlX10_187 miX10_takes msX10_takes dX10_one_93 rfl rfl rfl rfl rfl (by omega) rfl rfl (ki (fun v_93_10 I_93_10 q_93_10 => ?_))
            obtain ⟨rfl, rfl⟩ := q_93_10
            refine z_ifne C (tgt := 104) dX10_one_96 rfl (fun h96_11 => ?_) (fun h96_11 => ?_)
            · have htk : tkQ (txM I) 41 (f5 (p.1 + 1, p.2.1, p.2.2 + 1)).2 := by assumption
              have hPGk := (PG.up hB (PG.po hpu hPG5) (fun e => absurd (htk.2.symm.trans e) (by decide))).1
              rw [show tkP (txM I) 41 (f5 (p.1 + 1, p.2.1, p.2.2 + 1)).2 = ((f5 (p.1 + 1, p.2.1, p.2.2 + 1)).2.1 + 1, (f5 (p.1 + 1, p.2.1, p.2.2 + 1)).2.2.1, (f5 (p.1 + 1, p.2.1, p.2.2 + 1)).2.2.2) from if_pos htk]
              refine r_aload_n C dX10_one_104 rfl ?_
              refine r_dup C dX10_one_105 rfl ?_
              refine g_op C dX10_one_106 ?_
              refine r_iconst C (v := 1) dX10_one_109 (by decide) ?_
              refine r_isub C dX10_one_110 ?_
              refine p_op C dX10_one_111 ?_
              refine r_iload_n C dX10_one_114 rfl ?_
              refine r_bipush C (v := 40) dX10_one_115 (by decide) ?_
              refine r_icne C (tgt := 124) dX10_one_117 rfl (fun h117_12 => ?_) (fun h117_12 => ?_)
              · exfalso; exact absurd ‹txM I p.1 = 40› (by assumption)
              · refine r_iload_n C dX10_one_120 rfl ?_
                refine r_goto C (tgt := 144) dX10_one_121 rfl ?_
                exact ri C Z dX10_one_144 (show _ ∧ _ ∧ _ from by rw [if_neg (by omega), if_pos (by assumption), if_pos (by assumption)] at hst; rw [← hst]; exact ⟨rfl, rfl, PG.cl hp (hPG5.tr hPGk) hui⟩)
            · refine r_aload_n C dX10_one_99 rfl ?_
              refine cV (ci := 10) C hx (sX10_wrong (d := d - 1) (by omega) I J b _) moX10_wrong mlX10_205 miX10_wrong msX10_wrong dX10_one_100 rfl rfl rfl rfl rfl (by omega) rfl rfl (ki (fun v_100_13 I_100_13 q_100_13 => ?_))
              obtain ⟨rfl, rfl⟩ := q_100_13
              exact ri C Z dX10_one_103 (show _ ∧ _ ∧ _ from by rw [show tkP (txM I) 41 (f5 (p.1 + 1, p.2.1, p.2.2 + 1)).2 = (f5 (p.1 + 1, p.2.1, p.2.2 + 1)).2 from if_neg (by assumption)]; rw [if_neg (by omega), if_pos (by assumption), if_neg (by assumption)] at hst; rw [← hst]; exact ⟨rfl, rfl, PG.cw hp hPG5 hui⟩)
      · exact absurd (hop hfa) (by rw [show p.2.2 = 6 by assumption]; have z8 : (6 : Int32).toInt = 6 := rfl; omega)
    refine r_aload_n C dX10_one_0 rfl ?_
    refine g_fa C dX10_one_1 ?_
    refine b_iflt C (tgt := 9) dX10_one_4 rfl (fun h4_1 => ?_) (fun h4_1 => ?_)
    · refine r_aload_n C dX10_one_9 rfl ?_
      refine cV (ci := 10) C hx (sX10_byteAt (d := d - 1) (by omega) I J b p hB hp) moX10_byteAt mlX10_180 miX10_byteAt msX10_byteAt dX10_one_10 rfl rfl rfl rfl rfl (by omega) rfl rfl (kp ?_)
      refine r_istore_n C dX10_one_13 rfl rfl ?_
      refine r_iload_n C dX10_one_14 rfl ?_
      refine r_bipush C (v := 33) dX10_one_15 (by decide) ?_
      refine r_iceq C (tgt := 32) dX10_one_17 rfl (fun h17_3 => ?_) (fun h17_3 => ?_)
      · exact mid _ _ _ (by assumption) (by first | exact Or.inl (by assumption) | exact Or.inr (Or.inl (by assumption)) | exact Or.inr (Or.inr (by assumption)))
      · refine r_iload_n C dX10_one_20 rfl ?_
        refine r_bipush C (v := 45) dX10_one_21 (by decide) ?_
        refine r_iceq C (tgt := 32) dX10_one_23 rfl (fun h23_4 => ?_) (fun h23_4 => ?_)
        · exact mid _ _ _ (by assumption) (by first | exact Or.inl (by assumption) | exact Or.inr (Or.inl (by assumption)) | exact Or.inr (Or.inr (by assumption)))
        · refine r_iload_n C dX10_one_26 rfl ?_
          refine r_bipush C (v := 40) dX10_one_27 (by decide) ?_
          refine r_icne C (tgt := 145) dX10_one_29 rfl (fun h29_5 => ?_) (fun h29_5 => ?_)
          · rw [if_neg (by omega), if_neg (by assumption), if_neg (fun y => y.elim (by assumption) (by assumption))] at hst
            exact one_tail hx C Z hst hB hp (by omega)
          · exact mid _ _ _ (by assumption) (by first | exact Or.inl (by assumption) | exact Or.inr (Or.inl (by assumption)) | exact Or.inr (Or.inr (by assumption)))
    · refine r_iconst C (v := 0) dX10_one_7 (by decide) ?_
      exact ri C Z dX10_one_8 (show _ ∧ _ ∧ _ from by rw [if_pos (by assumption)] at hst; rw [← hst]; exact ⟨rfl, rfl, PG.rf hp⟩)
