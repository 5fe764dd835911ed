def lpM (T : Int32 → Int32) (sub : PS → Int32 × PS) (r : Int32) : Nat → Int32 → PS → Int32 × PS
  | 0, v, p => (v, p)
  | n + 1, v, p => if p.2.1.toInt < 0 ∧ ¬ jgF (T p.1) r = 0 then lpM T sub r n (opF (jgF (T p.1) r) v (sub (p.1 + 1, p.2.1, p.2.2)).1) (sub (p.1 + 1, p.2.1, p.2.2)).2 else (v, p)
def jnM (T : Int32 → Int32) (one : PS → Int32 × PS) : Nat → PS → Int32 × PS
  | 0, p => one p
  | k + 1, p => lpM T (jnM T one k) (nI (4 - k)) (if k = 2 then 1 else 120) (jnM T one k p).1 (jnM T one k p).2
theorem lpM_stop {T : Int32 → Int32} {sub : PS → Int32 × PS} {r : Int32} {n : Nat} {v : Int32} {p : PS} (h : ¬ (p.2.1.toInt < 0 ∧ ¬ jgF (T p.1) r = 0)) : lpM T sub r n v p = (v, p) := by
  cases n with
  | zero => rfl
  | succ n => exact if_neg h
theorem fuel_le {n : Nat} {a b c : Int} (h : b ≤ c) (h1 : b = a + 1) (h2 : 120 ≤ ((n + 1 : Nat) : Int) + a) : 120 ≤ (n : Int) + c := by omega
theorem jg0 (r : Int32) : jgF 0 r = 0 := by
  unfold jgF
  by_cases c0 : r = 0
  · rw [if_pos c0]; decide
  rw [if_neg c0]
  by_cases c1 : r = 1
  · rw [if_pos c1]; decide
  rw [if_neg c1]
  by_cases c2 : r = 2
  · rw [if_pos c2]; decide
  rw [if_neg c2]
  by_cases c3 : r = 3
  · rw [if_pos c3]; decide
  rw [if_neg c3]; decide
theorem jg_n0 {c r : Int32} (h : ¬ jgF c r = 0) : ¬ c = 0 := fun e => h (by rw [e]; exact jg0 r)
theorem jg4_0 {c : Int32} (h1 : ¬ c = 42) (h2 : ¬ c = 47) (h3 : ¬ c = 37) : jgF c 4 = 0 := by
  unfold jgF
  rw [if_neg (by decide), if_neg (by decide), if_neg (by decide), if_neg (by decide), if_neg h1, if_neg h2, if_neg h3]
theorem jg4_n {c : Int32} (h : c = 42 ∨ c = 47 ∨ c = 37) : ¬ jgF c 4 = 0 := by rcases h with h | h | h <;> rw [h] <;> decide
theorem op4_42 {c v w : Int32} (h : c = 42) : opF (jgF c 4) v w = v * w := by rw [h]; rfl
theorem op4_w {c v w : Int32} (h : ¬ c = 42) (hc : c = 42 ∨ c = 47 ∨ c = 37) (hw : w = 0) : opF (jgF c 4) v w = 0 := by
  rw [hw]
  rcases hc with e | e | e
  · exact absurd e h
  · rw [e]; rfl
  · rw [e]; rfl
theorem op4_47 {c v w : Int32} (h : c = 47) (hw : ¬ w = 0) : opF (jgF c 4) v w = v / w := by
  rw [h]
  show (if w = 0 then _ else v / w) = _
  rw [if_neg hw]
theorem op4_37 {c v w : Int32} (h1 : ¬ c = 42) (h2 : ¬ c = 47) (hc : c = 42 ∨ c = 47 ∨ c = 37) (hw : ¬ w = 0) : opF (jgF c 4) v w = v - v / w * w := by
  rcases hc with e | e | e
  · exact absurd e h1
  · exact absurd e h2
  · rw [e]
    show (if w = 0 then _ else irm v w) = _
    rw [if_neg hw]
    rfl
theorem jg3_0 {c : Int32} (h1 : ¬ c = 43) (h2 : ¬ c = 45) : jgF c 3 = 0 := by
  unfold jgF
  rw [if_neg (by decide), if_neg (by decide), if_neg (by decide), if_pos rfl, if_neg h1, if_neg h2]
theorem jg3_n {c : Int32} (h : c = 43 ∨ c = 45) : ¬ jgF c 3 = 0 := by rcases h with h | h <;> rw [h] <;> decide
theorem op3_43 {c v w : Int32} (h : c = 43) : opF (jgF c 3) v w = v + w := by rw [h]; rfl
theorem op3_45 {c v w : Int32} (h1 : ¬ c = 43) (hc : c = 43 ∨ c = 45) : opF (jgF c 3) v w = v - w := by
  rcases hc with e | e
  · exact absurd e h1
  · rw [e]; rfl
theorem jg2_0 {c : Int32} (h1 : ¬ c = 60) (h2 : ¬ c = 61) (h3 : ¬ c = 62) : jgF c 2 = 0 := by
  unfold jgF
  rw [if_neg (by decide), if_neg (by decide), if_pos rfl, if_neg h1, if_neg h2, if_neg h3]
theorem jg2_n {c : Int32} (h : c = 60 ∨ c = 61 ∨ c = 62) : ¬ jgF c 2 = 0 := by rcases h with h | h | h <;> rw [h] <;> decide
theorem op2_60 {c v w : Int32} (h : c = 60) : opF (jgF c 2) v w = bI (v.toInt < w.toInt) := by rw [h]; rfl
theorem op2_61 {c v w : Int32} (h : c = 61) : opF (jgF c 2) v w = bI (v = w) := by rw [h]; rfl
theorem op2_62 {c v w : Int32} (h1 : ¬ c = 60) (h2 : ¬ c = 61) (hc : c = 60 ∨ c = 61 ∨ c = 62) : opF (jgF c 2) v w = bI (w.toInt < v.toInt) := by
  rcases hc with e | e | e
  · exact absurd e h1
  · exact absurd e h2
  · rw [e]; rfl
theorem jg1_0 {c : Int32} (h1 : ¬ c = 38) : jgF c 1 = 0 := by
  unfold jgF
  rw [if_neg (by decide), if_pos rfl, if_neg h1]
theorem jgr0_0 {c : Int32} (h1 : ¬ c = 124) : jgF c 0 = 0 := by
  unfold jgF
  rw [if_pos rfl, if_neg h1]
theorem op1 {c v w : Int32} (h : c = 38) : opF (jgF c 1) v w = bI (¬ v = 0 ∧ ¬ w = 0) := by rw [h]; rfl
theorem op0 {c v w : Int32} (h : c = 124) : opF (jgF c 0) v w = bI (¬ v = 0 ∨ ¬ w = 0) := by rw [h]; rfl
/-- what a part of the reader answers with m more that may open -/
def EvC (g : Gb) (I : Is) (D : Nat) (m : Int) (mt : Mt) (f : PS → Int32 × PS) : Prop := ∀ (d : Nat), D ≤ d → ∀ (J : Js) (b : Bool) (p : PS), PO I p → (p.2.1.toInt < 0 → p.2.2.toInt + m = 6) → MC9 g d mt [.ref 64] (setP I p) J b (Qi J b (fun v I' => v = (f p).1 ∧ I' = setP I (f p).2 ∧ PG I p (f p).2))
set_option maxRecDepth 100000 in
set_option maxHeartbeats 400000 in
theorem sX10_product {g : Gb} {I : Is} (hB : BE I) {D : Nat} {m : Int} {f : PS → Int32 × PS} (sub : EvC g I D m mX10_one f) : EvC g I (D + 2) m mX10_product (fun p => lpM (txM I) f 4 120 (f p).1 (f p).2) := by
  intro d hd J b p0 hp0 hop
  obtain ⟨G, hst⟩ : ∃ G, lpM (txM I) f 4 120 (f p0).1 (f p0).2 = G := ⟨_, rfl⟩
  show MC9 g d mX10_product [.ref 64] (setP I p0) J b (Qi J b (fun v I' => v = (lpM (txM I) f 4 120 (f p0).1 (f p0).2).1 ∧ I' = setP I (lpM (txM I) f 4 120 (f p0).1 (f p0).2).2 ∧ PG I p0 (lpM (txM I) f 4 120 (f p0).1 (f p0).2).2))
  rw [hst]
  refine ent9 (own := RX10) rfl rfl rfl (fun X hg hx C Z => ?_)
  subst hg
  have loop : ∀ (n : Nat) (v : Int32) (p : PS) (x3 : Option Value), PO I p → PG I p0 p → 120 ≤ (n : Int) + p.1.toInt → lpM (txM I) f 4 n v p = G → Aw X 10 [some (.ref 64), some (.int v), some (.int (txM I p.1)), x3] [] (st9 (setP I p) J b) := by
    intro n
    induction n using Nat.strongRecOn with
    | ind n ih =>
      intro v p x3 hp hPG hn hG
      have hop2 : p.2.1.toInt < 0 → p.2.2.toInt + m = 6 := fun z => by rw [(hPG.2.2 z).2]; exact hop (hPG.2.2 z).1
      refine r_aload_n C dX10_product_10 rfl ?_
      refine g_fa C dX10_product_11 ?_
      refine b_ifge C (tgt := 94) dX10_product_14 rfl (fun h14_1 => ?_) (fun h14_1 => ?_)
      · refine r_iload_n C dX10_product_94 rfl ?_
        exact ri C Z dX10_product_95 (show _ ∧ _ ∧ _ from by rw [← hG, lpM_stop (fun z => by have := z.1; omega)]; exact ⟨rfl, rfl, hPG⟩)
      · refine r_iload_n C dX10_product_17 rfl ?_
        refine r_bipush C (v := 42) dX10_product_18 (by decide) ?_
        refine r_iceq C (tgt := 35) dX10_product_20 rfl (fun h20_2 => ?_) (fun h20_2 => ?_)
        · have hcc : txM I p.1 = 42 ∨ txM I p.1 = 47 ∨ txM I p.1 = 37 := by first | assumption | exact Or.inl (by assumption) | exact Or.inr (by assumption) | exact Or.inr (Or.inl (by assumption)) | exact Or.inr (Or.inr (by assumption))
          have hj : ¬ jgF (txM I p.1) 4 = 0 := jg4_n hcc
          obtain ⟨hup, hui⟩ := PG.up hB hp (jg_n0 hj)
          obtain ⟨n', rfl⟩ : ∃ n', n = n' + 1 := ⟨n - 1, by have := hp.2; have := tx_lt (jg_n0 hj); have := hB.2.2; omega⟩
          have hG1 : lpM (txM I) f 4 (n' + 1) v p = lpM (txM I) f 4 n' (opF (jgF (txM I p.1) 4) v (f (p.1 + 1, p.2.1, p.2.2)).1) (f (p.1 + 1, p.2.1, p.2.2)).2 := if_pos ⟨by assumption, hj⟩
          rw [hG1] at hG
          refine r_aload_n C dX10_product_35 rfl ?_
          refine r_dup C dX10_product_36 rfl ?_
          refine g_at C dX10_product_37 ?_
          refine r_iconst C (v := 1) dX10_product_40 (by decide) ?_
          refine r_iadd C dX10_product_41 ?_
          refine p_at C dX10_product_42 ?_
          refine r_aload_n C dX10_product_45 rfl ?_
          refine cV (ci := 10) C hx (sub (d - 1) (by omega) J b (p.1 + 1, p.2.1, p.2.2) (PG.po hp hup) hop2) moX10_one mlX10_199 miX10_one msX10_one dX10_product_46 rfl rfl rfl rfl rfl (by omega) rfl rfl (ki (fun v_46_3 I_46_3 q_46_3 => ?_))
          obtain ⟨rfl, rfl, hPG2⟩ := q_46_3
          refine r_istore_n C dX10_product_49 rfl rfl ?_
          refine r_iload_n C dX10_product_50 rfl ?_
          refine r_bipush C (v := 42) dX10_product_51 (by decide) ?_
          refine r_icne C (tgt := 62) dX10_product_53 rfl (fun h53_4 => ?_) (fun h53_4 => ?_)
          · refine r_iload_n C dX10_product_62 rfl ?_
            refine r_ifne C (tgt := 70) dX10_product_63 rfl (fun h63_5 => ?_) (fun h63_5 => ?_)
            · refine r_iload_n C dX10_product_70 rfl ?_
              refine r_bipush C (v := 47) dX10_product_71 (by decide) ?_
              refine r_icne C (tgt := 82) dX10_product_73 rfl (fun h73_6 => ?_) (fun h73_6 => ?_)
              · refine r_iload_n C dX10_product_82 rfl ?_
                refine r_iload_n C dX10_product_83 rfl ?_
                refine r_irem C dX10_product_84 (by assumption) ?_
                refine r_istore_n C dX10_product_85 rfl rfl ?_
                refine r_aload_n C dX10_product_86 rfl ?_
                refine cV (ci := 10) C hx (sX10_byteAt (d := d - 1) (by omega) I J b (f (p.1 + 1, p.2.1, p.2.2)).2 hB (PG.po (PG.po hp hup) hPG2)) moX10_byteAt mlX10_180 miX10_byteAt msX10_byteAt dX10_product_87 rfl rfl rfl rfl rfl (by omega) rfl rfl (kp ?_)
                refine r_istore_n C dX10_product_90 rfl rfl ?_
                refine r_goto C (tgt := 10) dX10_product_91 rfl ?_
                rw [op4_37 (c := txM I p.1) (v := v) (w := (f (p.1 + 1, p.2.1, p.2.2)).1) (by assumption) (by assumption) hcc (by assumption)] at hG
                exact ih n' (by omega) _ _ _ (PG.po (PG.po hp hup) hPG2) ((hPG.tr hup).tr hPG2) (fuel_le hPG2.1 hui hn) hG
              · refine r_iload_n C dX10_product_76 rfl ?_
                refine r_iload_n C dX10_product_77 rfl ?_
                refine r_idiv C dX10_product_78 (by assumption) ?_
                refine r_goto C (tgt := 85) dX10_product_79 rfl ?_
                refine r_istore_n C dX10_product_85 rfl rfl ?_
                refine r_aload_n C dX10_product_86 rfl ?_
                refine cV (ci := 10) C hx (sX10_byteAt (d := d - 1) (by omega) I J b (f (p.1 + 1, p.2.1, p.2.2)).2 hB (PG.po (PG.po hp hup) hPG2)) moX10_byteAt mlX10_180 miX10_byteAt msX10_byteAt dX10_product_87 rfl rfl rfl rfl rfl (by omega) rfl rfl (kp ?_)
                refine r_istore_n C dX10_product_90 rfl rfl ?_
                refine r_goto C (tgt := 10) dX10_product_91 rfl ?_
                rw [op4_47 (c := txM I p.1) (v := v) (w := (f (p.1 + 1, p.2.1, p.2.2)).1) (by assumption) (by assumption)] at hG
                exact ih n' (by omega) _ _ _ (PG.po (PG.po hp hup) hPG2) ((hPG.tr hup).tr hPG2) (fuel_le hPG2.1 hui hn) hG
            · refine r_iconst C (v := 0) dX10_product_66 (by decide) ?_
              refine r_goto C (tgt := 85) dX10_product_67 rfl ?_
              refine r_istore_n C dX10_product_85 rfl rfl ?_
              refine r_aload_n C dX10_product_86 rfl ?_
              refine cV (ci := 10) C hx (sX10_byteAt (d := d - 1) (by omega) I J b (f (p.1 + 1, p.2.1, p.2.2)).2 hB (PG.po (PG.po hp hup) hPG2)) moX10_byteAt mlX10_180 miX10_byteAt msX10_byteAt dX10_product_87 rfl rfl rfl rfl rfl (by omega) rfl rfl (kp ?_)
              refine r_istore_n C dX10_product_90 rfl rfl ?_
              refine r_goto C (tgt := 10) dX10_product_91 rfl ?_
              rw [op4_w (c := txM I p.1) (v := v) (w := (f (p.1 + 1, p.2.1, p.2.2)).1) (by assumption) hcc (by assumption)] at hG
              exact ih n' (by omega) _ _ _ (PG.po (PG.po hp hup) hPG2) ((hPG.tr hup).tr hPG2) (fuel_le hPG2.1 hui hn) hG
          · refine r_iload_n C dX10_product_56 rfl ?_
            refine r_iload_n C dX10_product_57 rfl ?_
            refine r_imul C dX10_product_58 ?_
            refine r_goto C (tgt := 85) dX10_product_59 rfl ?_
            refine r_istore_n C dX10_product_85 rfl rfl ?_
            refine r_aload_n C dX10_product_86 rfl ?_
            refine cV (ci := 10) C hx (sX10_byteAt (d := d - 1) (by omega) I J b (f (p.1 + 1, p.2.1, p.2.2)).2 hB (PG.po (PG.po hp hup) hPG2)) moX10_byteAt mlX10_180 miX10_byteAt msX10_byteAt dX10_product_87 rfl rfl rfl rfl rfl (by omega) rfl rfl (kp ?_)
            refine r_istore_n C dX10_product_90 rfl rfl ?_
            refine r_goto C (tgt := 10) dX10_product_91 rfl ?_
            rw [op4_42 (c := txM I p.1) (v := v) (w := (f (p.1 + 1, p.2.1, p.2.2)).1) (by assumption)] at hG
            exact ih n' (by omega) _ _ _ (PG.po (PG.po hp hup) hPG2) ((hPG.tr hup).tr hPG2) (fuel_le hPG2.1 hui hn) hG
        · refine r_iload_n C dX10_product_23 rfl ?_
          refine r_bipush C (v := 47) dX10_product_24 (by decide) ?_
          refine r_iceq C (tgt := 35) dX10_product_26 rfl (fun h26_11 => ?_) (fun h26_11 => ?_)
          · have hcc : txM I p.1 = 42 ∨ txM I p.1 = 47 ∨ txM I p.1 = 37 := by first | assumption | exact Or.inl (by assumption) | exact Or.inr (by assumption) | exact Or.inr (Or.inl (by assumption)) | exact Or.inr (Or.inr (by assumption))
            have hj : ¬ jgF (txM I p.1) 4 = 0 := jg4_n hcc
            obtain ⟨hup, hui⟩ := PG.up hB hp (jg_n0 hj)
            obtain ⟨n', rfl⟩ : ∃ n', n = n' + 1 := ⟨n - 1, by have := hp.2; have := tx_lt (jg_n0 hj); have := hB.2.2; omega⟩
            have hG1 : lpM (txM I) f 4 (n' + 1) v p = lpM (txM I) f 4 n' (opF (jgF (txM I p.1) 4) v (f (p.1 + 1, p.2.1, p.2.2)).1) (f (p.1 + 1, p.2.1, p.2.2)).2 := if_pos ⟨by assumption, hj⟩
            rw [hG1] at hG
            refine r_aload_n C dX10_product_35 rfl ?_
            refine r_dup C dX10_product_36 rfl ?_
            refine g_at C dX10_product_37 ?_
            refine r_iconst C (v := 1) dX10_product_40 (by decide) ?_
            refine r_iadd C dX10_product_41 ?_
            refine p_at C dX10_product_42 ?_
            refine r_aload_n C dX10_product_45 rfl ?_
            refine cV (ci := 10) C hx (sub (d - 1) (by omega) J b (p.1 + 1, p.2.1, p.2.2) (PG.po hp hup) hop2) moX10_one mlX10_199 miX10_one msX10_one dX10_product_46 rfl rfl rfl rfl rfl (by omega) rfl rfl (ki (fun v_46_12 I_46_12 q_46_12 => ?_))
            obtain ⟨rfl, rfl, hPG2⟩ := q_46_12
            refine r_istore_n C dX10_product_49 rfl rfl ?_
            refine r_iload_n C dX10_product_50 rfl ?_
            refine r_bipush C (v := 42) dX10_product_51 (by decide) ?_
            refine r_icne C (tgt := 62) dX10_product_53 rfl (fun h53_13 => ?_) (fun h53_13 => ?_)
            · refine r_iload_n C dX10_product_62 rfl ?_
              refine r_ifne C (tgt := 70) dX10_product_63 rfl (fun h63_14 => ?_) (fun h63_14 => ?_)
              · refine r_iload_n C dX10_product_70 rfl ?_
                refine r_bipush C (v := 47) dX10_product_71 (by decide) ?_
                refine r_icne C (tgt := 82) dX10_product_73 rfl (fun h73_15 => ?_) (fun h73_15 => ?_)
                · refine r_iload_n C dX10_product_82 rfl ?_
                  refine r_iload_n C dX10_product_83 rfl ?_
                  refine r_irem C dX10_product_84 (by assumption) ?_
                  refine r_istore_n C dX10_product_85 rfl rfl ?_
                  refine r_aload_n C dX10_product_86 rfl ?_
                  refine cV (ci := 10) C hx (sX10_byteAt (d := d - 1) (by omega) I J b (f (p.1 + 1, p.2.1, p.2.2)).2 hB (PG.po (PG.po hp hup) hPG2)) moX10_byteAt mlX10_180 miX10_byteAt msX10_byteAt dX10_product_87 rfl rfl rfl rfl rfl (by omega) rfl rfl (kp ?_)
                  refine r_istore_n C dX10_product_90 rfl rfl ?_
                  refine r_goto C (tgt := 10) dX10_product_91 rfl ?_
                  rw [op4_37 (c := txM I p.1) (v := v) (w := (f (p.1 + 1, p.2.1, p.2.2)).1) (by assumption) (by assumption) hcc (by assumption)] at hG
                  exact ih n' (by omega) _ _ _ (PG.po (PG.po hp hup) hPG2) ((hPG.tr hup).tr hPG2) (fuel_le hPG2.1 hui hn) hG
                · refine r_iload_n C dX10_product_76 rfl ?_
                  refine r_iload_n C dX10_product_77 rfl ?_
                  refine r_idiv C dX10_product_78 (by assumption) ?_
                  refine r_goto C (tgt := 85) dX10_product_79 rfl ?_
                  refine r_istore_n C dX10_product_85 rfl rfl ?_
                  refine r_aload_n C dX10_product_86 rfl ?_
                  refine cV (ci := 10) C hx (sX10_byteAt (d := d - 1) (by omega) I J b (f (p.1 + 1, p.2.1, p.2.2)).2 hB (PG.po (PG.po hp hup) hPG2)) moX10_byteAt mlX10_180 miX10_byteAt msX10_byteAt dX10_product_87 rfl rfl rfl rfl rfl (by omega) rfl rfl (kp ?_)
                  refine r_istore_n C dX10_product_90 rfl rfl ?_
                  refine r_goto C (tgt := 10) dX10_product_91 rfl ?_
                  rw [op4_47 (c := txM I p.1) (v := v) (w := (f (p.1 + 1, p.2.1, p.2.2)).1) (by assumption) (by assumption)] at hG
                  exact ih n' (by omega) _ _ _ (PG.po (PG.po hp hup) hPG2) ((hPG.tr hup).tr hPG2) (fuel_le hPG2.1 hui hn) hG
              · refine r_iconst C (v := 0) dX10_product_66 (by decide) ?_
                refine r_goto C (tgt := 85) dX10_product_67 rfl ?_
                refine r_istore_n C dX10_product_85 rfl rfl ?_
                refine r_aload_n C dX10_product_86 rfl ?_
                refine cV (ci := 10) C hx (sX10_byteAt (d := d - 1) (by omega) I J b (f (p.1 + 1, p.2.1, p.2.2)).2 hB (PG.po (PG.po hp hup) hPG2)) moX10_byteAt mlX10_180 miX10_byteAt msX10_byteAt dX10_product_87 rfl rfl rfl rfl rfl (by omega) rfl rfl (kp ?_)
                refine r_istore_n C dX10_product_90 rfl rfl ?_
                refine r_goto C (tgt := 10) dX10_product_91 rfl ?_
                rw [op4_w (c := txM I p.1) (v := v) (w := (f (p.1 + 1, p.2.1, p.2.2)).1) (by assumption) hcc (by assumption)] at hG
                exact ih n' (by omega) _ _ _ (PG.po (PG.po hp hup) hPG2) ((hPG.tr hup).tr hPG2) (fuel_le hPG2.1 hui hn) hG
            · refine r_iload_n C dX10_product_56 rfl ?_
              refine r_iload_n C dX10_product_57 rfl ?_
              refine r_imul C dX10_product_58 ?_
              refine r_goto C (tgt := 85) dX10_product_59 rfl ?_
              refine r_istore_n C dX10_product_85 rfl rfl ?_
              refine r_aload_n C dX10_product_86 rfl ?_
              refine cV (ci := 10) C hx (sX10_byteAt (d := d - 1) (by omega) I J b (f (p.1 + 1, p.2.1, p.2.2)).2 hB (PG.po (PG.po hp hup) hPG2)) moX10_byteAt mlX10_180 miX10_byteAt msX10_byteAt dX10_product_87 rfl rfl rfl rfl rfl (by omega) rfl rfl (kp ?_)
              refine r_istore_n C dX10_product_90 rfl rfl ?_
              refine r_goto C (tgt := 10) dX10_product_91 rfl ?_
              rw [op4_42 (c := txM I p.1) (v := v) (w := (f (p.1 + 1, p.2.1, p.2.2)).1) (by assumption)] at hG
              exact ih n' (by omega) _ _ _ (PG.po (PG.po hp hup) hPG2) ((hPG.tr hup).tr hPG2) (fuel_le hPG2.1 hui hn) hG
          · refine r_iload_n C dX10_product_29 rfl ?_
            refine r_bipush C (v := 37) dX10_product_30 (by decide) ?_
            refine r_icne C (tgt := 94) dX10_product_32 rfl (fun h32_20 => ?_) (fun h32_20 => ?_)
            · refine r_iload_n C dX10_product_94 rfl ?_
              exact ri C Z dX10_product_95 (show _ ∧ _ ∧ _ from by rw [← hG, lpM_stop (fun z => z.2 (jg4_0 (by assumption) (by assumption) (by assumption)))]; exact ⟨rfl, rfl, hPG⟩)
            · have hcc : txM I p.1 = 42 ∨ txM I p.1 = 47 ∨ txM I p.1 = 37 := by first | assumption | exact Or.inl (by assumption) | exact Or.inr (by assumption) | exact Or.inr (Or.inl (by assumption)) | exact Or.inr (Or.inr (by assumption))
              have hj : ¬ jgF (txM I p.1) 4 = 0 := jg4_n hcc
              obtain ⟨hup, hui⟩ := PG.up hB hp (jg_n0 hj)
              obtain ⟨n', rfl⟩ : ∃ n', n = n' + 1 := ⟨n - 1, by have := hp.2; have := tx_lt (jg_n0 hj); have := hB.2.2; omega⟩
              have hG1 : lpM (txM I) f 4 (n' + 1) v p = lpM (txM I) f 4 n' (opF (jgF (txM I p.1) 4) v (f (p.1 + 1, p.2.1, p.2.2)).1) (f (p.1 + 1, p.2.1, p.2.2)).2 := if_pos ⟨by assumption, hj⟩
              rw [hG1] at hG
              refine r_aload_n C dX10_product_35 rfl ?_
              refine r_dup C dX10_product_36 rfl ?_
              refine g_at C dX10_product_37 ?_
              refine r_iconst C (v := 1) dX10_product_40 (by decide) ?_
              refine r_iadd C dX10_product_41 ?_
              refine p_at C dX10_product_42 ?_
              refine r_aload_n C dX10_product_45 rfl ?_
              refine cV (ci := 10) C hx (sub (d - 1) (by omega) J b (p.1 + 1, p.2.1, p.2.2) (PG.po hp hup) hop2) moX10_one mlX10_199 miX10_one msX10_one dX10_product_46 rfl rfl rfl rfl rfl (by omega) rfl rfl (ki (fun v_46_21 I_46_21 q_46_21 => ?_))
              obtain ⟨rfl, rfl, hPG2⟩ := q_46_21
              refine r_istore_n C dX10_product_49 rfl rfl ?_
              refine r_iload_n C dX10_product_50 rfl ?_
              refine r_bipush C (v := 42) dX10_product_51 (by decide) ?_
              refine r_icne C (tgt := 62) dX10_product_53 rfl (fun h53_22 => ?_) (fun h53_22 => ?_)
              · refine r_iload_n C dX10_product_62 rfl ?_
                refine r_ifne C (tgt := 70) dX10_product_63 rfl (fun h63_23 => ?_) (fun h63_23 => ?_)
                · refine r_iload_n C dX10_product_70 rfl ?_
                  refine r_bipush C (v := 47) dX10_product_71 (by decide) ?_
                  refine r_icne C (tgt := 82) dX10_product_73 rfl (fun h73_24 => ?_) (fun h73_24 => ?_)
                  · refine r_iload_n C dX10_product_82 rfl ?_
                    refine r_iload_n C dX10_product_83 rfl ?_
                    refine r_irem C dX10_product_84 (by assumption) ?_
                    refine r_istore_n C dX10_product_85 rfl rfl ?_
                    refine r_aload_n C dX10_product_86 rfl ?_
                    refine cV (ci := 10) C hx (sX10_byteAt (d := d - 1) (by omega) I J b (f (p.1 + 1, p.2.1, p.2.2)).2 hB (PG.po (PG.po hp hup) hPG2)) moX10_byteAt mlX10_180 miX10_byteAt msX10_byteAt dX10_product_87 rfl rfl rfl rfl rfl (by omega) rfl rfl (kp ?_)
                    refine r_istore_n C dX10_product_90 rfl rfl ?_
                    refine r_goto C (tgt := 10) dX10_product_91 rfl ?_
                    rw [op4_37 (c := txM I p.1) (v := v) (w := (f (p.1 + 1, p.2.1, p.2.2)).1) (by assumption) (by assumption) hcc (by assumption)] at hG
                    exact ih n' (by omega) _ _ _ (PG.po (PG.po hp hup) hPG2) ((hPG.tr hup).tr hPG2) (fuel_le hPG2.1 hui hn) hG
                  · refine r_iload_n C dX10_product_76 rfl ?_
                    refine r_iload_n C dX10_product_77 rfl ?_
                    refine r_idiv C dX10_product_78 (by assumption) ?_
                    refine r_goto C (tgt := 85) dX10_product_79 rfl ?_
                    refine r_istore_n C dX10_product_85 rfl rfl ?_
                    refine r_aload_n C dX10_product_86 rfl ?_
                    refine cV (ci := 10) C hx (sX10_byteAt (d := d - 1) (by omega) I J b (f (p.1 + 1, p.2.1, p.2.2)).2 hB (PG.po (PG.po hp hup) hPG2)) moX10_byteAt mlX10_180 miX10_byteAt msX10_byteAt dX10_product_87 rfl rfl rfl rfl rfl (by omega) rfl rfl (kp ?_)
                    refine r_istore_n C dX10_product_90 rfl rfl ?_
                    refine r_goto C (tgt := 10) dX10_product_91 rfl ?_
                    rw [op4_47 (c := txM I p.1) (v := v) (w := (f (p.1 + 1, p.2.1, p.2.2)).1) (by assumption) (by assumption)] at hG
                    exact ih n' (by omega) _ _ _ (PG.po (PG.po hp hup) hPG2) ((hPG.tr hup).tr hPG2) (fuel_le hPG2.1 hui hn) hG
                · refine r_iconst C (v := 0) dX10_product_66 (by decide) ?_
                  refine r_goto C (tgt := 85) dX10_product_67 rfl ?_
                  refine r_istore_n C dX10_product_85 rfl rfl ?_
                  refine r_aload_n C dX10_product_86 rfl ?_
                  refine cV (ci := 10) C hx (sX10_byteAt (d := d - 1) (by omega) I J b (f (p.1 + 1, p.2.1, p.2.2)).2 hB (PG.po (PG.po hp hup) hPG2)) moX10_byteAt mlX10_180 miX10_byteAt msX10_byteAt dX10_product_87 rfl rfl rfl rfl rfl (by omega) rfl rfl (kp ?_)
                  refine r_istore_n C dX10_product_90 rfl rfl ?_
                  refine r_goto C (tgt := 10) dX10_product_91 rfl ?_
                  rw [op4_w (c := txM I p.1) (v := v) (w := (f (p.1 + 1, p.2.1, p.2.2)).1) (by assumption) hcc (by assumption)] at hG
                  exact ih n' (by omega) _ _ _ (PG.po (PG.po hp hup) hPG2) ((hPG.tr hup).tr hPG2) (fuel_le hPG2.1 hui hn) hG
              · refine r_iload_n C dX10_product_56 rfl ?_
                refine r_iload_n C dX10_product_57 rfl ?_
                refine r_imul C dX10_product_58 ?_
                refine r_goto C (tgt := 85) dX10_product_59 rfl ?_
                refine r_istore_n C dX10_product_85 rfl rfl ?_
                refine r_aload_n C dX10_product_86 rfl ?_
                refine cV (ci := 10) C hx (sX10_byteAt (d := d - 1) (by omega) I J b (f (p.1 + 1, p.2.1, p.2.2)).2 hB (PG.po (PG.po hp hup) hPG2)) moX10_byteAt mlX10_180 miX10_byteAt msX10_byteAt dX10_product_87 rfl rfl rfl rfl rfl (by omega) rfl rfl (kp ?_)
                refine r_istore_n C dX10_product_90 rfl rfl ?_
                refine r_goto C (tgt := 10) dX10_product_91 rfl ?_
                rw [op4_42 (c := txM I p.1) (v := v) (w := (f (p.1 + 1, p.2.1, p.2.2)).1) (by assumption)] at hG
                exact ih n' (by omega) _ _ _ (PG.po (PG.po hp hup) hPG2) ((hPG.tr hup).tr hPG2) (fuel_le hPG2.1 hui hn) hG
  refine r_aload_n C dX10_product_0 rfl ?_
  refine cV (ci := 10) C hx (sub (d - 1) (by omega) J b p0 hp0 hop) moX10_one mlX10_199 miX10_one msX10_one dX10_product_1 rfl rfl rfl rfl rfl (by omega) rfl rfl (ki (fun v_1_1 I_1_1 q_1_1 => ?_))
  obtain ⟨rfl, rfl, hPG2⟩ := q_1_1
  refine r_istore_n C dX10_product_4 rfl rfl ?_
  refine r_aload_n C dX10_product_5 rfl ?_
  refine cV (ci := 10) C hx (sX10_byteAt (d := d - 1) (by omega) I J b (f p0).2 hB (PG.po hp0 hPG2)) moX10_byteAt mlX10_180 miX10_byteAt msX10_byteAt dX10_product_6 rfl rfl rfl rfl rfl (by omega) rfl rfl (kp ?_)
  refine r_istore_n C dX10_product_9 rfl rfl ?_
  exact loop 120 _ _ _ (PG.po hp0 hPG2) hPG2 (by have := hPG2.1; have := hp0.1; omega) hst
set_option maxRecDepth 100000 in
set_option maxHeartbeats 400000 in
theorem sX10_sums {g : Gb} {I : Is} (hB : BE I) {D : Nat} {m : Int} {f : PS → Int32 × PS} (sub : EvC g I D m mX10_product f) : EvC g I (D + 2) m mX10_sums (fun p => lpM (txM I) f 3 120 (f p).1 (f p).2) := by
  intro d hd J b p0 hp0 hop
  obtain ⟨G, hst⟩ : ∃ G, lpM (txM I) f 3 120 (f p0).1 (f p0).2 = G := ⟨_, rfl⟩
  show MC9 g d mX10_sums [.ref 64] (setP I p0) J b (Qi J b (fun v I' => v = (lpM (txM I) f 3 120 (f p0).1 (f p0).2).1 ∧ I' = setP I (lpM (txM I) f 3 120 (f p0).1 (f p0).2).2 ∧ PG I p0 (lpM (txM I) f 3 120 (f p0).1 (f p0).2).2))
  rw [hst]
  refine ent9 (own := RX10) rfl rfl rfl (fun X hg hx C Z => ?_)
  subst hg
  have loop : ∀ (n : Nat) (v : Int32) (p : PS) (x2 x3 : Option Value), PO I p → PG I p0 p → 120 ≤ (n : Int) + p.1.toInt → lpM (txM I) f 3 n v p = G → Aw X 5 [some (.ref 64), some (.int v), x2, x3] [] (st9 (setP I p) J b) := by
    intro n
    induction n using Nat.strongRecOn with
    | ind n ih =>
      intro v p x2 x3 hp hPG hn hG
      have hop2 : p.2.1.toInt < 0 → p.2.2.toInt + m = 6 := fun z => by rw [(hPG.2.2 z).2]; exact hop (hPG.2.2 z).1
      refine r_aload_n C dX10_sums_5 rfl ?_
      refine g_fa C dX10_sums_6 ?_
      refine b_ifge C (tgt := 77) dX10_sums_9 rfl (fun h9_1 => ?_) (fun h9_1 => ?_)
      · refine r_iload_n C dX10_sums_77 rfl ?_
        exact ri C Z dX10_sums_78 (show _ ∧ _ ∧ _ from by rw [← hG, lpM_stop (fun z => by have := z.1; omega)]; exact ⟨rfl, rfl, hPG⟩)
      · refine r_aload_n C dX10_sums_12 rfl ?_
        refine cV (ci := 10) C hx (sX10_byteAt (d := d - 1) (by omega) I J b p hB hp) moX10_byteAt mlX10_180 miX10_byteAt msX10_byteAt dX10_sums_13 rfl rfl rfl rfl rfl (by omega) rfl rfl (kp ?_)
        refine r_bipush C (v := 43) dX10_sums_16 (by decide) ?_
        refine r_iceq C (tgt := 30) dX10_sums_18 rfl (fun h18_3 => ?_) (fun h18_3 => ?_)
        · have hcc : txM I p.1 = 43 ∨ txM I p.1 = 45 := by first | assumption | exact Or.inl (by assumption) | exact Or.inr (by assumption) | exact Or.inr (Or.inl (by assumption)) | exact Or.inr (Or.inr (by assumption))
          have hj : ¬ jgF (txM I p.1) 3 = 0 := jg3_n hcc
          obtain ⟨hup, hui⟩ := PG.up hB hp (jg_n0 hj)
          obtain ⟨n', rfl⟩ : ∃ n', n = n' + 1 := ⟨n - 1, by have := hp.2; have := tx_lt (jg_n0 hj); have := hB.2.2; omega⟩
          have hG1 : lpM (txM I) f 3 (n' + 1) v p = lpM (txM I) f 3 n' (opF (jgF (txM I p.1) 3) v (f (p.1 + 1, p.2.1, p.2.2)).1) (f (p.1 + 1, p.2.1, p.2.2)).2 := if_pos ⟨by assumption, hj⟩
          rw [hG1] at hG
          refine r_aload_n C dX10_sums_30 rfl ?_
          refine cV (ci := 10) C hx (sX10_byteAt (d := d - 1) (by omega) I J b p hB hp) moX10_byteAt mlX10_180 miX10_byteAt msX10_byteAt dX10_sums_31 rfl rfl rfl rfl rfl (by omega) rfl rfl (kp ?_)
          refine r_bipush C (v := 43) dX10_sums_34 (by decide) ?_
          refine r_icne C (tgt := 43) dX10_sums_36 rfl (fun h36_5 => ?_) (fun h36_5 => ?_)
          · refine r_iconst C (v := 0) dX10_sums_43 (by decide) ?_
            refine r_istore_n C dX10_sums_44 rfl rfl ?_
            refine r_aload_n C dX10_sums_45 rfl ?_
            refine r_dup C dX10_sums_46 rfl ?_
            refine g_at C dX10_sums_47 ?_
            refine r_iconst C (v := 1) dX10_sums_50 (by decide) ?_
            refine r_iadd C dX10_sums_51 ?_
            refine p_at C dX10_sums_52 ?_
            refine r_aload_n C dX10_sums_55 rfl ?_
            refine cV (ci := 10) C hx (sub (d - 1) (by omega) J b (p.1 + 1, p.2.1, p.2.2) (PG.po hp hup) hop2) moX10_product mlX10_196 miX10_product msX10_product dX10_sums_56 rfl rfl rfl rfl rfl (by omega) rfl rfl (ki (fun v_56_6 I_56_6 q_56_6 => ?_))
            obtain ⟨rfl, rfl, hPG2⟩ := q_56_6
            refine r_istore_n C dX10_sums_59 rfl rfl ?_
            refine r_iload_n C dX10_sums_60 rfl ?_
            refine r_ifeq C (tgt := 70) dX10_sums_61 rfl (fun h61_7 => ?_) (fun h61_7 => ?_)
            · refine r_iload_n C dX10_sums_70 rfl ?_
              refine r_iload_n C dX10_sums_71 rfl ?_
              refine r_isub C dX10_sums_72 ?_
              refine r_istore_n C dX10_sums_73 rfl rfl ?_
              refine r_goto C (tgt := 5) dX10_sums_74 rfl ?_
              rw [op3_45 (c := txM I p.1) (v := v) (w := (f (p.1 + 1, p.2.1, p.2.2)).1) (by assumption) hcc] at hG
              exact ih n' (by omega) _ _ _ _ (PG.po (PG.po hp hup) hPG2) ((hPG.tr hup).tr hPG2) (fuel_le hPG2.1 hui hn) hG
            · refine r_iload_n C dX10_sums_64 rfl ?_
              refine r_iload_n C dX10_sums_65 rfl ?_
              refine r_iadd C dX10_sums_66 ?_
              refine r_goto C (tgt := 73) dX10_sums_67 rfl ?_
              refine r_istore_n C dX10_sums_73 rfl rfl ?_
              refine r_goto C (tgt := 5) dX10_sums_74 rfl ?_
              exfalso; first | exact absurd (show (1 : Int32) = 0 by assumption) (by decide) | exact (show ¬ (0 : Int32) = 0 by assumption) rfl
          · refine r_iconst C (v := 1) dX10_sums_39 (by decide) ?_
            refine r_goto C (tgt := 44) dX10_sums_40 rfl ?_
            refine r_istore_n C dX10_sums_44 rfl rfl ?_
            refine r_aload_n C dX10_sums_45 rfl ?_
            refine r_dup C dX10_sums_46 rfl ?_
            refine g_at C dX10_sums_47 ?_
            refine r_iconst C (v := 1) dX10_sums_50 (by decide) ?_
            refine r_iadd C dX10_sums_51 ?_
            refine p_at C dX10_sums_52 ?_
            refine r_aload_n C dX10_sums_55 rfl ?_
            refine cV (ci := 10) C hx (sub (d - 1) (by omega) J b (p.1 + 1, p.2.1, p.2.2) (PG.po hp hup) hop2) moX10_product mlX10_196 miX10_product msX10_product dX10_sums_56 rfl rfl rfl rfl rfl (by omega) rfl rfl (ki (fun v_56_8 I_56_8 q_56_8 => ?_))
            obtain ⟨rfl, rfl, hPG2⟩ := q_56_8
            refine r_istore_n C dX10_sums_59 rfl rfl ?_
            refine r_iload_n C dX10_sums_60 rfl ?_
            refine r_ifeq C (tgt := 70) dX10_sums_61 rfl (fun h61_9 => ?_) (fun h61_9 => ?_)
            · refine r_iload_n C dX10_sums_70 rfl ?_
              refine r_iload_n C dX10_sums_71 rfl ?_
              refine r_isub C dX10_sums_72 ?_
              refine r_istore_n C dX10_sums_73 rfl rfl ?_
              refine r_goto C (tgt := 5) dX10_sums_74 rfl ?_
              exfalso; first | exact absurd (show (1 : Int32) = 0 by assumption) (by decide) | exact (show ¬ (0 : Int32) = 0 by assumption) rfl
            · refine r_iload_n C dX10_sums_64 rfl ?_
              refine r_iload_n C dX10_sums_65 rfl ?_
              refine r_iadd C dX10_sums_66 ?_
              refine r_goto C (tgt := 73) dX10_sums_67 rfl ?_
              refine r_istore_n C dX10_sums_73 rfl rfl ?_
              refine r_goto C (tgt := 5) dX10_sums_74 rfl ?_
              rw [op3_43 (c := txM I p.1) (v := v) (w := (f (p.1 + 1, p.2.1, p.2.2)).1) (by assumption)] at hG
              exact ih n' (by omega) _ _ _ _ (PG.po (PG.po hp hup) hPG2) ((hPG.tr hup).tr hPG2) (fuel_le hPG2.1 hui hn) hG
        · refine r_aload_n C dX10_sums_21 rfl ?_
          refine cV (ci := 10) C hx (sX10_byteAt (d := d - 1) (by omega) I J b p hB hp) moX10_byteAt mlX10_180 miX10_byteAt msX10_byteAt dX10_sums_22 rfl rfl rfl rfl rfl (by omega) rfl rfl (kp ?_)
          refine r_bipush C (v := 45) dX10_sums_25 (by decide) ?_
          refine r_icne C (tgt := 77) dX10_sums_27 rfl (fun h27_11 => ?_) (fun h27_11 => ?_)
          · refine r_iload_n C dX10_sums_77 rfl ?_
            exact ri C Z dX10_sums_78 (show _ ∧ _ ∧ _ from by rw [← hG, lpM_stop (fun z => z.2 (jg3_0 (by assumption) (by assumption)))]; exact ⟨rfl, rfl, hPG⟩)
          · have hcc : txM I p.1 = 43 ∨ txM I p.1 = 45 := by first | assumption | exact Or.inl (by assumption) | exact Or.inr (by assumption) | exact Or.inr (Or.inl (by assumption)) | exact Or.inr (Or.inr (by assumption))
            have hj : ¬ jgF (txM I p.1) 3 = 0 := jg3_n hcc
            obtain ⟨hup, hui⟩ := PG.up hB hp (jg_n0 hj)
            obtain ⟨n', rfl⟩ : ∃ n', n = n' + 1 := ⟨n - 1, by have := hp.2; have := tx_lt (jg_n0 hj); have := hB.2.2; omega⟩
            have hG1 : lpM (txM I) f 3 (n' + 1) v p = lpM (txM I) f 3 n' (opF (jgF (txM I p.1) 3) v (f (p.1 + 1, p.2.1, p.2.2)).1) (f (p.1 + 1, p.2.1, p.2.2)).2 := if_pos ⟨by assumption, hj⟩
            rw [hG1] at hG
            refine r_aload_n C dX10_sums_30 rfl ?_
            refine cV (ci := 10) C hx (sX10_byteAt (d := d - 1) (by omega) I J b p hB hp) moX10_byteAt mlX10_180 miX10_byteAt msX10_byteAt dX10_sums_31 rfl rfl rfl rfl rfl (by omega) rfl rfl (kp ?_)
            refine r_bipush C (v := 43) dX10_sums_34 (by decide) ?_
            refine r_icne C (tgt := 43) dX10_sums_36 rfl (fun h36_13 => ?_) (fun h36_13 => ?_)
            · refine r_iconst C (v := 0) dX10_sums_43 (by decide) ?_
              refine r_istore_n C dX10_sums_44 rfl rfl ?_
              refine r_aload_n C dX10_sums_45 rfl ?_
              refine r_dup C dX10_sums_46 rfl ?_
              refine g_at C dX10_sums_47 ?_
              refine r_iconst C (v := 1) dX10_sums_50 (by decide) ?_
              refine r_iadd C dX10_sums_51 ?_
              refine p_at C dX10_sums_52 ?_
              refine r_aload_n C dX10_sums_55 rfl ?_
              refine cV (ci := 10) C hx (sub (d - 1) (by omega) J b (p.1 + 1, p.2.1, p.2.2) (PG.po hp hup) hop2) moX10_product mlX10_196 miX10_product msX10_product dX10_sums_56 rfl rfl rfl rfl rfl (by omega) rfl rfl (ki (fun v_56_14 I_56_14 q_56_14 => ?_))
              obtain ⟨rfl, rfl, hPG2⟩ := q_56_14
              refine r_istore_n C dX10_sums_59 rfl rfl ?_
              refine r_iload_n C dX10_sums_60 rfl ?_
              refine r_ifeq C (tgt := 70) dX10_sums_61 rfl (fun h61_15 => ?_) (fun h61_15 => ?_)
              · refine r_iload_n C dX10_sums_70 rfl ?_
                refine r_iload_n C dX10_sums_71 rfl ?_
                refine r_isub C dX10_sums_72 ?_
                refine r_istore_n C dX10_sums_73 rfl rfl ?_
                refine r_goto C (tgt := 5) dX10_sums_74 rfl ?_
                rw [op3_45 (c := txM I p.1) (v := v) (w := (f (p.1 + 1, p.2.1, p.2.2)).1) (by assumption) hcc] at hG
                exact ih n' (by omega) _ _ _ _ (PG.po (PG.po hp hup) hPG2) ((hPG.tr hup).tr hPG2) (fuel_le hPG2.1 hui hn) hG
              · refine r_iload_n C dX10_sums_64 rfl ?_
                refine r_iload_n C dX10_sums_65 rfl ?_
                refine r_iadd C dX10_sums_66 ?_
                refine r_goto C (tgt := 73) dX10_sums_67 rfl ?_
                refine r_istore_n C dX10_sums_73 rfl rfl ?_
                refine r_goto C (tgt := 5) dX10_sums_74 rfl ?_
                exfalso; first | exact absurd (show (1 : Int32) = 0 by assumption) (by decide) | exact (show ¬ (0 : Int32) = 0 by assumption) rfl
            · refine r_iconst C (v := 1) dX10_sums_39 (by decide) ?_
              refine r_goto C (tgt := 44) dX10_sums_40 rfl ?_
              refine r_istore_n C dX10_sums_44 rfl rfl ?_
              refine r_aload_n C dX10_sums_45 rfl ?_
              refine r_dup C dX10_sums_46 rfl ?_
              refine g_at C dX10_sums_47 ?_
              refine r_iconst C (v := 1) dX10_sums_50 (by decide) ?_
              refine r_iadd C dX10_sums_51 ?_
              refine p_at C dX10_sums_52 ?_
              refine r_aload_n C dX10_sums_55 rfl ?_
              refine cV (ci := 10) C hx (sub (d - 1) (by omega) J b (p.1 + 1, p.2.1, p.2.2) (PG.po hp hup) hop2) moX10_product mlX10_196 miX10_product msX10_product dX10_sums_56 rfl rfl rfl rfl rfl (by omega) rfl rfl (ki (fun v_56_16 I_56_16 q_56_16 => ?_))
              obtain ⟨rfl, rfl, hPG2⟩ := q_56_16
              refine r_istore_n C dX10_sums_59 rfl rfl ?_
              refine r_iload_n C dX10_sums_60 rfl ?_
              refine r_ifeq C (tgt := 70) dX10_sums_61 rfl (fun h61_17 => ?_) (fun h61_17 => ?_)
              · refine r_iload_n C dX10_sums_70 rfl ?_
                refine r_iload_n C dX10_sums_71 rfl ?_
                refine r_isub C dX10_sums_72 ?_
                refine r_istore_n C dX10_sums_73 rfl rfl ?_
                refine r_goto C (tgt := 5) dX10_sums_74 rfl ?_
                exfalso; first | exact absurd (show (1 : Int32) = 0 by assumption) (by decide) | exact (show ¬ (0 : Int32) = 0 by assumption) rfl
              · refine r_iload_n C dX10_sums_64 rfl ?_
                refine r_iload_n C dX10_sums_65 rfl ?_
                refine r_iadd C dX10_sums_66 ?_
                refine r_goto C (tgt := 73) dX10_sums_67 rfl ?_
                refine r_istore_n C dX10_sums_73 rfl rfl ?_
                refine r_goto C (tgt := 5) dX10_sums_74 rfl ?_
                rw [op3_43 (c := txM I p.1) (v := v) (w := (f (p.1 + 1, p.2.1, p.2.2)).1) (by assumption)] at hG
                exact ih n' (by omega) _ _ _ _ (PG.po (PG.po hp hup) hPG2) ((hPG.tr hup).tr hPG2) (fuel_le hPG2.1 hui hn) hG
  refine r_aload_n C dX10_sums_0 rfl ?_
  refine cV (ci := 10) C hx (sub (d - 1) (by omega) J b p0 hp0 hop) moX10_product mlX10_196 miX10_product msX10_product dX10_sums_1 rfl rfl rfl rfl rfl (by omega) rfl rfl (ki (fun v_1_1 I_1_1 q_1_1 => ?_))
  obtain ⟨rfl, rfl, hPG2⟩ := q_1_1
  refine r_istore_n C dX10_sums_4 rfl rfl ?_
  exact loop 120 _ _ _ _ (PG.po hp0 hPG2) hPG2 (by have := hPG2.1; have := hp0.1; omega) hst
set_option maxRecDepth 100000 in
set_option maxHeartbeats 400000 in
theorem sX10_bothOf {g : Gb} {I : Is} (hB : BE I) {D : Nat} {m : Int} {f : PS → Int32 × PS} (sub : EvC g I D m mX10_compared f) : EvC g I (D + 2) m mX10_bothOf (fun p => lpM (txM I) f 1 120 (f p).1 (f p).2) := by
  intro d hd J b p0 hp0 hop
  obtain ⟨G, hst⟩ : ∃ G, lpM (txM I) f 1 120 (f p0).1 (f p0).2 = G := ⟨_, rfl⟩
  show MC9 g d mX10_bothOf [.ref 64] (setP I p0) J b (Qi J b (fun v I' => v = (lpM (txM I) f 1 120 (f p0).1 (f p0).2).1 ∧ I' = setP I (lpM (txM I) f 1 120 (f p0).1 (f p0).2).2 ∧ PG I p0 (lpM (txM I) f 1 120 (f p0).1 (f p0).2).2))
  rw [hst]
  refine ent9 (own := RX10) rfl rfl rfl (fun X hg hx C Z => ?_)
  subst hg
  have loop : ∀ (n : Nat) (v : Int32) (p : PS) (x2 : Option Value), PO I p → PG I p0 p → 120 ≤ (n : Int) + p.1.toInt → lpM (txM I) f 1 n v p = G → Aw X 5 [some (.ref 64), some (.int v), x2] [] (st9 (setP I p) J b) := by
    intro n
    induction n using Nat.strongRecOn with
    | ind n ih =>
      intro v p x2 hp hPG hn hG
      have hop2 : p.2.1.toInt < 0 → p.2.2.toInt + m = 6 := fun z => by rw [(hPG.2.2 z).2]; exact hop (hPG.2.2 z).1
      refine r_aload_n C dX10_bothOf_5 rfl ?_
      refine r_bipush C (v := 38) dX10_bothOf_6 (by decide) ?_
      refine cV (ci := 10) C hx (sX10_takes (d := d - 1) (by omega) 38 I J b p hB hp) moX10_takes mlX10_187 miX10_takes msX10_takes dX10_bothOf_8 rfl rfl rfl rfl rfl (by omega) rfl rfl (ki (fun v_8_1 I_8_1 q_8_1 => ?_))
      obtain ⟨rfl, rfl⟩ := q_8_1
      refine z_ifeq C (tgt := 36) dX10_bothOf_11 rfl (fun h11_2 => ?_) (fun h11_2 => ?_)
      · refine r_iload_n C dX10_bothOf_36 rfl ?_
        exact ri C Z dX10_bothOf_37 (show _ ∧ _ ∧ _ from by
      have hno := ‹¬ tkQ (txM I) 38 p›
      rw [show tkP (txM I) 38 p = p from if_neg hno, ← hG, lpM_stop (fun z => z.2 (jg1_0 (fun e => hno ⟨z.1, e⟩)))]
      exact ⟨rfl, rfl, hPG⟩)
      · have hyes : tkQ (txM I) 38 p := by assumption
        rw [show tkP (txM I) 38 p = (p.1 + 1, p.2.1, p.2.2) from if_pos hyes]
        have hcc := hyes.2
        have hj : ¬ jgF (txM I p.1) 1 = 0 := by rw [hcc]; decide
        obtain ⟨hup, hui⟩ := PG.up hB hp (jg_n0 hj)
        obtain ⟨n', rfl⟩ : ∃ n', n = n' + 1 := ⟨n - 1, by have := hp.2; have := tx_lt (jg_n0 hj); have := hB.2.2; omega⟩
        have hG1 : lpM (txM I) f 1 (n' + 1) v p = lpM (txM I) f 1 n' (opF (jgF (txM I p.1) 1) v (f (p.1 + 1, p.2.1, p.2.2)).1) (f (p.1 + 1, p.2.1, p.2.2)).2 := if_pos ⟨hyes.1, hj⟩
        rw [hG1] at hG
        refine r_aload_n C dX10_bothOf_14 rfl ?_
        refine cV (ci := 10) C hx (sub (d - 1) (by omega) J b (p.1 + 1, p.2.1, p.2.2) (PG.po hp hup) hop2) moX10_compared mlX10_190 miX10_compared msX10_compared dX10_bothOf_15 rfl rfl rfl rfl rfl (by omega) rfl rfl (ki (fun v_15_3 I_15_3 q_15_3 => ?_))
        obtain ⟨rfl, rfl, hPG2⟩ := q_15_3
        refine r_istore_n C dX10_bothOf_18 rfl rfl ?_
        refine r_iload_n C dX10_bothOf_19 rfl ?_
        refine r_ifeq C (tgt := 31) dX10_bothOf_20 rfl (fun h20_4 => ?_) (fun h20_4 => ?_)
        · refine r_iconst C (v := 0) dX10_bothOf_31 (by decide) ?_
          refine r_istore_n C dX10_bothOf_32 rfl rfl ?_
          refine r_goto C (tgt := 5) dX10_bothOf_33 rfl ?_
          have hb : bI (¬ v = 0 ∧ ¬ (f (p.1 + 1, p.2.1, p.2.2)).1 = 0) = 0 := bI_f (fun z => z.1 (by assumption))
          rw [op1 (c := txM I p.1) (v := v) (w := (f (p.1 + 1, p.2.1, p.2.2)).1) hcc, hb] at hG
          exact ih n' (by omega) _ _ _ (PG.po (PG.po hp hup) hPG2) ((hPG.tr hup).tr hPG2) (fuel_le hPG2.1 hui hn) hG
        · refine r_iload_n C dX10_bothOf_23 rfl ?_
          refine r_ifeq C (tgt := 31) dX10_bothOf_24 rfl (fun h24_5 => ?_) (fun h24_5 => ?_)
          · refine r_iconst C (v := 0) dX10_bothOf_31 (by decide) ?_
            refine r_istore_n C dX10_bothOf_32 rfl rfl ?_
            refine r_goto C (tgt := 5) dX10_bothOf_33 rfl ?_
            have hb : bI (¬ v = 0 ∧ ¬ (f (p.1 + 1, p.2.1, p.2.2)).1 = 0) = 0 := bI_f (fun z => z.2 (by assumption))
            rw [op1 (c := txM I p.1) (v := v) (w := (f (p.1 + 1, p.2.1, p.2.2)).1) hcc, hb] at hG
            exact ih n' (by omega) _ _ _ (PG.po (PG.po hp hup) hPG2) ((hPG.tr hup).tr hPG2) (fuel_le hPG2.1 hui hn) hG
          · refine r_iconst C (v := 1) dX10_bothOf_27 (by decide) ?_
            refine r_goto C (tgt := 32) dX10_bothOf_28 rfl ?_
            refine r_istore_n C dX10_bothOf_32 rfl rfl ?_
            refine r_goto C (tgt := 5) dX10_bothOf_33 rfl ?_
            have hb : bI (¬ v = 0 ∧ ¬ (f (p.1 + 1, p.2.1, p.2.2)).1 = 0) = 1 := bI_t ⟨by assumption, by assumption⟩
            rw [op1 (c := txM I p.1) (v := v) (w := (f (p.1 + 1, p.2.1, p.2.2)).1) hcc, hb] at hG
            exact ih n' (by omega) _ _ _ (PG.po (PG.po hp hup) hPG2) ((hPG.tr hup).tr hPG2) (fuel_le hPG2.1 hui hn) hG
  refine r_aload_n C dX10_bothOf_0 rfl ?_
  refine cV (ci := 10) C hx (sub (d - 1) (by omega) J b p0 hp0 hop) moX10_compared mlX10_190 miX10_compared msX10_compared dX10_bothOf_1 rfl rfl rfl rfl rfl (by omega) rfl rfl (ki (fun v_1_1 I_1_1 q_1_1 => ?_))
  obtain ⟨rfl, rfl, hPG2⟩ := q_1_1
  refine r_istore_n C dX10_bothOf_4 rfl rfl ?_
  exact loop 120 _ _ _ (PG.po hp0 hPG2) hPG2 (by have := hPG2.1; have := hp0.1; omega) hst
set_option maxRecDepth 100000 in
set_option maxHeartbeats 400000 in
theorem sX10_either {g : Gb} {I : Is} (hB : BE I) {D : Nat} {m : Int} {f : PS → Int32 × PS} (sub : EvC g I D m mX10_bothOf f) : EvC g I (D + 2) m mX10_either (fun p => lpM (txM I) f 0 120 (f p).1 (f p).2) := by
  intro d hd J b p0 hp0 hop
  obtain ⟨G, hst⟩ : ∃ G, lpM (txM I) f 0 120 (f p0).1 (f p0).2 = G := ⟨_, rfl⟩
  show MC9 g d mX10_either [.ref 64] (setP I p0) J b (Qi J b (fun v I' => v = (lpM (txM I) f 0 120 (f p0).1 (f p0).2).1 ∧ I' = setP I (lpM (txM I) f 0 120 (f p0).1 (f p0).2).2 ∧ PG I p0 (lpM (txM I) f 0 120 (f p0).1 (f p0).2).2))
  rw [hst]
  refine ent9 (own := RX10) rfl rfl rfl (fun X hg hx C Z => ?_)
  subst hg
  have loop : ∀ (n : Nat) (v : Int32) (p : PS) (x2 : Option Value), PO I p → PG I p0 p → 120 ≤ (n : Int) + p.1.toInt → lpM (txM I) f 0 n v p = G → Aw X 5 [some (.ref 64), some (.int v), x2] [] (st9 (setP I p) J b) := by
    intro n
    induction n using Nat.strongRecOn with
    | ind n ih =>
      intro v p x2 hp hPG hn hG
      have hop2 : p.2.1.toInt < 0 → p.2.2.toInt + m = 6 := fun z => by rw [(hPG.2.2 z).2]; exact hop (hPG.2.2 z).1
      refine r_aload_n C dX10_either_5 rfl ?_
      refine r_bipush C (v := 124) dX10_either_6 (by decide) ?_
      refine cV (ci := 10) C hx (sX10_takes (d := d - 1) (by omega) 124 I J b p hB hp) moX10_takes mlX10_187 miX10_takes msX10_takes dX10_either_8 rfl rfl rfl rfl rfl (by omega) rfl rfl (ki (fun v_8_1 I_8_1 q_8_1 => ?_))
      obtain ⟨rfl, rfl⟩ := q_8_1
      refine z_ifeq C (tgt := 36) dX10_either_11 rfl (fun h11_2 => ?_) (fun h11_2 => ?_)
      · refine r_iload_n C dX10_either_36 rfl ?_
        exact ri C Z dX10_either_37 (show _ ∧ _ ∧ _ from by
      have hno := ‹¬ tkQ (txM I) 124 p›
      rw [show tkP (txM I) 124 p = p from if_neg hno, ← hG, lpM_stop (fun z => z.2 (jgr0_0 (fun e => hno ⟨z.1, e⟩)))]
      exact ⟨rfl, rfl, hPG⟩)
      · have hyes : tkQ (txM I) 124 p := by assumption
        rw [show tkP (txM I) 124 p = (p.1 + 1, p.2.1, p.2.2) from if_pos hyes]
        have hcc := hyes.2
        have hj : ¬ jgF (txM I p.1) 0 = 0 := by rw [hcc]; decide
        obtain ⟨hup, hui⟩ := PG.up hB hp (jg_n0 hj)
        obtain ⟨n', rfl⟩ : ∃ n', n = n' + 1 := ⟨n - 1, by have := hp.2; have := tx_lt (jg_n0 hj); have := hB.2.2; omega⟩
        have hG1 : lpM (txM I) f 0 (n' + 1) v p = lpM (txM I) f 0 n' (opF (jgF (txM I p.1) 0) v (f (p.1 + 1, p.2.1, p.2.2)).1) (f (p.1 + 1, p.2.1, p.2.2)).2 := if_pos ⟨hyes.1, hj⟩
        rw [hG1] at hG
        refine r_aload_n C dX10_either_14 rfl ?_
        refine cV (ci := 10) C hx (sub (d - 1) (by omega) J b (p.1 + 1, p.2.1, p.2.2) (PG.po hp hup) hop2) moX10_bothOf mlX10_184 miX10_bothOf msX10_bothOf dX10_either_15 rfl rfl rfl rfl rfl (by omega) rfl rfl (ki (fun v_15_3 I_15_3 q_15_3 => ?_))
        obtain ⟨rfl, rfl, hPG2⟩ := q_15_3
        refine r_istore_n C dX10_either_18 rfl rfl ?_
        refine r_iload_n C dX10_either_19 rfl ?_
        refine r_ifne C (tgt := 27) dX10_either_20 rfl (fun h20_4 => ?_) (fun h20_4 => ?_)
        · refine r_iconst C (v := 1) dX10_either_27 (by decide) ?_
          refine r_goto C (tgt := 32) dX10_either_28 rfl ?_
          refine r_istore_n C dX10_either_32 rfl rfl ?_
          refine r_goto C (tgt := 5) dX10_either_33 rfl ?_
          have hb : bI (¬ v = 0 ∨ ¬ (f (p.1 + 1, p.2.1, p.2.2)).1 = 0) = 1 := bI_t (Or.inl (by assumption))
          rw [op0 (c := txM I p.1) (v := v) (w := (f (p.1 + 1, p.2.1, p.2.2)).1) hcc, hb] at hG
          exact ih n' (by omega) _ _ _ (PG.po (PG.po hp hup) hPG2) ((hPG.tr hup).tr hPG2) (fuel_le hPG2.1 hui hn) hG
        · refine r_iload_n C dX10_either_23 rfl ?_
          refine r_ifeq C (tgt := 31) dX10_either_24 rfl (fun h24_5 => ?_) (fun h24_5 => ?_)
          · refine r_iconst C (v := 0) dX10_either_31 (by decide) ?_
            refine r_istore_n C dX10_either_32 rfl rfl ?_
            refine r_goto C (tgt := 5) dX10_either_33 rfl ?_
            have hb : bI (¬ v = 0 ∨ ¬ (f (p.1 + 1, p.2.1, p.2.2)).1 = 0) = 0 := bI_f (fun z => z.elim (fun y => y (by assumption)) (fun y => y (by assumption)))
            rw [op0 (c := txM I p.1) (v := v) (w := (f (p.1 + 1, p.2.1, p.2.2)).1) hcc, hb] at hG
            exact ih n' (by omega) _ _ _ (PG.po (PG.po hp hup) hPG2) ((hPG.tr hup).tr hPG2) (fuel_le hPG2.1 hui hn) hG
          · refine r_iconst C (v := 1) dX10_either_27 (by decide) ?_
            refine r_goto C (tgt := 32) dX10_either_28 rfl ?_
            refine r_istore_n C dX10_either_32 rfl rfl ?_
            refine r_goto C (tgt := 5) dX10_either_33 rfl ?_
            have hb : bI (¬ v = 0 ∨ ¬ (f (p.1 + 1, p.2.1, p.2.2)).1 = 0) = 1 := bI_t (Or.inr (by assumption))
            rw [op0 (c := txM I p.1) (v := v) (w := (f (p.1 + 1, p.2.1, p.2.2)).1) hcc, hb] at hG
            exact ih n' (by omega) _ _ _ (PG.po (PG.po hp hup) hPG2) ((hPG.tr hup).tr hPG2) (fuel_le hPG2.1 hui hn) hG
  refine r_aload_n C dX10_either_0 rfl ?_
  refine cV (ci := 10) C hx (sub (d - 1) (by omega) J b p0 hp0 hop) moX10_bothOf mlX10_184 miX10_bothOf msX10_bothOf dX10_either_1 rfl rfl rfl rfl rfl (by omega) rfl rfl (ki (fun v_1_1 I_1_1 q_1_1 => ?_))
  obtain ⟨rfl, rfl, hPG2⟩ := q_1_1
  refine r_istore_n C dX10_either_4 rfl rfl ?_
  exact loop 120 _ _ _ (PG.po hp0 hPG2) hPG2 (by have := hPG2.1; have := hp0.1; omega) hst
set_option maxRecDepth 100000 in
set_option maxHeartbeats 400000 in
theorem sX10_compared {g : Gb} {I : Is} (hB : BE I) {D : Nat} {m : Int} {f : PS → Int32 × PS} (sub : EvC g I D m mX10_sums f) : EvC g I (D + 2) m mX10_compared (fun p => lpM (txM I) f 2 1 (f p).1 (f p).2) := by
  intro d hd J b p0 hp0 hop
  obtain ⟨G, hst⟩ : ∃ G, lpM (txM I) f 2 1 (f p0).1 (f p0).2 = G := ⟨_, rfl⟩
  show MC9 g d mX10_compared [.ref 64] (setP I p0) J b (Qi J b (fun v I' => v = (lpM (txM I) f 2 1 (f p0).1 (f p0).2).1 ∧ I' = setP I (lpM (txM I) f 2 1 (f p0).1 (f p0).2).2 ∧ PG I p0 (lpM (txM I) f 2 1 (f p0).1 (f p0).2).2))
  rw [hst]
  refine ent9 (own := RX10) rfl rfl rfl (fun X hg hx C Z => ?_)
  subst hg
  refine r_aload_n C dX10_compared_0 rfl ?_
  refine cV (ci := 10) C hx (sub (d - 1) (by omega) J b p0 hp0 hop) moX10_sums mlX10_193 miX10_sums msX10_sums dX10_compared_1 rfl rfl rfl rfl rfl (by omega) rfl rfl (ki (fun v_1_1 I_1_1 q_1_1 => ?_))
  obtain ⟨rfl, rfl, hPG⟩ := q_1_1
  obtain ⟨v, hv⟩ : ∃ v, (f p0).1 = v := ⟨_, rfl⟩
  obtain ⟨p, hpe⟩ : ∃ p, (f p0).2 = p := ⟨_, rfl⟩
  rw [hv, hpe] at hst
  rw [hpe] at hPG
  rw [hv, hpe]
  have hp := PG.po hp0 hPG
  refine r_istore_n C dX10_compared_4 rfl rfl ?_
  refine r_aload_n C dX10_compared_5 rfl ?_
  refine cV (ci := 10) C hx (sX10_byteAt (d := d - 1) (by omega) I J b p hB hp) moX10_byteAt mlX10_180 miX10_byteAt msX10_byteAt dX10_compared_6 rfl rfl rfl rfl rfl (by omega) rfl rfl (kp ?_)
  refine r_istore_n C dX10_compared_9 rfl rfl ?_
  refine r_aload_n C dX10_compared_10 rfl ?_
  refine g_fa C dX10_compared_11 ?_
  refine b_ifge C (tgt := 35) dX10_compared_14 rfl (fun h14_3 => ?_) (fun h14_3 => ?_)
  · refine r_iload_n C dX10_compared_35 rfl ?_
    exact ri C Z dX10_compared_36 (show _ ∧ _ ∧ _ from by rw [← hst, lpM_stop (fun z => by have := z.1; omega)]; exact ⟨rfl, rfl, hPG⟩)
  · refine r_iload_n C dX10_compared_17 rfl ?_
    refine r_bipush C (v := 60) dX10_compared_18 (by decide) ?_
    refine r_iceq C (tgt := 37) dX10_compared_20 rfl (fun h20_4 => ?_) (fun h20_4 => ?_)
    · have hcc : txM I p.1 = 60 ∨ txM I p.1 = 61 ∨ txM I p.1 = 62 := by first | exact Or.inl (by assumption) | exact Or.inr (Or.inl (by assumption)) | exact Or.inr (Or.inr (by assumption))
      have hj : ¬ jgF (txM I p.1) 2 = 0 := jg2_n hcc
      obtain ⟨hup, hui⟩ := PG.up hB hp (jg_n0 hj)
      have hop2 : p.2.1.toInt < 0 → p.2.2.toInt + m = 6 := fun z => by rw [(hPG.2.2 z).2]; exact hop (hPG.2.2 z).1
      have hG1 : lpM (txM I) f 2 1 v p = (opF (jgF (txM I p.1) 2) v (f (p.1 + 1, p.2.1, p.2.2)).1, (f (p.1 + 1, p.2.1, p.2.2)).2) := if_pos ⟨by assumption, hj⟩
      refine r_aload_n C dX10_compared_37 rfl ?_
      refine r_dup C dX10_compared_38 rfl ?_
      refine g_at C dX10_compared_39 ?_
      refine r_iconst C (v := 1) dX10_compared_42 (by decide) ?_
      refine r_iadd C dX10_compared_43 ?_
      refine p_at C dX10_compared_44 ?_
      refine r_aload_n C dX10_compared_47 rfl ?_
      refine cV (ci := 10) C hx (sub (d - 1) (by omega) J b (p.1 + 1, p.2.1, p.2.2) (PG.po hp hup) hop2) moX10_sums mlX10_193 miX10_sums msX10_sums dX10_compared_48 rfl rfl rfl rfl rfl (by omega) rfl rfl (ki (fun v_48_5 I_48_5 q_48_5 => ?_))
      obtain ⟨rfl, rfl, hPG3⟩ := q_48_5
      refine r_istore_n C dX10_compared_51 rfl rfl ?_
      refine r_iload_n C dX10_compared_52 rfl ?_
      refine r_bipush C (v := 60) dX10_compared_53 (by decide) ?_
      refine r_icne C (tgt := 66) dX10_compared_55 rfl (fun h55_6 => ?_) (fun h55_6 => ?_)
      · refine r_iload_n C dX10_compared_66 rfl ?_
        refine r_bipush C (v := 61) dX10_compared_67 (by decide) ?_
        refine r_icne C (tgt := 80) dX10_compared_69 rfl (fun h69_7 => ?_) (fun h69_7 => ?_)
        · refine r_iload_n C dX10_compared_80 rfl ?_
          refine r_iload_n C dX10_compared_81 rfl ?_
          refine b_icle C (tgt := 89) rfl rfl dX10_compared_82 rfl (fun h82_8 => ?_) (fun h82_8 => ?_)
          · refine r_iconst C (v := 0) dX10_compared_89 (by decide) ?_
            exact ri C Z dX10_compared_90 (show _ ∧ _ ∧ _ from by rw [← hst, hG1, op2_62 (by assumption) (by assumption) hcc]; exact ⟨(bI_f (by omega)).symm, rfl, (hPG.tr hup).tr hPG3⟩)
          · refine r_iconst C (v := 1) dX10_compared_85 (by decide) ?_
            refine r_goto C (tgt := 90) dX10_compared_86 rfl ?_
            exact ri C Z dX10_compared_90 (show _ ∧ _ ∧ _ from by rw [← hst, hG1, op2_62 (by assumption) (by assumption) hcc]; exact ⟨(bI_t (by assumption)).symm, rfl, (hPG.tr hup).tr hPG3⟩)
        · refine r_iload_n C dX10_compared_72 rfl ?_
          refine r_iload_n C dX10_compared_73 rfl ?_
          refine r_icne C (tgt := 89) dX10_compared_74 rfl (fun h74_9 => ?_) (fun h74_9 => ?_)
          · refine r_iconst C (v := 0) dX10_compared_89 (by decide) ?_
            exact ri C Z dX10_compared_90 (show _ ∧ _ ∧ _ from by rw [← hst, hG1, op2_61 (by assumption)]; exact ⟨(bI_f (by assumption)).symm, rfl, (hPG.tr hup).tr hPG3⟩)
          · refine r_goto C (tgt := 85) dX10_compared_77 rfl ?_
            refine r_iconst C (v := 1) dX10_compared_85 (by decide) ?_
            refine r_goto C (tgt := 90) dX10_compared_86 rfl ?_
            exact ri C Z dX10_compared_90 (show _ ∧ _ ∧ _ from by rw [← hst, hG1, op2_61 (by assumption)]; exact ⟨(bI_t (by assumption)).symm, rfl, (hPG.tr hup).tr hPG3⟩)
      · refine r_iload_n C dX10_compared_58 rfl ?_
        refine r_iload_n C dX10_compared_59 rfl ?_
        refine b_icge C (tgt := 89) rfl rfl dX10_compared_60 rfl (fun h60_10 => ?_) (fun h60_10 => ?_)
        · refine r_iconst C (v := 0) dX10_compared_89 (by decide) ?_
          exact ri C Z dX10_compared_90 (show _ ∧ _ ∧ _ from by rw [← hst, hG1, op2_60 (by assumption)]; exact ⟨(bI_f (by omega)).symm, rfl, (hPG.tr hup).tr hPG3⟩)
        · refine r_goto C (tgt := 85) dX10_compared_63 rfl ?_
          refine r_iconst C (v := 1) dX10_compared_85 (by decide) ?_
          refine r_goto C (tgt := 90) dX10_compared_86 rfl ?_
          exact ri C Z dX10_compared_90 (show _ ∧ _ ∧ _ from by rw [← hst, hG1, op2_60 (by assumption)]; exact ⟨(bI_t (by assumption)).symm, rfl, (hPG.tr hup).tr hPG3⟩)
    · refine r_iload_n C dX10_compared_23 rfl ?_
      refine r_bipush C (v := 61) dX10_compared_24 (by decide) ?_
      refine r_iceq C (tgt := 37) dX10_compared_26 rfl (fun h26_11 => ?_) (fun h26_11 => ?_)
      · have hcc : txM I p.1 = 60 ∨ txM I p.1 = 61 ∨ txM I p.1 = 62 := by first | exact Or.inl (by assumption) | exact Or.inr (Or.inl (by assumption)) | exact Or.inr (Or.inr (by assumption))
        have hj : ¬ jgF (txM I p.1) 2 = 0 := jg2_n hcc
        obtain ⟨hup, hui⟩ := PG.up hB hp (jg_n0 hj)
        have hop2 : p.2.1.toInt < 0 → p.2.2.toInt + m = 6 := fun z => by rw [(hPG.2.2 z).2]; exact hop (hPG.2.2 z).1
        have hG1 : lpM (txM I) f 2 1 v p = (opF (jgF (txM I p.1) 2) v (f (p.1 + 1, p.2.1, p.2.2)).1, (f (p.1 + 1, p.2.1, p.2.2)).2) := if_pos ⟨by assumption, hj⟩
        refine r_aload_n C dX10_compared_37 rfl ?_
        refine r_dup C dX10_compared_38 rfl ?_
        refine g_at C dX10_compared_39 ?_
        refine r_iconst C (v := 1) dX10_compared_42 (by decide) ?_
        refine r_iadd C dX10_compared_43 ?_
        refine p_at C dX10_compared_44 ?_
        refine r_aload_n C dX10_compared_47 rfl ?_
        refine cV (ci := 10) C hx (sub (d - 1) (by omega) J b (p.1 + 1, p.2.1, p.2.2) (PG.po hp hup) hop2) moX10_sums mlX10_193 miX10_sums msX10_sums dX10_compared_48 rfl rfl rfl rfl rfl (by omega) rfl rfl (ki (fun v_48_12 I_48_12 q_48_12 => ?_))
        obtain ⟨rfl, rfl, hPG3⟩ := q_48_12
        refine r_istore_n C dX10_compared_51 rfl rfl ?_
        refine r_iload_n C dX10_compared_52 rfl ?_
        refine r_bipush C (v := 60) dX10_compared_53 (by decide) ?_
        refine r_icne C (tgt := 66) dX10_compared_55 rfl (fun h55_13 => ?_) (fun h55_13 => ?_)
        · refine r_iload_n C dX10_compared_66 rfl ?_
          refine r_bipush C (v := 61) dX10_compared_67 (by decide) ?_
          refine r_icne C (tgt := 80) dX10_compared_69 rfl (fun h69_14 => ?_) (fun h69_14 => ?_)
          · refine r_iload_n C dX10_compared_80 rfl ?_
            refine r_iload_n C dX10_compared_81 rfl ?_
            refine b_icle C (tgt := 89) rfl rfl dX10_compared_82 rfl (fun h82_15 => ?_) (fun h82_15 => ?_)
            · refine r_iconst C (v := 0) dX10_compared_89 (by decide) ?_
              exact ri C Z dX10_compared_90 (show _ ∧ _ ∧ _ from by rw [← hst, hG1, op2_62 (by assumption) (by assumption) hcc]; exact ⟨(bI_f (by omega)).symm, rfl, (hPG.tr hup).tr hPG3⟩)
            · refine r_iconst C (v := 1) dX10_compared_85 (by decide) ?_
              refine r_goto C (tgt := 90) dX10_compared_86 rfl ?_
              exact ri C Z dX10_compared_90 (show _ ∧ _ ∧ _ from by rw [← hst, hG1, op2_62 (by assumption) (by assumption) hcc]; exact ⟨(bI_t (by assumption)).symm, rfl, (hPG.tr hup).tr hPG3⟩)
          · refine r_iload_n C dX10_compared_72 rfl ?_
            refine r_iload_n C dX10_compared_73 rfl ?_
            refine r_icne C (tgt := 89) dX10_compared_74 rfl (fun h74_16 => ?_) (fun h74_16 => ?_)
            · refine r_iconst C (v := 0) dX10_compared_89 (by decide) ?_
              exact ri C Z dX10_compared_90 (show _ ∧ _ ∧ _ from by rw [← hst, hG1, op2_61 (by assumption)]; exact ⟨(bI_f (by assumption)).symm, rfl, (hPG.tr hup).tr hPG3⟩)
            · refine r_goto C (tgt := 85) dX10_compared_77 rfl ?_
              refine r_iconst C (v := 1) dX10_compared_85 (by decide) ?_
              refine r_goto C (tgt := 90) dX10_compared_86 rfl ?_
              exact ri C Z dX10_compared_90 (show _ ∧ _ ∧ _ from by rw [← hst, hG1, op2_61 (by assumption)]; exact ⟨(bI_t (by assumption)).symm, rfl, (hPG.tr hup).tr hPG3⟩)
        · refine r_iload_n C dX10_compared_58 rfl ?_
          refine r_iload_n C dX10_compared_59 rfl ?_
          refine b_icge C (tgt := 89) rfl rfl dX10_compared_60 rfl (fun h60_17 => ?_) (fun h60_17 => ?_)
          · refine r_iconst C (v := 0) dX10_compared_89 (by decide) ?_
            exact ri C Z dX10_compared_90 (show _ ∧ _ ∧ _ from by rw [← hst, hG1, op2_60 (by assumption)]; exact ⟨(bI_f (by omega)).symm, rfl, (hPG.tr hup).tr hPG3⟩)
          · refine r_goto C (tgt := 85) dX10_compared_63 rfl ?_
            refine r_iconst C (v := 1) dX10_compared_85 (by decide) ?_
            refine r_goto C (tgt := 90) dX10_compared_86 rfl ?_
            exact ri C Z dX10_compared_90 (show _ ∧ _ ∧ _ from by rw [← hst, hG1, op2_60 (by assumption)]; exact ⟨(bI_t (by assumption)).symm, rfl, (hPG.tr hup).tr hPG3⟩)
      · refine r_iload_n C dX10_compared_29 rfl ?_
        refine r_bipush C (v := 62) dX10_compared_30 (by decide) ?_
        refine r_iceq C (tgt := 37) dX10_compared_32 rfl (fun h32_18 => ?_) (fun h32_18 => ?_)
        · have hcc : txM I p.1 = 60 ∨ txM I p.1 = 61 ∨ txM I p.1 = 62 := by first | exact Or.inl (by assumption) | exact Or.inr (Or.inl (by assumption)) | exact Or.inr (Or.inr (by assumption))
          have hj : ¬ jgF (txM I p.1) 2 = 0 := jg2_n hcc
          obtain ⟨hup, hui⟩ := PG.up hB hp (jg_n0 hj)
          have hop2 : p.2.1.toInt < 0 → p.2.2.toInt + m = 6 := fun z => by rw [(hPG.2.2 z).2]; exact hop (hPG.2.2 z).1
          have hG1 : lpM (txM I) f 2 1 v p = (opF (jgF (txM I p.1) 2) v (f (p.1 + 1, p.2.1, p.2.2)).1, (f (p.1 + 1, p.2.1, p.2.2)).2) := if_pos ⟨by assumption, hj⟩
          refine r_aload_n C dX10_compared_37 rfl ?_
          refine r_dup C dX10_compared_38 rfl ?_
          refine g_at C dX10_compared_39 ?_
          refine r_iconst C (v := 1) dX10_compared_42 (by decide) ?_
          refine r_iadd C dX10_compared_43 ?_
          refine p_at C dX10_compared_44 ?_
          refine r_aload_n C dX10_compared_47 rfl ?_
          refine cV (ci := 10) C hx (sub (d - 1) (by omega) J b (p.1 + 1, p.2.1, p.2.2) (PG.po hp hup) hop2) moX10_sums mlX10_193 miX10_sums msX10_sums dX10_compared_48 rfl rfl rfl rfl rfl (by omega) rfl rfl (ki (fun v_48_19 I_48_19 q_48_19 => ?_))
          obtain ⟨rfl, rfl, hPG3⟩ := q_48_19
          refine r_istore_n C dX10_compared_51 rfl rfl ?_
          refine r_iload_n C dX10_compared_52 rfl ?_
          refine r_bipush C (v := 60) dX10_compared_53 (by decide) ?_
          refine r_icne C (tgt := 66) dX10_compared_55 rfl (fun h55_20 => ?_) (fun h55_20 => ?_)
          · refine r_iload_n C dX10_compared_66 rfl ?_
            refine r_bipush C (v := 61) dX10_compared_67 (by decide) ?_
            refine r_icne C (tgt := 80) dX10_compared_69 rfl (fun h69_21 => ?_) (fun h69_21 => ?_)
            · refine r_iload_n C dX10_compared_80 rfl ?_
              refine r_iload_n C dX10_compared_81 rfl ?_
              refine b_icle C (tgt := 89) rfl rfl dX10_compared_82 rfl (fun h82_22 => ?_) (fun h82_22 => ?_)
              · refine r_iconst C (v := 0) dX10_compared_89 (by decide) ?_
                exact ri C Z dX10_compared_90 (show _ ∧ _ ∧ _ from by rw [← hst, hG1, op2_62 (by assumption) (by assumption) hcc]; exact ⟨(bI_f (by omega)).symm, rfl, (hPG.tr hup).tr hPG3⟩)
              · refine r_iconst C (v := 1) dX10_compared_85 (by decide) ?_
                refine r_goto C (tgt := 90) dX10_compared_86 rfl ?_
                exact ri C Z dX10_compared_90 (show _ ∧ _ ∧ _ from by rw [← hst, hG1, op2_62 (by assumption) (by assumption) hcc]; exact ⟨(bI_t (by assumption)).symm, rfl, (hPG.tr hup).tr hPG3⟩)
            · refine r_iload_n C dX10_compared_72 rfl ?_
              refine r_iload_n C dX10_compared_73 rfl ?_
              refine r_icne C (tgt := 89) dX10_compared_74 rfl (fun h74_23 => ?_) (fun h74_23 => ?_)
              · refine r_iconst C (v := 0) dX10_compared_89 (by decide) ?_
                exact ri C Z dX10_compared_90 (show _ ∧ _ ∧ _ from by rw [← hst, hG1, op2_61 (by assumption)]; exact ⟨(bI_f (by assumption)).symm, rfl, (hPG.tr hup).tr hPG3⟩)
              · refine r_goto C (tgt := 85) dX10_compared_77 rfl ?_
                refine r_iconst C (v := 1) dX10_compared_85 (by decide) ?_
                refine r_goto C (tgt := 90) dX10_compared_86 rfl ?_
                exact ri C Z dX10_compared_90 (show _ ∧ _ ∧ _ from by rw [← hst, hG1, op2_61 (by assumption)]; exact ⟨(bI_t (by assumption)).symm, rfl, (hPG.tr hup).tr hPG3⟩)
          · refine r_iload_n C dX10_compared_58 rfl ?_
            refine r_iload_n C dX10_compared_59 rfl ?_
            refine b_icge C (tgt := 89) rfl rfl dX10_compared_60 rfl (fun h60_24 => ?_) (fun h60_24 => ?_)
            · refine r_iconst C (v := 0) dX10_compared_89 (by decide) ?_
              exact ri C Z dX10_compared_90 (show _ ∧ _ ∧ _ from by rw [← hst, hG1, op2_60 (by assumption)]; exact ⟨(bI_f (by omega)).symm, rfl, (hPG.tr hup).tr hPG3⟩)
            · refine r_goto C (tgt := 85) dX10_compared_63 rfl ?_
              refine r_iconst C (v := 1) dX10_compared_85 (by decide) ?_
              refine r_goto C (tgt := 90) dX10_compared_86 rfl ?_
              exact ri C Z dX10_compared_90 (show _ ∧ _ ∧ _ from by rw [← hst, hG1, op2_60 (by assumption)]; exact ⟨(bI_t (by assumption)).symm, rfl, (hPG.tr hup).tr hPG3⟩)
        · refine r_iload_n C dX10_compared_35 rfl ?_
          exact ri C Z dX10_compared_36 (show _ ∧ _ ∧ _ from by rw [← hst, lpM_stop (fun z => z.2 (jg2_0 (by assumption) (by assumption) (by assumption)))]; exact ⟨rfl, rfl, hPG⟩)
