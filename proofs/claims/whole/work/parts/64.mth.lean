theorem bM_gen (w : Int32) (k : Nat) (hk : k < 3) : bitM w k = bit w k := by
  have a0 : ¬ (0#32 = BitVec.twoPow 32 0) := by decide
  unfold bitM bit
  rw [decide_eq_decide, ← Int32.toBitVec_inj, ← Int32.toBitVec_inj]
  rcases (show k = 0 ∨ k = 1 ∨ k = 2 by omega) with rfl | rfl | rfl
  · have b0 : ¬ (BitVec.twoPow 32 0 = 0#32) := by decide
    rw [Int32.toBitVec_and, Int32.toBitVec_and, Int32.toBitVec_shiftRight]
    rw [show (1 : Int32).toBitVec = BitVec.twoPow 32 0 from rfl, BitVec.and_twoPow, show ((1 : Int32) <<< (nI 0 &&& 31)).toBitVec = BitVec.twoPow 32 0 from rfl, BitVec.and_twoPow, show (nI 0 &&& 31 : Int32).toBitVec.smod 32 = 0#32 from rfl]
    simp [a0, b0, BitVec.getElem_sshiftRight]
  · have b0 : ¬ (BitVec.twoPow 32 1 = 0#32) := by decide
    rw [Int32.toBitVec_and, Int32.toBitVec_and, Int32.toBitVec_shiftRight]
    rw [show (1 : Int32).toBitVec = BitVec.twoPow 32 0 from rfl, BitVec.and_twoPow, show ((1 : Int32) <<< (nI 1 &&& 31)).toBitVec = BitVec.twoPow 32 1 from rfl, BitVec.and_twoPow, show (nI 1 &&& 31 : Int32).toBitVec.smod 32 = 1#32 from rfl]
    simp [a0, b0, BitVec.getElem_sshiftRight]
  · have b0 : ¬ (BitVec.twoPow 32 2 = 0#32) := by decide
    rw [Int32.toBitVec_and, Int32.toBitVec_and, Int32.toBitVec_shiftRight]
    rw [show (1 : Int32).toBitVec = BitVec.twoPow 32 0 from rfl, BitVec.and_twoPow, show ((1 : Int32) <<< (nI 2 &&& 31)).toBitVec = BitVec.twoPow 32 2 from rfl, BitVec.and_twoPow, show (nI 2 &&& 31 : Int32).toBitVec.smod 32 = 2#32 from rfl]
    simp [a0, b0, BitVec.getElem_sshiftRight]
theorem secF_pt {e : EV} {pt fr hc pt' fr' hc' : Nat → Bool} (v : GV) (h : ∀ k, k < e.1 → pt k = pt' k ∧ (pt' k = true → fr k = fr' k) ∧ hc k = hc' k) : secF e pt fr hc v = secF e pt' fr' hc' v := by
  have hp : ∀ k, k < e.1 → pdF e pt fr v k = pdF e pt' fr' v k := fun k hk => by
    unfold pdF; rw [(h k hk).1]
    cases hpt : pt' k
    · rfl
    · rw [(h k hk).2.1 hpt]
  have hw : ∀ k, k < e.1 → wVF e pt fr hc v k = wVF e pt' fr' hc' v k := fun k hk => by
    unfold wVF; rw [hp k hk, (h k hk).2.2]
  have hsm : smF (wVF e pt fr hc v) e.1 = smF (wVF e pt' fr' hc' v) e.1 := smF_congr _ hw
  have hsb : sbF v.1 (fun j => shF v.1 (smF (wVF e pt fr hc v) e.1) (wVF e pt fr hc v j)) e.1 = sbF v.1 (fun j => shF v.1 (smF (wVF e pt' fr' hc' v) e.1) (wVF e pt' fr' hc' v j)) e.1 := sbF_congr _ (fun k hk => by rw [hsm, hw k hk])
  unfold secF
  rw [hsb]
  refine Prod.ext rfl (Prod.ext rfl (Prod.ext rfl (Prod.ext (funext fun k => ?_) (Prod.ext (funext fun k => ?_) (Prod.ext (funext fun k => ?_) (funext fun k => ?_))))))
  · show (if k < e.1 ∧ pdF e pt fr v k = true then _ else _) = if k < e.1 ∧ pdF e pt' fr' v k = true then _ else _
    by_cases c : k < e.1
    · rw [hp k c]
    · rw [if_neg (fun z => c z.1), if_neg (fun z => c z.1)]
  · show (if k < e.1 then _ else _) = if k < e.1 then _ else _
    by_cases c : k < e.1
    · rw [if_pos c, if_pos c, hsm, hw k c]
    · rw [if_neg c, if_neg c]
  · show (if k < e.1 then _ else _) = if k < e.1 then _ else _
    by_cases c : k < e.1
    · rw [if_pos c, if_pos c, hsm, hw k c]
    · rw [if_neg c, if_neg c]
  · show (if k < e.1 ∧ pdF e pt fr v k = true ∧ hc k = false ∧ _ then _ else _) = if k < e.1 ∧ pdF e pt' fr' v k = true ∧ hc' k = false ∧ _ then _ else _
    by_cases c : k < e.1
    · rw [hp k c, (h k c).2.2]
    · rw [if_neg (fun z => c z.1), if_neg (fun z => c z.1)]
/-- the reference in thought, told from where it began -/
def TH (I I' : Is) (pt fr hc : Nat → Bool) (v : GV) : Prop := FrM [72, 73, 74, 75, 76] [15, 16, 17, 18, 19, 21, 22, 23, 28, 29, 30] I I' ∧ EqV (gvM I') v ∧ ∀ k, k < ix (I 64 6) → ptM I' k = pt k ∧ frM I' k = fr k ∧ hcM I' k = hc k
theorem TH.en {I I' : Is} {pt fr hc : Nat → Bool} {v : GV} (h : TH I I' pt fr hc v) : enM I' = enM I := enM_fr h.1 (by decide) (by decide) (by decide) (by decide)
theorem TH.nm {I I' : Is} {pt fr hc : Nat → Bool} {v : GV} (h : TH I I' pt fr hc v) (hN : NM I) : NM I' := NM_fr h.1 (by decide) (by decide) (by decide) hN
theorem TH.pt {I I' : Is} {pt fr hc : Nat → Bool} {v : GV} (h : TH I I' pt fr hc v) (hN : NM I) (w : Int32) : TH I (u2 I' 64 28 w) (bit w) fr hc v := by
  refine ⟨h.1.sf (by decide), h.2.1, fun k hk => ⟨?_, (h.2.2 k hk).2.1, (h.2.2 k hk).2.2⟩⟩
  have e := ix_nn hN.1.1
  have := hN.1.2.1
  exact bM_gen w k (by omega)
theorem TH.fr {I I' : Is} {pt fr hc : Nat → Bool} {v : GV} (h : TH I I' pt fr hc v) : TH I (u2 I' 64 29 1) pt (fun _ => true) hc v :=
  ⟨h.1.sf (by decide), h.2.1, fun k hk => ⟨(h.2.2 k hk).1, rfl, (h.2.2 k hk).2.2⟩⟩
theorem TH.hc {I I' : Is} {pt fr hc : Nat → Bool} {v : GV} (h : TH I I' pt fr hc v) (hN : NM I) (w : Int32) : TH I (u2 I' 64 30 w) pt fr (bit w) v := by
  refine ⟨h.1.sf (by decide), h.2.1, fun k hk => ⟨(h.2.2 k hk).1, (h.2.2 k hk).2.1, ?_⟩⟩
  have e := ix_nn hN.1.1
  have := hN.1.2.1
  exact bM_gen w k (by omega)
theorem TH.lv {I I' : Is} {pt fr hc : Nat → Bool} {v : GV} (h : TH I I' pt fr hc v) (w : Int32) : TH I (u2 I' 64 21 w) pt fr hc (w, v.2) := ⟨h.1.sf (by decide), ⟨rfl, h.2.1.2⟩, h.2.2⟩
theorem TH.ic {I I' : Is} {pt fr hc : Nat → Bool} {v : GV} (h : TH I I' pt fr hc v) (w : Int32) : TH I (u2 I' 64 22 w) pt fr hc (v.1, w, v.2.2) := ⟨h.1.sf (by decide), ⟨h.2.1.1, rfl, h.2.1.2.2⟩, h.2.2⟩
theorem TH.cg {I I' : Is} {pt fr hc pt' fr' hc' : Nat → Bool} {v : GV} (h : TH I I' pt fr hc v) (g : ∀ k, k < ix (I 64 6) → pt k = pt' k ∧ fr k = fr' k ∧ hc k = hc' k) : TH I I' pt' fr' hc' v := ⟨h.1, h.2.1, fun k hk => ⟨(h.2.2 k hk).1.trans (g k hk).1, (h.2.2 k hk).2.1.trans (g k hk).2.1, (h.2.2 k hk).2.2.trans (g k hk).2.2⟩⟩
theorem all_bit {s k : Nat} (hs : s ≤ 3) (hk : k < s) : bitM (1 <<< (nI s &&& 31) - 1) k = bit 7 k := by
  rcases (show s = 1 ∨ s = 2 ∨ s = 3 by omega) with rfl | rfl | rfl
  · rcases (show k = 0 by omega) with rfl; decide
  · rcases (show k = 0 ∨ k = 1 by omega) with rfl | rfl <;> decide
  · rcases (show k = 0 ∨ k = 1 ∨ k = 2 by omega) with rfl | rfl | rfl <;> decide
theorem no_bit {k : Nat} (hk : k < 3) : bitM 0 k = bit 0 k := bM_gen 0 k hk
theorem no_fr {k : Nat} (hk : k < 3) : decide (¬ (0 : Int32) = 0) = bit 0 k := by
  rcases (show k = 0 ∨ k = 1 ∨ k = 2 by omega) with rfl | rfl | rfl <;> decide
abbrev RTM : List Nat := [72, 73, 74, 75, 76]
abbrev FTM : List Nat := [15, 16, 17, 18, 19, 21, 22, 23, 28, 29, 30]
theorem th_bg {I I1 I' : Is} (hN : NM I) (hF : FrM RTM FTM I I1) (hq : EqV (gvM I') (bgF (gvT I1)) ∧ I' 64 28 = 1 <<< (I1 64 6 &&& 31) - 1 ∧ I' 64 29 = 0 ∧ I' 64 30 = 0 ∧ FrM [73, 74, 75] [21, 22, 23, 28, 29, 30] I1 I') : TH I I' (bit 7) (bit 0) (bit 0) (bgF (gvT I)) := by
  obtain ⟨h1, h2, h3, h4, h5⟩ := hq
  have hg : gvT I1 = gvT I := by
    unfold gvT
    rw [hF.2 7 (by decide), hF.2 8 (by decide), hF.2 9 (by decide), hF.1 69 (by decide) (by decide), hF.1 81 (by decide) (by decide), hF.1 82 (by decide) (by decide), hF.1 83 (by decide) (by decide)]
  rw [hg] at h1
  refine ⟨hF.tr h5 (by decide) (by decide) (by decide) (by decide), h1, fun k hk => ?_⟩
  have e := ix_nn hN.1.1
  have h3' := hN.1.2.1
  rw [hF.2 6 (by decide)] at h2
  refine ⟨?_, ?_, ?_⟩
  · unfold ptM
    rw [h2, show I 64 6 = nI (ix (I 64 6)) from Int32.toInt_inj.mp (by rw [nIint (by omega)]; omega)]
    exact all_bit (by omega) hk
  · unfold frM
    rw [h3]
    exact no_fr (by omega)
  · unfold hcM
    rw [h4]
    exact no_bit (by omega)
theorem th_sec {I I1 I' : Is} {pt fr hc : Nat → Bool} {v : GV} (hN : NM I) (hT : TH I I1 pt fr hc v) (hq : gvM I' = secF (enM I1) (ptM I1) (frM I1) (hcM I1) (gvM I1) ∧ FrM [72, 73, 74, 75, 76] [15, 16, 17, 18, 19, 21, 22, 23] I1 I') : TH I I' pt fr hc (secF (enM I) pt fr hc v) := by
  obtain ⟨h1, h2⟩ := hq
  rw [hT.en] at h1
  have he := (enM_ok hN).1
  refine ⟨hT.1.tr h2 (by decide) (by decide) (by decide) (by decide), ?_, fun k hk => ?_⟩
  · rw [h1, secF_pt (pt' := pt) (fr' := fr) (hc' := hc) _ (fun k hk => ⟨(hT.2.2 k hk).1, fun _ => (hT.2.2 k hk).2.1, (hT.2.2 k hk).2.2⟩)]
    exact secF_eqv he hT.2.1
  · have h3 := hT.2.2 k hk
    unfold ptM frM hcM at h3 ⊢
    rw [h2.2 28 (by decide), h2.2 29 (by decide), h2.2 30 (by decide)]
    exact h3
set_option maxRecDepth 100000 in
set_option maxHeartbeats 400000 in
theorem sX10_goes {g : Gb} {d : Nat} (hd : 83 ≤ d) (m : Nat) (n : Int32) (hm : n.toInt = (m : Int)) (I I1 : Is) (J : Js) (b : Bool) {pt fr hc : Nat → Bool} {v : GV} (hN : NM I) (hv : VOk v) (hT : TH I I1 pt fr hc v) : MC9 g d mX10_goes [.ref 64, .int n] I1 J b (Qv J b (fun I' => TH I I' pt fr hc (goF (enM I) pt fr hc m v))) := by
  have hm9 := i32_rng n
  refine ent9 (own := RX10) rfl rfl rfl (fun X hg hx C Z => ?_)
  subst hg
  have loop : ∀ (q i : Nat) (x : Int32) (I' : Is), q + i = m → x.toInt = (i : Int) → TH I I' pt fr hc (goF (enM I) pt fr hc i v) → Aw X 2 [some (.ref 64), some (.int n), some (.int x)] [] (st9 I' J b) := by
    intro q
    induction q with
    | zero =>
      intro i x I' hq hxi hT'
      rw [show i = m by omega] at hT'
      refine r_iload_n C dX10_goes_2 rfl ?_
      refine r_iload_n C dX10_goes_3 rfl ?_
      refine b_icge C (tgt := 17) rfl rfl dX10_goes_4 rfl (fun h4_1 => ?_) (fun h4_1 => ?_)
      · exact rv C Z dX10_goes_17 hT'
      · exfalso; omega
    | succ q ih =>
      intro i x I' hq hxi hT'
      refine r_iload_n C dX10_goes_2 rfl ?_
      refine r_iload_n C dX10_goes_3 rfl ?_
      refine b_icge C (tgt := 17) rfl rfl dX10_goes_4 rfl (fun h4_1 => ?_) (fun h4_1 => ?_)
      · exfalso; omega
      · refine r_aload_n C dX10_goes_7 rfl ?_
        refine cV (ci := 10) C hx (sX10_secondGoes (d := d - 1) (by omega) I' J b (hT'.nm hN) (VOk.eqv hT'.2.1 (go_ok (enM_ok hN) hv i))) moX10_secondGoes mlX10_253 miX10_secondGoes msX10_secondGoes dX10_goes_8 rfl rfl rfl rfl rfl (by omega) rfl rfl (kv (fun I_8_2 q_8_2 => ?_))
        have hT2 := th_sec hN hT' q_8_2
        refine r_iinc C (v := 1) dX10_goes_11 rfl (by decide) rfl ?_
        refine r_goto C (tgt := 2) dX10_goes_14 rfl ?_
        exact ih (i + 1) _ _ (by omega) (by rw [tI_add (by rw [one_int]; omega) (by rw [one_int]; omega), one_int]; omega) hT2
  refine r_iconst C (v := 0) dX10_goes_0 (by decide) ?_
  refine r_istore_n C dX10_goes_1 rfl rfl ?_
  exact loop m 0 0 I1 rfl rfl hT
