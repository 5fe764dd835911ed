theorem c_fill {I IA IB : Is} {J : Js} {b : Bool} {v : Int32} {v1 v2 : Int32} (hR : Rel I J b) (q1 : (¬ inR v 999 ∧ v1 = -1 ∧ IA = I) ∨ (inR v 999 ∧ v1 = I 16 0 ∧ (IA 16 0 = v ∧ IA 16 1 = I 16 1 ∧ IA 16 2 = 0 ∧ IA 16 3 = I 16 3 ∧ IA 16 4 = I 16 4 + 1 ∧ (∀ k, k < 3 → IA 17 k = 0) ∧ Fr [16, 17] I IA))) (q2 : (¬ inR v 999 ∧ v2 = -1 ∧ IB = IA) ∨ (inR v 999 ∧ v2 = IA 64 7 ∧ (IB 64 7 = v ∧ IB 64 9 = 0 ∧ (∀ k, k < 3 → IB 69 k = 0) ∧ IB 64 39 = IA 64 39 + 1 ∧ FrM [69] [7, 9, 39] IA IB))) : v2 = v1 ∧ Rel IB J b := by
  obtain ⟨hA, hB, hC, hD, hE, hF⟩ := hR
  have hB0 := hB
  obtain ⟨g, l1, l2, vo, ps, gz⟩ := hB
  rcases q1 with ⟨c1, hv, hI⟩ | ⟨c1, hv, a0, a1, a2, a3, a4, a5, hF1⟩
  · rcases q2 with ⟨d, hv2, hI2⟩ | ⟨d, -⟩
    · exact ⟨hv2.trans hv.symm, by rw [hI2, hI]; exact ⟨hA, hB0, hC, hD, hE, hF⟩⟩
    · exact absurd d c1
  · rcases q2 with ⟨d, -⟩ | ⟨-, hv2, b0, b1_, b2_, b3, hF2⟩
    · exact absurd c1 d
    have h64 : ∀ k, IA 64 k = I 64 k := fun k => congrFun (hF1 64 (by decide)) k
    have hFF : FrM [16, 17, 69] [7, 9, 39] I IB := (hF1.fm (by decide)).tr hF2 (by decide) (by decide) (by decide) (by decide)
    have e16 : IB 16 = IA 16 := hF2.1 16 (by decide) (by decide)
    have e17 : IB 17 = IA 17 := hF2.1 17 (by decide) (by decide)
    have r : ∀ c, c ≠ 64 → c ∉ [16, 17, 69] → IB c = I c := hFF.1
    refine ⟨by rw [hv2, hv, h64]; exact g.1, hA.fm hFF (by decide) (by decide), ?_, hC.fm hFF (by decide) (by decide), hD.fm hFF (by decide) (by decide), hE.fm hFF (by decide) (by decide), hF.fm hFF (by decide)⟩
    refine ⟨⟨?_, ?_, ?_, fun k hk => ?_, fun k hk => ?_, fun k hk => ?_, fun k hk => ?_⟩, ?_, ?_, ⟨?_, ?_⟩, ?_, ?_⟩
    · show IB 64 7 = IB 16 0; rw [b0, e16, a0]
    · show IB 64 8 = IB 16 1; rw [hFF.2 8 (by decide), e16, a1]; exact g.2.1
    · show IB 64 9 = IB 16 2; rw [b1_, e16, a2]
    · show IB 69 k = IB 17 k; rw [b2_ k hk, e17, a5 k hk]
    · show IB 81 k = IB 18 k; rw [r 81 (by decide) (by decide), r 18 (by decide) (by decide)]; exact g.2.2.2.2.1 k hk
    · show IB 82 k = IB 19 k; rw [r 82 (by decide) (by decide), r 19 (by decide) (by decide)]; exact g.2.2.2.2.2.1 k hk
    · show IB 83 k = IB 20 k; rw [r 83 (by decide) (by decide), r 20 (by decide) (by decide)]; exact g.2.2.2.2.2.2 k hk
    · rw [hFF.2 38 (by decide), e16, a3]; exact l1
    · rw [b3, h64, e16, a4, l2]
    · show 0 ≤ (IB 16 0).toInt ∧ (IB 16 0).toInt ≤ 999; rw [e16, a0]; exact c1
    · show 0 ≤ (IB 16 1).toInt ∧ (IB 16 1).toInt ≤ 99; rw [e16, a1]; exact vo.2
    · rw [e16, a2]; decide
    · intro k hk1 hk
      rw [r 1 (by decide) (by decide)] at hk1
      rw [e17, a5 k hk, r 18 (by decide) (by decide), r 19 (by decide) (by decide), r 20 (by decide) (by decide)]
      exact ⟨rfl, (gz k hk1 hk).2⟩
theorem c_second {I IX IA IB : Is} {J : Js} {b : Bool} {v1 v2 : Int32} (hR : Rel I J b) (q1 : (999 ≤ (I 16 2).toInt ∧ v1 = -5 ∧ IA = I) ∨ ((I 16 2).toInt < 999 ∧ gv IX 16 = secF (en I b) (bit 7) (bit 0) (bit 0) (gv I 16) ∧ IX 16 3 = I 16 3 ∧ IX 16 4 = I 16 4 ∧ Fr [16, 17, 18, 19, 20, 21, 14, 15] I IX ∧ v1 = IX 16 0 ∧ IA = u2 IX 16 3 (IX 16 3 + 1))) (q2 : (IA 64 9 = 999 ∧ v2 = -5 ∧ IB = IA) ∨ (¬ IA 64 9 = 999 ∧ (EqV (gvT IB) (secF (enM IA) (bit 7) (bit 0) (bit 0) (gvT IA)) ∧ IB 64 38 = IA 64 38 + 1 ∧ v2 = IB 64 7 ∧ FrM (69 :: 81 :: 82 :: 83 :: RTM) (7 :: 8 :: 9 :: 38 :: FTM) IA IB))) : v2 = v1 ∧ Rel IB J b := by
  have hR0 := hR
  obtain ⟨hA, hB, hC, hD, hE, hF⟩ := hR
  have hB0 := hB
  obtain ⟨g, l1, l2, vo, ps, gz⟩ := hB
  have g2 : I 64 9 = I 16 2 := g.2.2.1
  have z9 : (999 : Int32).toInt = 999 := rfl
  rcases q1 with ⟨c1, hv, hI⟩ | ⟨c1, hs, a3, a4, hF1, hv, hI⟩
  · rw [hI, g2] at q2
    rcases q2 with ⟨d, hv2, hI2⟩ | ⟨d, -⟩
    · exact ⟨hv2.trans hv.symm, by rw [hI2]; exact hR0⟩
    · exact absurd (Int32.toInt_inj.mp (by rw [z9]; omega)) d
  · have hFA : FrM [16, 17, 18, 19, 20, 21, 14, 15] [] I IA := by rw [hI]; exact (hF1.fm (by decide)).st (by decide) (by decide)
    have h64 : ∀ k, IA 64 k = I 64 k := fun k => hFA.2 k (by simp)
    rw [h64, g2] at q2
    rcases q2 with ⟨d, -⟩ | ⟨-, b0, b1_, hv2, hF2⟩
    · rw [d, z9] at c1; omega
    have enA : enM IA = en I b := (enM_fr hFA (by decide) (by decide) (by decide) (by decide)).trans (rel_en hA)
    have gtA : gvT IA = gvT I := gvT_fr hFA (by decide) (by decide) (by decide) (by decide) (by decide) (by decide) (by decide)
    rw [enA, gtA] at b0
    have he := en_ok (b := b) hA.2.2.1
    have hFF : FrM (16 :: 17 :: 18 :: 19 :: 20 :: 21 :: 14 :: 15 :: 69 :: 81 :: 82 :: 83 :: RTM) (7 :: 8 :: 9 :: 38 :: FTM) I IB := hFA.tr hF2 (by decide) (by decide) (by decide) (by decide)
    have e16 : IB 16 = IA 16 := hF2.1 16 (by decide) (by decide)
    have r16 : ∀ k, k ≠ 3 → IB 16 k = IX 16 k := fun k hk => by rw [e16, hI, u2_ne _ _ _ _ (Or.inr hk)]
    have rX : ∀ c, c ∈ [17, 18, 19, 20] → IB c = IX c := fun c hc => by
      have hn : c ∉ 69 :: 81 :: 82 :: 83 :: RTM := by revert hc; revert c; decide
      have h16 : c ≠ 16 := fun e => by rw [e] at hc; exact absurd hc (by decide)
      rw [hF2.1 c (by intro e; rw [e] at hc; exact absurd hc (by decide)) hn, hI, u2_row h16]
    have gB : gv IB 16 = gv IX 16 := by
      unfold gv
      rw [r16 0 (by decide), r16 1 (by decide), r16 2 (by decide), rX (16 + 1) (by decide), rX (16 + 2) (by decide), rX (16 + 3) (by decide), rX (16 + 4) (by decide)]
    have hq : EqV (gvT IB) (gv IB 16) := by
      rw [gB, hs]
      exact b0.tr (secF_eqv he.1 g)
    have hvo : VOk (gv IB 16) := by rw [gB, hs]; exact sec_ok he vo
    have r1 : IB 1 = I 1 := hFF.1 1 (by decide) (by decide)
    refine ⟨?_, hA.fm hFF (by decide) (by decide), ⟨hq, ?_, ?_, hvo, ?_, ?_⟩, hC.fm hFF (by decide) (by decide), hD.fm hFF (by decide) (by decide), hE.fm hFF (by decide) (by decide), hF.fm hFF (by decide)⟩
    · rw [hv2, hv]
      have e : IB 64 7 = IB 16 0 := hq.1
      rw [e, r16 0 (by decide)]
    · rw [b1_, h64, l1, e16, hI, u2_same, a3]
    · rw [hFF.2 39 (by decide), l2, r16 4 (by decide), a4]
    · have e : IB 16 2 = I 16 2 + 1 := by
        have e2 : (gv IB 16).2.2.1 = I 16 2 + 1 := by rw [gB, hs]; rfl
        exact e2
      rw [e, tI_add (by rw [one_int]; omega) (by rw [one_int]; omega), one_int]
      omega
    · intro k hk1 hk
      rw [r1] at hk1
      have hk2 : ¬ k < (en I b).1 := fun z => by
        have z' : k < ix (I 1 1) := z
        have := ix_nn hA.2.2.1.1
        omega
      obtain ⟨t1, t2, t3, t4⟩ := sec_out (e := en I b) (pt := bit 7) (fr := bit 0) (hc := bit 0) (gv I 16) hk2
      rw [← hs, ← gB] at t1 t2 t3 t4
      obtain ⟨z1, z2, z3, z4⟩ := gz k hk1 hk
      exact ⟨t1.trans z1, t2.trans z2, t3.trans z3, t4.trans z4⟩
