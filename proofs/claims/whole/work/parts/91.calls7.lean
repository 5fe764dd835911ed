theorem c_image {I IX IA IB : Is} {J : Js} {b : Bool} {v1 v2 : Int32} (hR : Rel I J b) (q1 : v1 = IX 16 0 ∧ IA = u2 IX 0 9 1 ∧ (EqV (gv IX 22) (gv I 16) ∧ IX 22 3 = I 16 3 ∧ IX 22 4 = I 16 4 ∧ Fr [22, 23, 24, 25, 26] I IX)) (q2 : v2 = IA 64 7 ∧ ((∀ k, k < 3 → IB 84 (4 * k) = IA 69 k ∧ IB 84 (4 * k + 1) = IA 81 k ∧ IB 84 (4 * k + 2) = IA 82 k ∧ IB 84 (4 * k + 3) = IA 83 k) ∧ (IB 84 12 = IA 64 7 ∧ IB 84 13 = IA 64 8 ∧ IB 84 14 = IA 64 9 ∧ IB 84 15 = IA 64 38 ∧ IB 84 16 = IA 64 39) ∧ IB 64 40 = 1 ∧ IB 64 41 = IA 64 6 ∧ FrM [84] [40, 41] IA IB)) : v2 = v1 ∧ Rel IB J b := by
  obtain ⟨hA, hB, hC, hD, hE, hF⟩ := hR
  have hB0 := hB
  obtain ⟨g, l1, l2, vo, ps, gz⟩ := hB
  obtain ⟨hv, hI, x1, x2, x3, hF1⟩ := q1
  obtain ⟨hv2, y1, ⟨y2, y3, y4, y5, y6⟩, y7, y8, hF2⟩ := q2
  have hFA : FrM [0, 22, 23, 24, 25, 26] [] I IA := by rw [hI]; exact ((hF1.fm (by decide)).mo (by decide) (by decide)).st (by decide) (by decide)
  have h64 : ∀ k, IA 64 k = I 64 k := fun k => hFA.2 k (by simp)
  have hFF : FrM [0, 22, 23, 24, 25, 26, 84] [40, 41] I IB := hFA.tr hF2 (by decide) (by decide) (by decide) (by decide)
  have rB : ∀ c, c ∈ [22, 23, 24, 25, 26] → IB c = IX c := fun c hc => by
    have hn : c ∉ [84] := by revert hc; revert c; decide
    have h0 : c ≠ 0 := fun e => by rw [e] at hc; exact absurd hc (by decide)
    rw [hF2.1 c (by intro e; rw [e] at hc; exact absurd hc (by decide)) hn, hI, u2_row h0]
  have b09 : IB 0 9 = 1 := by rw [hF2.1 0 (by decide) (by decide), hI, u2_same]
  have r1 : IB 1 = I 1 := hFF.1 1 (by decide) (by decide)
  have gq : EqV (gv IB 22) (gv I 16) := by
    have e : gv IB 22 = gv IX 22 := by
      unfold gv
      rw [rB 22 (by decide), rB (22 + 1) (by decide), rB (22 + 2) (by decide), rB (22 + 3) (by decide), rB (22 + 4) (by decide)]
    rw [e]; exact x1
  have s6 : IB 64 41 = I 1 1 := by rw [y8, h64]; exact hA.1
  have q := g.tr gq.sy
  refine ⟨?_, hA.fm hFF (by decide) (by decide), hB0.fm hFF (by decide) (by decide), Or.inr ⟨?_, ?_, ?_, ?_, ?_, ⟨?_, ?_, ?_, ?_, ?_⟩, ?_, ?_⟩, hD.fm hFF (by decide) (by decide), hE.fm hFF (by decide) (by decide), hF.fm hFF (by decide)⟩
  · rw [hv2, hv, h64, hF1 16 (by decide)]; exact g.1
  · rw [b09]; decide
  · rw [y7]; decide
  · rw [s6, r1]; exact ⟨hA.2.2.1.1, Int.le_refl _⟩
  · intro k hk
    obtain ⟨z1, z2, z3, z4⟩ := y1 k hk
    rw [z1, z2, z3, z4, hFA.1 69 (by decide) (by decide), hFA.1 81 (by decide) (by decide), hFA.1 82 (by decide) (by decide), hFA.1 83 (by decide) (by decide)]
    exact ⟨q.2.2.2.1 k hk, q.2.2.2.2.1 k hk, q.2.2.2.2.2.1 k hk, q.2.2.2.2.2.2 k hk⟩
  · intro k hk1 hk
    rw [s6] at hk1
    obtain ⟨z1, z2, z3, z4⟩ := gz k hk1 hk
    exact ⟨(gq.2.2.2.1 k hk).trans z1, (gq.2.2.2.2.1 k hk).trans z2, (gq.2.2.2.2.2.1 k hk).trans z3, (gq.2.2.2.2.2.2 k hk).trans z4⟩
  · rw [y2, h64]; exact q.1
  · rw [y3, h64]; exact q.2.1
  · rw [y4, h64]; exact q.2.2.1
  · rw [y5, h64, rB 22 (by decide), x2]; exact l1
  · rw [y6, h64, rB 22 (by decide), x3]; exact l2
  · exact VOk.eqv gq vo
  · have e : IB 22 2 = I 16 2 := gq.2.2.1
    rw [e]; exact ps
theorem c_back {I IA IB : Is} {J : Js} {b : Bool}  {v1 v2 : Int32} (hR : Rel I J b) (q1 : (I 0 9 = 0 ∧ v1 = -5 ∧ IA = I) ∨ (¬ I 0 9 = 0 ∧ v1 = IA 16 0 ∧ (EqV (gv IA 16) (gv I 22) ∧ IA 16 3 = I 22 3 ∧ IA 16 4 = I 22 4 ∧ Fr [16, 17, 18, 19, 20] I IA))) (q2 : (IA 64 40 = 0 ∧ v2 = -5 ∧ IB = IA) ∨ (¬ IA 64 40 = 0 ∧ v2 = IA 84 12 ∧ ((∀ k : Nat, k < 3 → IB 69 k = (if (k : Int) < (IA 64 41).toInt then IA 84 (4 * k) else 0) ∧ IB 81 k = (if (k : Int) < (IA 64 41).toInt then IA 84 (4 * k + 1) else 0) ∧ IB 82 k = (if (k : Int) < (IA 64 41).toInt then IA 84 (4 * k + 2) else 0) ∧ IB 83 k = (if (k : Int) < (IA 64 41).toInt then IA 84 (4 * k + 3) else 0)) ∧ (IB 64 7 = IA 84 12 ∧ IB 64 8 = IA 84 13 ∧ IB 64 9 = IA 84 14 ∧ IB 64 38 = IA 84 15 ∧ IB 64 39 = IA 84 16) ∧ FrM [69, 81, 82, 83] [7, 8, 9, 38, 39] IA IB))) : v2 = v1 ∧ Rel IB J b := by
  have hR0 := hR
  obtain ⟨hA, hB, hC, hD, hE, hF⟩ := hR
  have hC0 := hC
  rcases hC with ⟨i0, i1⟩ | ⟨i0, i1, i2, i3, i4, ⟨m0, m1, m2, m3, m4⟩, i6, i7⟩
  · rcases q1 with ⟨c1, hv, hI⟩ | ⟨c1, -⟩
    · rw [hI] at q2
      rcases q2 with ⟨d, hv2, hI2⟩ | ⟨d, -⟩
      · exact ⟨hv2.trans hv.symm, by rw [hI2]; exact hR0⟩
      · exact absurd i1 d
    · exact absurd i0 c1
  · rcases q1 with ⟨c1, -⟩ | ⟨-, hv, x1, x2, x3, hF1⟩
    · exact absurd c1 i0
    have h64 : ∀ k, IA 64 k = I 64 k := fun k => congrFun (hF1 64 (by decide)) k
    have e84 : IA 84 = I 84 := hF1 84 (by decide)
    rw [h64, h64, e84] at q2
    rcases q2 with ⟨d, -⟩ | ⟨-, hv2, y1, ⟨y2, y3, y4, y5, y6⟩, hF2⟩
    · exact absurd d i1
    have hFF : FrM [16, 17, 18, 19, 20, 69, 81, 82, 83] [7, 8, 9, 38, 39] I IB := (hF1.fm (by decide)).tr hF2 (by decide) (by decide) (by decide) (by decide)
    have rB : ∀ c, c ∈ [16, 17, 18, 19, 20] → IB c = IA c := fun c hc => hF2.1 c (by intro e; rw [e] at hc; exact absurd hc (by decide)) (by revert hc; revert c; decide)
    have gB : EqV (gv IB 16) (gv I 22) := by
      have e : gv IB 16 = gv IA 16 := by
        unfold gv
        rw [rB 16 (by decide), rB (16 + 1) (by decide), rB (16 + 2) (by decide), rB (16 + 3) (by decide), rB (16 + 4) (by decide)]
      rw [e]; exact x1
    have r1 : IB 1 = I 1 := hFF.1 1 (by decide) (by decide)
    have hrow : ∀ k : Nat, k < 3 → IB 69 k = I 23 k ∧ IB 81 k = I 24 k ∧ IB 82 k = I 25 k ∧ IB 83 k = I 26 k := fun k hk => by
      obtain ⟨z1, z2, z3, z4⟩ := y1 k hk
      by_cases c : (k : Int) < (I 64 41).toInt
      · rw [if_pos c] at z1 z2 z3 z4
        obtain ⟨w1, w2, w3, w4⟩ := i3 k hk
        exact ⟨z1.trans w1, z2.trans w2, z3.trans w3, z4.trans w4⟩
      · rw [if_neg c] at z1 z2 z3 z4
        obtain ⟨w1, w2, w3, w4⟩ := i4 k (by omega) hk
        exact ⟨z1.trans w1.symm, z2.trans w2.symm, z3.trans w3.symm, z4.trans w4.symm⟩
    have hq : EqV (gvT IB) (gv I 22) := ⟨y2.trans m0, y3.trans m1, y4.trans m2, fun k hk => (hrow k hk).1, fun k hk => (hrow k hk).2.1, fun k hk => (hrow k hk).2.2.1, fun k hk => (hrow k hk).2.2.2⟩
    refine ⟨?_, hA.fm hFF (by decide) (by decide), ⟨hq.tr gB.sy, ?_, ?_, VOk.eqv gB i6, ?_, ?_⟩, hC0.fm hFF (by decide) (by decide), hD.fm hFF (by decide) (by decide), hE.fm hFF (by decide) (by decide), hF.fm hFF (by decide)⟩
    · rw [hv2, hv, m0]; exact x1.1.symm
    · rw [y5, m3, rB 16 (by decide), x2]
    · rw [y6, m4, rB 16 (by decide), x3]
    · have e : IB 16 2 = I 22 2 := gB.2.2.1
      rw [e]; exact i7
    · intro k hk1 hk
      rw [r1] at hk1
      obtain ⟨w1, w2, w3, w4⟩ := i4 k (by omega) hk
      exact ⟨(gB.2.2.2.1 k hk).trans w1, (gB.2.2.2.2.1 k hk).trans w2, (gB.2.2.2.2.2.1 k hk).trans w3, (gB.2.2.2.2.2.2 k hk).trans w4⟩
theorem sh_ne {k : Int32} {d : Nat} (hd : d < 6) (hk : inR k 5) (h : d ≠ ix k) : 52 + 2 * d ≠ shT k := by
  unfold shT
  omega
theorem c_keep {I IA IB : Is} {J : Js} {b : Bool} {k : Int32} {x : Int32} {v1 v2 : Int32} (hR : Rel I J b) (q1 : (¬ (inR k 5 ∧ (x = -1 ∨ inB I x)) ∧ v1 = -1 ∧ IA = I) ∨ ((inR k 5 ∧ (x = -1 ∨ inB I x)) ∧ v1 = 1 ∧ IA = if x = -1 then u2 (u2 I (shT k) 0 (-2)) (shT k) 1 0 else u2 (u2 (u2 I (shT k) 0 (-1)) (shT k) 1 0) (shT k) 2 x)) (q2 : (¬ (inR k 5 ∧ (x = -1 ∨ (0 ≤ x.toInt ∧ x.toInt < (IA 64 43).toInt))) ∧ v2 = -1 ∧ IB = IA) ∨ ((inR k 5 ∧ (x = -1 ∨ (0 ≤ x.toInt ∧ x.toInt < (IA 64 43).toInt))) ∧ v2 = 1 ∧ IB = u2 (u2 IA 87 (ix k) x) 88 (ix k) 0)) : v2 = v1 ∧ Rel IB J b := by
  have hR0 := hR
  obtain ⟨hA, hB, hC, hD, hE, hF⟩ := hR
  have e43 := hE.1
  rcases q1 with ⟨c1, hv, hI⟩ | ⟨c1, hv, hI⟩
  · rw [hI, e43] at q2
    rcases q2 with ⟨d, hv2, hI2⟩ | ⟨d, -⟩
    · exact ⟨hv2.trans hv.symm, by rw [hI2]; exact hR0⟩
    · exact absurd d c1
  · have hk := c1.1
    have hd6 : ix k < 6 := by
      have h1 := ix_nn hk.1
      have h2 : k.toInt ≤ 5 := hk.2
      omega
    have ht : 52 ≤ shT k ∧ shT k < 64 := by unfold shT; omega
    have hFA : FrM [shT k] [] I IA := by
      rw [hI]
      by_cases c : x = -1
      · rw [if_pos c]; exact (FrM.rf.st (by simp) (by omega)).st (by simp) (by omega)
      · rw [if_neg c]; exact ((FrM.rf.st (by simp) (by omega)).st (by simp) (by omega)).st (by simp) (by omega)
    have h43 : IA 64 43 = I 48 0 := (hFA.2 43 (by simp)).trans e43
    rw [h43] at q2
    rcases q2 with ⟨d, -⟩ | ⟨-, hv2, hI2⟩
    · exact absurd c1 d
    have hFF : FrM [shT k, 87, 88] [] I IB := by rw [hI2]; exact ((hFA.mo (by simp) (by simp)).st (by simp) (by decide)).st (by simp) (by decide)
    have hno : ∀ c, c < 52 → c ∉ [shT k, 87, 88] := fun c hc => by simp; omega
    have hno2 : ∀ c, 63 < c → c ≠ 87 → c ≠ 88 → c ∉ [shT k, 87, 88] := fun c hc h1 h2 => by simp; omega
    have nn : ∀ c, c ∈ ([0, 1, 2, 3, 4, 5, 6, 7, 8, 10, 11, 12, 13, 16, 17, 18, 19, 20, 22, 23, 24, 25, 26, 44, 45, 46, 47, 48, 49, 50, 65, 66, 67, 68, 69, 70, 71, 81, 82, 83, 84, 85, 86] : List Nat) → c ∉ [shT k, 87, 88] := fun c hc => by
      by_cases e : c < 52
      · exact hno c e
      · refine hno2 c ?_ ?_ ?_
        · simp at hc; omega
        · intro z; rw [z] at hc; exact absurd hc (by decide)
        · intro z; rw [z] at hc; exact absurd hc (by decide)
    refine ⟨hv2.trans hv.symm, hA.fm hFF (fun c hc => nn c (by revert hc; revert c; decide)) (by decide), hB.fm hFF (fun c hc => nn c (by revert hc; revert c; decide)) (by decide), hC.fm hFF (fun c hc => nn c (by revert hc; revert c; decide)) (by decide), hD.fm hFF (fun c hc => nn c (by revert hc; revert c; decide)) (by decide), hE.fm hFF (fun c hc => nn c (by revert hc; revert c; decide)) (by decide), ?_⟩
    intro d hd
    obtain ⟨f1, f2, f3, f4⟩ := hF d hd
    have e48 : IB 48 = I 48 := hFF.1 48 (by decide) (nn 48 (by decide))
    have e87 : ∀ q, IB 87 q = if q = ix k then x else I 87 q := fun q => by
      rw [hI2, u2_row (t := 88) (t' := 87) (by decide)]
      by_cases e : q = ix k
      · rw [if_pos e, e, u2_same]
      · rw [if_neg e, u2_ne _ _ _ _ (Or.inr e), hFA.1 87 (by decide) (by simp; omega)]
    have e88 : ∀ q, IB 88 q = if q = ix k then 0 else I 88 q := fun q => by
      rw [hI2]
      by_cases e : q = ix k
      · rw [if_pos e, e, u2_same]
      · rw [if_neg e, u2_ne _ _ _ _ (Or.inr e), u2_row (t := 87) (t' := 88) (by decide), hFA.1 88 (by decide) (by simp; omega)]
    have eT : ∀ c, c < 64 → IB c = IA c := fun c hc => by rw [hI2, u2_row (by omega), u2_row (by omega)]
    rw [e87, e88, e48]
    by_cases e : d = ix k
    · subst e
      rw [if_pos rfl, if_pos rfl]
      have et : 52 + 2 * ix k = shT k := rfl
      rw [et, eT (shT k) ht.2, hI]
      refine ⟨?_, by decide, f3, ?_⟩
      · by_cases c : x = -1
        · rw [if_pos c, u2_same]
        · rw [if_neg c, u2_ne _ _ _ _ (Or.inr (by decide)), u2_same]
      · by_cases c : x = -1
        · rw [if_pos c]
          refine Or.inl ⟨c, ?_⟩
          rw [u2_ne _ _ _ _ (Or.inr (by decide)), u2_same]
        · rw [if_neg c]
          refine Or.inr (Or.inl ⟨c1.2.resolve_left c, ?_, u2_same ..⟩)
          rw [u2_ne _ _ _ _ (Or.inr (by decide)), u2_ne _ _ _ _ (Or.inr (by decide)), u2_same]
    · rw [if_neg e, if_neg e]
      have et : IB (52 + 2 * d) = I (52 + 2 * d) := by
        rw [eT _ (by omega)]
        exact hFA.1 _ (by omega) (by simp; exact sh_ne hd hk e)
      rw [et]
      exact ⟨f1, f2, f3, f4⟩
