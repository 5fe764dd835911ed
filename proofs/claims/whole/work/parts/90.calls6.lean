theorem c_feed {I IA IB : Is} {J : Js} {b : Bool} {c : Int32} {v1 v2 : Int32} (hR : Rel I J b) (q1 : (v1 = (fdF I c).1 ∧ IA = (fdF I c).2)) (q2 : (v2 = (feM IA c).1 ∧ IB = (feM IA c).2)) : v2 = v1 ∧ Rel IB J b := by
  have hR0 := hR
  obtain ⟨hA, hB, hC, hD, hE, hF⟩ := hR
  obtain ⟨hv, hI⟩ := q1
  obtain ⟨hv2, hI2⟩ := q2
  obtain ⟨a1, a2, a3, a4, a5, a6, a7, a8⟩ := hA
  unfold fdF at hv hI
  unfold feM at hv2 hI2
  by_cases c1 : inR c 255
  · rw [if_neg (show ¬ (c.toInt < 0 ∨ 255 < c.toInt) by have := c1.1; have := c1.2; omega)] at hv hI
    rw [if_neg (fun z : ¬ inR c 255 => z c1)] at hv2 hI2
    have z120 : (120 : Int32).toInt = 120 := rfl
    by_cases c2 : 120 ≤ (I 3 1).toInt
    · rw [if_pos c2] at hv hI
      have hI : IA = I := hI
      rw [hI, if_pos (show I 64 12 = 120 from Int32.toInt_inj.mp (by rw [a4, z120]; omega))] at hv2 hI2
      exact ⟨hv2.trans hv.symm, by rw [hI2]; exact hR0⟩
    · rw [if_neg c2] at hv hI
      have hI : IA = u2 (u2 I 4 (ix (I 3 1)) c) 3 1 (I 3 1 + 1) := hI
      have rA : ∀ k, k ≠ 3 → k ≠ 4 → IA k = I k := fun k h3 h4 => by rw [hI, u2_row h3, u2_row h4]
      have e12 : IA 64 12 = I 3 1 := by rw [rA 64 (by decide) (by decide)]; exact a4
      rw [e12, if_neg (fun z => c2 (by rw [z, z120]; exact Int.le_refl _))] at hv2 hI2
      have hI2 : IB = u2 (u2 IA 70 (ix (I 3 1)) c) 64 12 (I 3 1 + 1) := hI2
      have hFF : FrM [3, 4, 70] [12] I IB := by rw [hI2, hI]; exact (((FrM.rf.st (by decide) (by decide)).st (by decide) (by decide)).st (by decide) (by decide)).sf (by decide)
      have e31 : IB 3 1 = I 3 1 + 1 := by rw [hI2, u2_row (t := 64) (t' := 3) (by decide), u2_row (t := 70) (t' := 3) (by decide), hI, u2_same]
      have ei : (I 3 1 + 1).toInt = (I 3 1).toInt + 1 := by rw [tI_add (by rw [one_int]; omega) (by rw [one_int]; omega), one_int]
      have et : ∀ i, i < 4 → IB (tbL b + i) = I (tbL b + i) := fun i hi => by
        have ht := tbL_lt b
        exact hFF.1 _ (by omega) (by simp; omega)
      have et0 := et 0 (by decide)
      rw [Nat.add_zero] at et0
      refine ⟨hv2.trans hv.symm, ⟨?_, ?_, ?_, ?_, ?_, ?_, ?_, ?_⟩, hB.fm hFF (by decide) (by decide), hC.fm hFF (by decide) (by decide), hD.fm hFF (by decide) (by decide), hE.fm hFF (by decide) (by decide), hF.fm hFF (by decide)⟩
      · rw [hFF.2 6 (by decide), hFF.1 1 (by decide) (by decide)]; exact a1
      · rw [hFF.1 65 (by decide) (by decide), hFF.1 2 (by decide) (by decide)]; exact a2
      · rw [hFF.1 1 (by decide) (by decide), hFF.1 2 (by decide) (by decide)]; exact a3
      · rw [e31, hI2, u2_same]
      · rw [e31, ei]; omega
      · funext k
        rw [hI2, u2_row (t := 64) (t' := 70) (by decide), u2_row (t := 64) (t' := 4) (by decide), u2_row (t := 70) (t' := 4) (by decide), hI, u2_row (t := 3) (t' := 4) (by decide)]
        by_cases e : k = ix (I 3 1)
        · rw [e, u2_same, u2_same]
        · rw [u2_ne _ _ _ _ (Or.inr e), u2_ne _ _ _ _ (Or.inr e), u2_row (t := 3) (t' := 70) (by decide), u2_row (t := 4) (t' := 70) (by decide), a6]
      · unfold TW; rw [et0, et 2 (by decide)]; exact a7
      · rw [et0, et 1 (by decide), et 2 (by decide), et 3 (by decide), hFF.1 71 (by decide) (by decide), hFF.2 14 (by decide)]; exact a8
  · rw [if_pos (show c.toInt < 0 ∨ 255 < c.toInt from Decidable.byContradiction (fun z => c1 ⟨by omega, by omega⟩))] at hv hI
    rw [if_pos c1] at hv2 hI2
    exact ⟨hv2.trans hv.symm, by rw [hI2, hI]; exact hR0⟩
theorem RlF.up {I I' : Is} {J : Js} {l f : List Nat} (h : RlF I J) (s : FrM l f I I') (d1 : ∀ c ∈ ([52, 54, 56, 58, 60, 62, 87, 88] : List Nat), c ∉ l) (hb : (I 48 0).toInt ≤ (I' 48 0).toInt) : RlF I' J := by
  intro d hd
  have hm : 52 + 2 * d ∈ ([52, 54, 56, 58, 60, 62, 87, 88] : List Nat) := by
    rcases (show d = 0 ∨ d = 1 ∨ d = 2 ∨ d = 3 ∨ d = 4 ∨ d = 5 by omega) with rfl | rfl | rfl | rfl | rfl | rfl <;> decide
  obtain ⟨f1, f2, f3, f4⟩ := h d hd
  rw [s.1 (52 + 2 * d) (by omega) (d1 _ hm), s.1 87 (by decide) (d1 87 (by decide)), s.1 88 (by decide) (d1 88 (by decide))]
  refine ⟨f1, f2, f3, ?_⟩
  rcases f4 with g | ⟨g1, g2⟩ | g
  · exact Or.inl g
  · exact Or.inr (Or.inl ⟨⟨g1.1, by omega⟩, g2⟩)
  · exact Or.inr (Or.inr g)
theorem c_body {I IA IB : Is} {J : Js} {b : Bool} {kd : Int32} {v1 v2 : Int32} (hR : Rel I J b) (q1 : (v1 = (bdF I kd).1 ∧ IA = (bdF I kd).2)) (q2 : (v2 = (boM IA kd).1 ∧ IB = (boM IA kd).2)) : v2 = v1 ∧ Rel IB J b := by
  have hR0 := hR
  obtain ⟨hA, hB, hC, hD, hE, hF⟩ := hR
  obtain ⟨hv, hI⟩ := q1
  obtain ⟨hv2, hI2⟩ := q2
  obtain ⟨a1, a2, a3, a4, a5, a6, a7⟩ := hE
  have z50 : (50 : Int32).toInt = 50 := rfl
  unfold bdF at hv hI
  unfold boM at hv2 hI2
  by_cases c1 : inR kd 7
  · rw [if_pos (show 0 ≤ kd.toInt ∧ kd.toInt ≤ (7 : Int32).toInt from c1)] at hv hI
    rw [if_pos c1] at hv2 hI2
    by_cases c2 : 50 ≤ (I 48 0).toInt
    · rw [if_pos c2] at hv hI
      have hI : IA = I := hI
      rw [hI, if_pos (show I 64 43 = 50 from Int32.toInt_inj.mp (by rw [a1, z50]; omega))] at hv2 hI2
      exact ⟨hv2.trans hv.symm, by rw [hI2]; exact hR0⟩
    · rw [if_neg c2] at hv hI
      have hI : IA = u2 (u2 I 49 (ix (I 48 0)) kd) 48 0 (I 48 0 + 1) := hI
      have e43 : IA 64 43 = I 48 0 := by rw [hI, u2_row (t := 48) (t' := 64) (by decide), u2_row (t := 49) (t' := 64) (by decide)]; exact a1
      rw [e43, if_neg (fun z => c2 (by rw [z, z50]; exact Int.le_refl _))] at hv2 hI2
      have hI2 : IB = u2 (u2 IA 85 (ix (I 48 0)) kd) 64 43 (I 48 0 + 1) := hI2
      have hFF : FrM [48, 49, 85] [43] I IB := by rw [hI2, hI]; exact (((FrM.rf.st (by decide) (by decide)).st (by decide) (by decide)).st (by decide) (by decide)).sf (by decide)
      have e48 : IB 48 = IA 48 := by rw [hI2, u2_row (t := 64) (t' := 48) (by decide), u2_row (t := 85) (t' := 48) (by decide)]
      have e480 : IB 48 0 = I 48 0 + 1 := by rw [e48, hI, u2_same]
      have e481 : IB 48 1 = I 48 1 := by rw [e48, hI, u2_ne _ _ _ _ (Or.inr (by decide)), u2_row (t := 49) (t' := 48) (by decide)]
      have e49 : ∀ k, IB 49 k = if k = ix (I 48 0) then kd else I 49 k := fun k => by
        rw [hI2, u2_row (t := 64) (t' := 49) (by decide), u2_row (t := 85) (t' := 49) (by decide), hI, u2_row (t := 48) (t' := 49) (by decide)]
        by_cases e : k = ix (I 48 0)
        · rw [if_pos e, e, u2_same]
        · rw [if_neg e, u2_ne _ _ _ _ (Or.inr e)]
      have ei : (I 48 0 + 1).toInt = (I 48 0).toInt + 1 := by rw [tI_add (by rw [one_int]; omega) (by rw [one_int]; omega), one_int]
      refine ⟨hv2.trans hv.symm, hA.fm hFF (by decide) (by decide), hB.fm hFF (by decide) (by decide), hC.fm hFF (by decide) (by decide), hD.fm hFF (by decide) (by decide), ⟨?_, ?_, ?_, ?_, ?_, ?_, ?_⟩, hF.up hFF (by decide) (by rw [e480, ei]; omega)⟩
      · rw [e480, hI2, u2_same]
      · rw [e480, ei]; omega
      · funext k
        rw [e49 k, hI2, u2_row (t := 64) (t' := 85) (by decide)]
        by_cases e : k = ix (I 48 0)
        · rw [if_pos e, e, u2_same]
        · rw [if_neg e, u2_ne _ _ _ _ (Or.inr e), hI, u2_row (t := 48) (t' := 85) (by decide), u2_row (t := 49) (t' := 85) (by decide), a3]
      · intro q
        rw [e49 q]
        by_cases e : q = ix (I 48 0)
        · rw [if_pos e]; exact c1
        · rw [if_neg e]; exact a4 q
      · rw [hFF.2 46 (by decide), e481]; exact a5
      · rw [e481]; exact a6
      · rw [hFF.1 86 (by decide) (by decide), hFF.1 50 (by decide) (by decide)]; exact a7
  · rw [if_neg (show ¬ (0 ≤ kd.toInt ∧ kd.toInt ≤ (7 : Int32).toInt) from c1)] at hv hI
    rw [if_neg c1] at hv2 hI2
    exact ⟨hv2.trans hv.symm, by rw [hI2, hI]; exact hR0⟩
