theorem c_redo {I IA IB : Is} {J : Js} {b : Bool}  {v1 v2 : Int32} (hR : Rel I J b) (q1 : (v1 = (redF I).1 ∧ IA = (redF I).2)) (q2 : (v2 = (reM IA).1 ∧ IB = (reM IA).2)) : v2 = v1 ∧ Rel IB J b := by
  have hR0 := hR
  obtain ⟨hA, hB, hC, hD, hE, hF⟩ := hR
  obtain ⟨hv, hI⟩ := q1
  obtain ⟨hv2, hI2⟩ := q2
  obtain ⟨d1, d2, ⟨d3, d4, d5⟩, d6, d7, d8, d9⟩ := hD
  obtain ⟨a1, a2, a3, a4, a5, a6, a7, a8⟩ := hA
  unfold redF at hv hI
  unfold reM at hv2 hI2
  by_cases c : (I 44 1).toInt < (I 44 0).toInt
  · rw [if_pos c] at hv hI
    have eq1 : (I 44 1 + 1).toInt = (I 44 1).toInt + 1 := by rw [tI_add (by rw [one_int]; omega) (by rw [one_int]; omega), one_int]
    have hI : IA = u2 (u2 I 2 (ix (I 45 (ix (I 44 1)))) (I 47 (ix (I 44 1)))) 44 1 (I 44 1 + 1) := hI
    have rA : ∀ k, k ≠ 44 → k ≠ 2 → IA k = I k := fun k h3 h4 => by rw [hI, u2_row h3, u2_row h4]
    have e5 : IA 64 5 = I 44 1 := by rw [rA 64 (by decide) (by decide)]; exact d1
    have e4 : IA 64 4 = I 44 0 := by rw [rA 64 (by decide) (by decide)]; exact d2
    have e66 : IA 66 = I 45 := (rA 66 (by decide) (by decide)).trans d6
    have e68 : IA 68 = I 47 := (rA 68 (by decide) (by decide)).trans d8
    rw [e5, e4, if_neg (fun z => by rw [z] at c; omega), e66, e68] at hv2 hI2
    have hI2 : IB = u2 (u2 IA 65 (ix (I 45 (ix (I 44 1)))) (I 47 (ix (I 44 1)))) 64 5 (I 44 1 + 1) := hI2
    have hFF : FrM [2, 44, 65] [5] I IB := by rw [hI2, hI]; exact (((FrM.rf.st (by decide) (by decide)).st (by decide) (by decide)).st (by decide) (by decide)).sf (by decide)
    have hqi := ix_nn d3
    obtain ⟨m, w, hp, hp0, hf⟩ := (d9 (ix (I 44 1)) (by omega)).2
    have b2_ : IB 2 = fun k => if k = ix (I 45 (ix (I 44 1))) then I 47 (ix (I 44 1)) else I 2 k := by
      rw [hI2, u2_row (t := 64) (t' := 2) (by decide), u2_row (t := 65) (t' := 2) (by decide), hI, u2_row (t := 44) (t' := 2) (by decide), u2_2]
    have b65 : IB 65 = IB 2 := by
      rw [b2_, hI2, u2_row (t := 64) (t' := 65) (by decide), u2_65, rA 65 (by decide) (by decide), a2]
    have b44 : ∀ k, IB 44 k = if k = 1 then I 44 1 + 1 else I 44 k := fun k => by
      rw [hI2, u2_row (t := 64) (t' := 44) (by decide), u2_row (t := 65) (t' := 44) (by decide), hI]
      by_cases e : k = 1
      · rw [if_pos e, e, u2_same]
      · rw [if_neg e, u2_ne _ _ _ _ (Or.inr e), u2_row (t := 2) (t' := 44) (by decide)]
    have b441 : IB 44 1 = I 44 1 + 1 := (b44 1).trans (if_pos rfl)
    have b440 : IB 44 0 = I 44 0 := (b44 0).trans (if_neg (by decide))
    have b645 : IB 64 5 = I 44 1 + 1 := by rw [hI2, u2_same]
    have r1 : IB 1 = I 1 := hFF.1 1 (by decide) (by decide)
    have et : ∀ i, i < 4 → IB (tbL b + i) = I (tbL b + i) := fun i hi => by
      have ht := tbL_lt b
      exact hFF.1 _ (by omega) (by simp; omega)
    have et0 := et 0 (by decide)
    rw [Nat.add_zero] at et0
    refine ⟨hv2.trans hv.symm, ⟨?_, b65, ?_, ?_, ?_, ?_, ?_, ?_⟩, hB.fm hFF (by decide) (by decide), hC.fm hFF (by decide) (by decide), ⟨?_, ?_, ?_, ?_, ?_, ?_, ?_⟩, hE.fm hFF (by decide) (by decide), hF.fm hFF (by decide)⟩
    · rw [hFF.2 6 (by decide), r1]; exact a1
    · rw [r1, b2_]; exact NW_fit a3 hp hp0 hf
    · rw [hFF.2 12 (by decide), hFF.1 3 (by decide) (by decide)]; exact a4
    · rw [hFF.1 3 (by decide) (by decide)]; exact a5
    · rw [hFF.1 70 (by decide) (by decide), hFF.1 4 (by decide) (by decide)]; exact a6
    · unfold TW; rw [et0, et 2 (by decide)]; exact a7
    · rw [et0, et 1 (by decide), et 2 (by decide), et 3 (by decide), hFF.1 71 (by decide) (by decide), hFF.2 14 (by decide)]; exact a8
    · rw [b645, b441]
    · rw [hFF.2 4 (by decide), b440]; exact d2
    · rw [b441, b440]; exact ⟨by omega, by omega, d5⟩
    · rw [hFF.1 66 (by decide) (by decide), hFF.1 45 (by decide) (by decide)]; exact d6
    · rw [hFF.1 67 (by decide) (by decide), hFF.1 46 (by decide) (by decide)]; exact d7
    · rw [hFF.1 68 (by decide) (by decide), hFF.1 47 (by decide) (by decide)]; exact d8
    · rw [b440, r1, hFF.1 45 (by decide) (by decide), hFF.1 46 (by decide) (by decide), hFF.1 47 (by decide) (by decide)]; exact d9
  · rw [if_neg c] at hv hI
    have hI : IA = I := hI
    rw [hI, if_pos (show I 64 5 = I 64 4 from Int32.toInt_inj.mp (by rw [d1, d2]; omega))] at hv2 hI2
    exact ⟨hv2.trans hv.symm, by rw [hI2]; exact hR0⟩
theorem c_row {I IA IB : Is} {J JA JB : Js} {b : Bool} {k so n : Int32} {r1 r2 : Option Value} (hR : Rel I J b)
    (q1 : (¬ (inR k 5 ∧ inR so 4 ∧ n.toInt ≤ 60) ∧ r1 = some (.int (-1)) ∧ IA = I ∧ JA = J) ∨ ((inR k 5 ∧ inR so 4 ∧ n.toInt ≤ 60) ∧ n.toInt < 0 ∧ r1 = some (.int (-14)) ∧ IA = I ∧ JA = J) ∨ ((inR k 5 ∧ inR so 4 ∧ n.toInt ≤ 60) ∧ 0 ≤ n.toInt ∧ r1 = some (.int 1) ∧ IA = u2 (u2 I (shT k) 0 so) (shT k) 1 n ∧ (∀ q, q < 60 → JA (shT k + 1) q = 0) ∧ ∀ c, c ≠ shT k + 1 → JA c = J c))
    (q2 : (¬ (inR k 5 ∧ inR so 4 ∧ n.toInt ≤ 60) ∧ r2 = some (.int (-1)) ∧ IB = IA ∧ JB = JA) ∨ ((inR k 5 ∧ inR so 4 ∧ n.toInt ≤ 60) ∧ n.toInt < 0 ∧ r2 = some (.int (-14)) ∧ IB = IA ∧ JB = JA) ∨ ((inR k 5 ∧ inR so 4 ∧ n.toInt ≤ 60) ∧ 0 ≤ n.toInt ∧ r2 = some (.int 1) ∧ IB = u2 (u2 IA 87 (ix k) (50 + so)) 88 (ix k) n ∧ (∀ c, c ≠ 89 → JB c = JA c) ∧ ∀ q, JB 89 q = if 60 * ix k ≤ q ∧ q < 60 * ix k + 60 then 0 else JA 89 q)) : r2 = r1 ∧ Rel IB JB b := by
  rcases q1 with ⟨c1, hv, hI, hJ⟩ | ⟨c1, c2, hv, hI, hJ⟩ | ⟨c1, c2, hv, hI, hJ0, hJ1⟩
  · rcases q2 with ⟨d, hv2, hI2, hJ2⟩ | ⟨d, -⟩ | ⟨d, -⟩
    · exact ⟨hv2.trans hv.symm, by rw [hI2, hJ2, hI, hJ]; exact hR⟩
    · exact absurd d c1
    · exact absurd d c1
  · rcases q2 with ⟨d, -⟩ | ⟨d, d2, hv2, hI2, hJ2⟩ | ⟨d, d2, -⟩
    · exact absurd c1 d
    · exact ⟨hv2.trans hv.symm, by rw [hI2, hJ2, hI, hJ]; exact hR⟩
    · omega
  · rcases q2 with ⟨d, -⟩ | ⟨d, d2, -⟩ | ⟨-, -, hv2, hI2, hJ2, hJ3⟩
    · exact absurd c1 d
    · omega
    obtain ⟨hA, hB, hC, hD, hE, hF⟩ := hR
    have hk := c1.1
    have hso := c1.2.1
    have hn60 := c1.2.2
    have hd6 := sh_d hk
    have ht : 52 ≤ shT k ∧ shT k + 1 < 64 := by unfold shT; omega
    have hFA : FrM [shT k] [] I IA := by rw [hI]; exact (FrM.rf.st (by simp) (by omega)).st (by simp) (by omega)
    have hFF : FrM [shT k, 87, 88] [] I IB := by rw [hI2]; exact ((hFA.mo (by simp) (by simp)).st (by simp) (by decide)).st (by simp) (by decide)
    have nn : ∀ c, c ∈ ([0, 1, 2, 3, 4, 5, 6, 7, 8, 10, 11, 12, 13, 16, 17, 18, 19, 20, 22, 23, 24, 25, 26, 44, 45, 46, 47, 48, 49, 50, 65, 66, 67, 68, 69, 70, 71, 81, 82, 83, 84, 85, 86] : List Nat) → c ∉ [shT k, 87, 88] := fun c hc => by
      have h1 : c ≠ 87 := fun z => by rw [z] at hc; exact absurd hc (by decide)
      have h2 : c ≠ 88 := fun z => by rw [z] at hc; exact absurd hc (by decide)
      have h3 : c < 52 ∨ 63 < c := by simp at hc; omega
      simp
      omega
    refine ⟨hv2.trans hv.symm, hA.fm hFF (fun c hc => nn c (by revert hc; revert c; decide)) (by decide), hB.fm hFF (fun c hc => nn c (by revert hc; revert c; decide)) (by decide), hC.fm hFF (fun c hc => nn c (by revert hc; revert c; decide)) (by decide), hD.fm hFF (fun c hc => nn c (by revert hc; revert c; decide)) (by decide), hE.fm hFF (fun c hc => nn c (by revert hc; revert c; decide)) (by decide), ?_⟩
    intro d hd
    obtain ⟨f1, f2, f3, f4⟩ := hF d hd
    have e48 : IB 48 = I 48 := hFF.1 48 (by decide) (nn 48 (by decide))
    have e87 : ∀ q, IB 87 q = if q = ix k then 50 + so else I 87 q := fun q => by
      rw [hI2, u2_row (t := 88) (t' := 87) (by decide)]
      by_cases e : q = ix k
      · rw [if_pos e, e, u2_same]
      · rw [if_neg e, u2_ne _ _ _ _ (Or.inr e), hFA.1 87 (by decide) (by simp; omega)]
    have e88 : ∀ q, IB 88 q = if q = ix k then n else I 88 q := fun q => by
      rw [hI2]
      by_cases e : q = ix k
      · rw [if_pos e, e, u2_same]
      · rw [if_neg e, u2_ne _ _ _ _ (Or.inr e), u2_row (t := 87) (t' := 88) (by decide), hFA.1 88 (by decide) (by simp; omega)]
    have eT : ∀ c, c < 64 → IB c = IA c := fun c hc => by rw [hI2, u2_row (by omega), u2_row (by omega)]
    rw [e87, e88, e48]
    by_cases e : d = ix k
    · subst e
      rw [if_pos rfl, if_pos rfl]
      have et : 52 + 2 * ix k = shT k := rfl
      rw [et, eT (shT k) (by omega), hI]
      have h0 : u2 (u2 I (shT k) 0 so) (shT k) 1 n (shT k) 0 = so := by rw [u2_ne _ _ _ _ (Or.inr (by decide)), u2_same]
      have z50 : (50 : Int32).toInt = 50 := rfl
      have hs0 : 0 ≤ so.toInt := hso.1
      have hs4 : so.toInt ≤ 4 := hso.2
      rw [h0, u2_same]
      have hz : ∀ q, q < 60 → JB 89 (60 * ix k + q) = 0 := fun q hq => by rw [hJ3, if_pos ⟨by omega, by omega⟩]
      refine ⟨rfl, ⟨c2, hn60⟩, fun q hq => ?_, Or.inr (Or.inr ⟨⟨hs0, hs4⟩, ?_, fun _ q hq => ?_⟩)⟩
      · rw [hz q hq, hJ2 _ (by omega), hJ0 q hq]
      · rw [tI_add (by omega) (by omega), z50]
      · rw [hz q hq]; decide
    · rw [if_neg e, if_neg e]
      have hne := sh_ne hd hk e
      have et : IB (52 + 2 * d) = I (52 + 2 * d) := by
        rw [eT _ (by omega)]
        exact hFA.1 _ (by omega) (by simp; exact hne)
      have eJ : ∀ q, q < 60 → JB 89 (60 * d + q) = J 89 (60 * d + q) := fun q hq => by
        rw [hJ3, if_neg (by omega), hJ1 89 (by omega)]
      have eJT : JB (52 + 2 * d + 1) = J (52 + 2 * d + 1) := by rw [hJ2 _ (by omega), hJ1 _ (by omega)]
      rw [et]
      refine ⟨f1, f2, fun q hq => by rw [eJ q hq, eJT]; exact f3 q hq, ?_⟩
      rcases f4 with g | g | ⟨g1, g2, g3⟩
      · exact Or.inl g
      · exact Or.inr (Or.inl g)
      · exact Or.inr (Or.inr ⟨g1, g2, fun hz q hq => by rw [eJ q hq]; exact g3 hz q hq⟩)
