theorem i_m2 (x : Int32) : x = -2 ↔ x.toInt = -2 := ⟨fun h => by rw [h]; rfl, fun h => Int32.toInt_inj.mp h⟩
theorem i_m1 (x : Int32) : x = -1 ↔ x.toInt = -1 := ⟨fun h => by rw [h]; rfl, fun h => Int32.toInt_inj.mp h⟩
theorem sh_st {I : Is} {J : Js} {b : Bool} (h : Rel I J b) {k : Int32} (hk : inR k 5) : ((I (shT k) 0).toInt = -2 ∧ (I 87 (ix k)).toInt = -1) ∨ ((I (shT k) 0).toInt = -1 ∧ 0 ≤ (I 87 (ix k)).toInt ∧ (I 87 (ix k)).toInt < 50) ∨ (0 ≤ (I (shT k) 0).toInt ∧ (I (shT k) 0).toInt ≤ 4 ∧ (I 87 (ix k)).toInt = 50 + (I (shT k) 0).toInt) := by
  obtain ⟨-, -, -, f4⟩ := h.2.2.2.2.2 (ix k) (sh_d hk)
  have f4 : (I 87 (ix k) = -1 ∧ I (shT k) 0 = -2) ∨ ((0 ≤ (I 87 (ix k)).toInt ∧ (I 87 (ix k)).toInt < (I 48 0).toInt) ∧ I (shT k) 0 = -1 ∧ I (shT k) 2 = I 87 (ix k)) ∨ ((0 ≤ (I (shT k) 0).toInt ∧ (I (shT k) 0).toInt ≤ 4) ∧ (I 87 (ix k)).toInt = 50 + (I (shT k) 0).toInt ∧ _) := f4
  have he := h.2.2.2.2.1.2.1
  rcases f4 with ⟨g1, g2⟩ | ⟨g1, g2, -⟩ | ⟨g1, g2, -⟩
  · exact Or.inl ⟨(i_m2 _).mp g2, (i_m1 _).mp g1⟩
  · exact Or.inr (Or.inl ⟨(i_m1 _).mp g2, g1.1, by omega⟩)
  · exact Or.inr (Or.inr ⟨g1.1, g1.2, g2⟩)
theorem c_shift {I IA IB : Is} {J JA JB : Js} {b b1 b2 : Bool} {k i k2 j n : Int32} {r1 r2 : Option Value} (hR : Rel I J b) (q1 : (IA = I ∧ b1 = b ∧ ((¬ (inR k 5 ∧ inR k2 5) ∧ r1 = some (.int (-1)) ∧ JA = J) ∨ ((inR k 5 ∧ inR k2 5) ∧ (I (shT k) 0 = -2 ∨ I (shT k2) 0 = -2) ∧ r1 = some (.int (-11)) ∧ JA = J) ∨ ((inR k 5 ∧ inR k2 5) ∧ ¬ (I (shT k) 0 = -2 ∨ I (shT k2) 0 = -2) ∧ (I (shT k) 0 = -1 ∨ ¬ I (shT k) 0 = I (shT k2) 0) ∧ r1 = some (.int (-12)) ∧ JA = J) ∨ ((inR k 5 ∧ inR k2 5) ∧ ¬ (I (shT k) 0 = -2 ∨ I (shT k2) 0 = -2) ∧ ¬ (I (shT k) 0 = -1 ∨ ¬ I (shT k) 0 = I (shT k2) 0) ∧ ¬ ((0 ≤ i.toInt ∧ 0 ≤ n.toInt ∧ i.toInt + n.toInt ≤ (I (shT k) 1).toInt) ∧ (0 ≤ j.toInt ∧ 0 ≤ n.toInt ∧ j.toInt + n.toInt ≤ (I (shT k2) 1).toInt)) ∧ r1 = some (.int (-13)) ∧ JA = J) ∨ ((inR k 5 ∧ inR k2 5) ∧ ¬ (I (shT k) 0 = -2 ∨ I (shT k2) 0 = -2) ∧ ¬ (I (shT k) 0 = -1 ∨ ¬ I (shT k) 0 = I (shT k2) 0) ∧ ((0 ≤ i.toInt ∧ 0 ≤ n.toInt ∧ i.toInt + n.toInt ≤ (I (shT k) 1).toInt) ∧ (0 ≤ j.toInt ∧ 0 ≤ n.toInt ∧ j.toInt + n.toInt ≤ (I (shT k2) 1).toInt)) ∧ r1 = some (.int n) ∧ JA = cpy2 J (shT k2 + 1) (J (shT k + 1)) (ix i) (ix j) (ix n))))) (q2 : ((IB = IA ∧ b2 = b1 ∧ ((¬ (inR k 5 ∧ inR k2 5) ∧ r2 = some (.int (-1)) ∧ JB = JA) ∨ ((inR k 5 ∧ inR k2 5) ∧ ¬ (0 ≤ (IA 87 (ix k)).toInt ∧ 0 ≤ (IA 87 (ix k2)).toInt) ∧ r2 = some (.int (-11)) ∧ JB = JA) ∨ ((inR k 5 ∧ inR k2 5) ∧ (0 ≤ (IA 87 (ix k)).toInt ∧ 0 ≤ (IA 87 (ix k2)).toInt) ∧ ¬ (50 ≤ (IA 87 (ix k)).toInt ∧ IA 87 (ix k) = IA 87 (ix k2)) ∧ r2 = some (.int (-12)) ∧ JB = JA) ∨ ((inR k 5 ∧ inR k2 5) ∧ (0 ≤ (IA 87 (ix k)).toInt ∧ 0 ≤ (IA 87 (ix k2)).toInt) ∧ (50 ≤ (IA 87 (ix k)).toInt ∧ IA 87 (ix k) = IA 87 (ix k2)) ∧ ¬ (0 ≤ n.toInt ∧ 0 ≤ i.toInt ∧ 0 ≤ j.toInt ∧ i.toInt + n.toInt ≤ (IA 88 (ix k)).toInt ∧ j.toInt + n.toInt ≤ (IA 88 (ix k2)).toInt) ∧ r2 = some (.int (-13)) ∧ JB = JA) ∨ ((inR k 5 ∧ inR k2 5) ∧ (0 ≤ (IA 87 (ix k)).toInt ∧ 0 ≤ (IA 87 (ix k2)).toInt) ∧ (50 ≤ (IA 87 (ix k)).toInt ∧ IA 87 (ix k) = IA 87 (ix k2)) ∧ (0 ≤ n.toInt ∧ 0 ≤ i.toInt ∧ 0 ≤ j.toInt ∧ i.toInt + n.toInt ≤ (IA 88 (ix k)).toInt ∧ j.toInt + n.toInt ≤ (IA 88 (ix k2)).toInt) ∧ r2 = some (.int n) ∧ (∀ c, c ≠ 89 → c ≠ 90 → JB c = JA c) ∧ ∀ q, JB 89 q = if 60 * ix k2 + ix j ≤ q ∧ q < 60 * ix k2 + ix j + ix n then JA 89 (60 * ix k + ix i + (q - (60 * ix k2 + ix j))) else JA 89 q))))) : r2 = r1 ∧ Rel IB JB b2 := by
  obtain ⟨hI, hb, q1⟩ := q1
  obtain ⟨hI2, hb2, q2⟩ := q2
  rw [hI] at q2 hI2
  rw [hI2, hb2, hb]
  by_cases hk : inR k 5 ∧ inR k2 5
  · have hk1 := hk.1
    have hk2 := hk.2
    have s1 := sh_st hR hk1
    have s2 := sh_st hR hk2
    obtain ⟨f1, f2, f3, f4⟩ := hR.2.2.2.2.2 (ix k) (sh_d hk1)
    obtain ⟨g1, g2, g3, g4⟩ := hR.2.2.2.2.2 (ix k2) (sh_d hk2)
    have f1 : I 88 (ix k) = I (shT k) 1 := f1
    have g1 : I 88 (ix k2) = I (shT k2) 1 := g1
    rw [f1] at f2
    rw [g1] at g2
    rw [f1, g1] at q2
    simp only [i_m1, i_m2] at q1 q2
    simp only [← Int32.toInt_inj] at q1 q2
    rcases q1 with ⟨c, -⟩ | ⟨-, c, hv, hJ⟩ | ⟨-, c, c2, hv, hJ⟩ | ⟨-, c, c2, c3, hv, hJ⟩ | ⟨-, c, c2, c3, hv, hJ⟩
    · exact absurd hk c
    · rcases q2 with ⟨d, -⟩ | ⟨-, d, hv2, hJ2⟩ | ⟨-, d, d2, hv2, hJ2⟩ | ⟨-, d, d2, d3, hv2, hJ2⟩ | ⟨-, d, d2, d3, hv2, hJ2⟩
      · exact absurd hk d
      · exact ⟨hv2.trans hv.symm, by rw [hJ2, hJ]; exact hR⟩
      all_goals (exfalso; omega)
    · rcases q2 with ⟨d, -⟩ | ⟨-, d, hv2, hJ2⟩ | ⟨-, d, d2, hv2, hJ2⟩ | ⟨-, d, d2, d3, hv2, hJ2⟩ | ⟨-, d, d2, d3, hv2, hJ2⟩
      · exact absurd hk d
      · exfalso; omega
      · exact ⟨hv2.trans hv.symm, by rw [hJ2, hJ]; exact hR⟩
      all_goals (exfalso; omega)
    · rcases q2 with ⟨d, -⟩ | ⟨-, d, hv2, hJ2⟩ | ⟨-, d, d2, hv2, hJ2⟩ | ⟨-, d, d2, d3, hv2, hJ2⟩ | ⟨-, d, d2, d3, hv2, hJ2⟩
      · exact absurd hk d
      · exfalso; omega
      · exfalso; omega
      · exact ⟨hv2.trans hv.symm, by rw [hJ2, hJ]; exact hR⟩
      · exfalso; omega
    · rcases q2 with ⟨d, -⟩ | ⟨-, d, hv2, hJ2⟩ | ⟨-, d, d2, hv2, hJ2⟩ | ⟨-, d, d2, d3, hv2, hJ2⟩ | ⟨-, d, d2, d3, hv2, hJ2, hJ3⟩
      · exact absurd hk d
      · exfalso; omega
      · exfalso; omega
      · exfalso; omega
      have hi := ix_nn d3.2.1
      have hj := ix_nn d3.2.2.1
      have hn := ix_nn d3.1
      have hd1 := sh_d hk1
      have hd2 := sh_d hk2
      have ht : 52 ≤ shT k2 ∧ shT k2 + 1 < 64 := by unfold shT; omega
      obtain ⟨hA, hB, hC, hD, hE, hF⟩ := hR
      refine ⟨hv2.trans hv.symm, hA, hB, hC, hD, hE, fun e he => ?_⟩
      obtain ⟨e1, e2, e3, e4⟩ := hF e he
      have eJ89 : JA 89 = J 89 := by rw [hJ, cpy2_row (by omega)]
      have key : ∀ q, q < 60 → JB 89 (60 * e + q) = JB (52 + 2 * e + 1) q := fun q hq => by
        rw [hJ3, hJ2 _ (by omega) (by omega), eJ89, hJ]
        by_cases c0 : e = ix k2
        · subst c0
          have et : 52 + 2 * ix k2 + 1 = shT k2 + 1 := rfl
          rw [et, cpy2_self]
          unfold va_cpy
          by_cases c5 : ix j ≤ q ∧ q < ix j + ix n
          · rw [if_pos (by omega), if_pos c5, show 60 * ix k + ix i + (60 * ix k2 + q - (60 * ix k2 + ix j)) = 60 * ix k + (ix i + (q - ix j)) by omega]
            exact f3 _ (by omega)
          · rw [if_neg (by omega), if_neg c5]
            exact e3 q hq
        · have n1 : 52 + 2 * e + 1 ≠ shT k2 + 1 := by have := sh_ne he hk2 c0; omega
          rw [if_neg (by omega), cpy2_row n1]
          exact e3 q hq
      refine ⟨e1, e2, key, ?_⟩
      rcases e4 with x | x | ⟨x1, x2, x3⟩
      · exact Or.inl x
      · exact Or.inr (Or.inl x)
      · refine Or.inr (Or.inr ⟨x1, x2, fun hz q hq => ?_⟩)
        rw [hJ3, eJ89]
        by_cases c5 : 60 * ix k2 + ix j ≤ 60 * e + q ∧ 60 * e + q < 60 * ix k2 + ix j + ix n
        · have ee : e = ix k2 := by omega
          subst ee
          rw [if_pos c5, show 60 * ix k + ix i + (60 * ix k2 + q - (60 * ix k2 + ix j)) = 60 * ix k + (ix i + (q - ix j)) by omega]
          have et : 52 + 2 * ix k2 = shT k2 := rfl
          rw [et] at x1 x2 hz
          rcases f4 with y | y | ⟨y1, y2, y3⟩
          · exfalso; rw [y.1] at d2; exact absurd d2.1 (by decide)
          · have := hE.2.1; exfalso; omega
          · refine y3 ?_ _ (by omega)
            have et : 52 + 2 * ix k = shT k := rfl
            rw [et] at y1 y2 ⊢
            rw [← Int32.toInt_inj] at hz ⊢
            rw [← hz]
            omega
        · rw [if_neg c5]
          exact x3 hz q hq
  · rcases q1 with ⟨-, hv, hJ⟩ | ⟨c, -⟩ | ⟨c, -⟩ | ⟨c, -⟩ | ⟨c, -⟩
    · rcases q2 with ⟨-, hv2, hJ2⟩ | ⟨c, -⟩ | ⟨c, -⟩ | ⟨c, -⟩ | ⟨c, -⟩
      · exact ⟨hv2.trans hv.symm, by rw [hJ2, hJ]; exact hR⟩
      all_goals exact absurd c hk
    all_goals exact absurd c hk
