theorem un_up : ∀ j, j < 8 → ∀ i, i < 8 → (unF (nI i) 8 (nI j) = 0 ↔ ¬ upM (nI i) 8 (nI j) = nI i) := by decide +kernel
theorem un_up2 {kd w : Int32} (h0 : 0 ≤ kd.toInt) (h7 : kd.toInt ≤ 7) (hw : inR w 7) : unF w 8 kd = 0 ↔ ¬ upM w 8 kd = w := by
  have hw0 : 0 ≤ w.toInt := hw.1
  have hw7 : w.toInt ≤ 7 := hw.2
  obtain ⟨j, hj, rfl⟩ := nI_get (n := 8) h0 (by omega) (by decide)
  obtain ⟨i, hi, rfl⟩ := nI_get (n := 8) hw0 (by omega) (by decide)
  exact un_up j (by omega) i (by omega)
theorem c_taken {I IA IB : Is} {J : Js} {b : Bool} {k : Int32} {w : Int32} {v1 v2 : Int32} (hR : Rel I J b) (q1 : (v1 = tkF I k w ∧ IA = I)) (q2 : (v2 = (taM IA k w) ∧ IB = IA)) : v2 = v1 ∧ Rel IB J b := by
  have hR0 := hR
  obtain ⟨hv, hI⟩ := q1
  obtain ⟨hv2, hI2⟩ := q2
  rw [hI] at hv2 hI2
  refine ⟨?_, by rw [hI2]; exact hR0⟩
  obtain ⟨hA, hB, hC, hD, hE, hF⟩ := hR
  obtain ⟨a1, a2, a3, a4, a5, a6, a7⟩ := hE
  rw [hv2, hv]
  unfold taM tkF
  by_cases c : inR k 5 ∧ inR w 7
  · rw [if_pos c, if_pos c]
    obtain ⟨-, -, -, f4⟩ := hF (ix k) (sh_d c.1)
    have f4 : (I 87 (ix k) = -1 ∧ I (shT k) 0 = -2) ∨ ((0 ≤ (I 87 (ix k)).toInt ∧ (I 87 (ix k)).toInt < (I 48 0).toInt) ∧ I (shT k) 0 = -1 ∧ I (shT k) 2 = I 87 (ix k)) ∨ ((0 ≤ (I (shT k) 0).toInt ∧ (I (shT k) 0).toInt ≤ 4) ∧ (I 87 (ix k)).toInt = 50 + (I (shT k) 0).toInt ∧ _) := f4
    rcases f4 with ⟨g1, g2⟩ | ⟨g1, g2, g3⟩ | ⟨g1, g2, -⟩
    · rw [if_pos (show (I 87 (ix k)).toInt < 0 by rw [g1]; decide), if_pos g2]
    · rw [if_neg (show ¬ (I 87 (ix k)).toInt < 0 by omega), if_neg (show ¬ 50 ≤ (I 87 (ix k)).toInt by omega), if_neg (show ¬ I (shT k) 0 = -2 by rw [g2]; decide), if_pos g2, g3]
      have hb : inB I (I 87 (ix k)) := g1
      rw [if_pos hb, a3]
      have hk := a4 (ix (I 87 (ix k)))
      have hu := un_up2 hk.1 hk.2 c.2
      by_cases d : upM w 8 (I 49 (ix (I 87 (ix k)))) = w
      · rw [if_pos d, if_neg (fun z => (hu.mp z) d)]
      · rw [if_neg d, if_pos (hu.mpr d)]
    · rw [if_neg (show ¬ (I 87 (ix k)).toInt < 0 by omega), if_pos (show 50 ≤ (I 87 (ix k)).toInt by omega), if_neg (show ¬ I (shT k) 0 = -2 from fun z => by rw [z] at g1; exact absurd g1.1 (by decide)), if_neg (show ¬ I (shT k) 0 = -1 from fun z => by rw [z] at g1; exact absurd g1.1 (by decide))]
  · rw [if_neg c, if_neg c]
