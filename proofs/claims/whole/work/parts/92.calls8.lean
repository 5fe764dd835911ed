theorem sh_d {k : Int32} (hk : inR k 5) : ix k < 6 := by
  have h1 := ix_nn hk.1
  have h2 : k.toInt ≤ 5 := hk.2
  omega
theorem rf_re {I : Is} {J : Js} {b : Bool} (h : Rel I J b) (k i : Int32) : rfM I k i = reF I k i := by
  unfold rfM reF
  by_cases hk : inR k 5
  · rw [if_pos hk, if_pos hk]
    obtain ⟨f1, -, -, f4⟩ := h.2.2.2.2.2 (ix k) (sh_d hk)
    have f1 : I 88 (ix k) = I (shT k) 1 := f1
    have f4 : (I 87 (ix k) = -1 ∧ I (shT k) 0 = -2) ∨ ((0 ≤ (I 87 (ix k)).toInt ∧ (I 87 (ix k)).toInt < (I 48 0).toInt) ∧ I (shT k) 0 = -1 ∧ I (shT k) 2 = I 87 (ix k)) ∨ ((0 ≤ (I (shT k) 0).toInt ∧ (I (shT k) 0).toInt ≤ 4) ∧ (I 87 (ix k)).toInt = 50 + (I (shT k) 0).toInt ∧ _) := f4
    have he := h.2.2.2.2.1.2.1
    rw [f1]
    rcases f4 with ⟨g1, g2⟩ | ⟨g1, g2, -⟩ | ⟨g1, g2, -⟩
    · rw [if_pos (show (I 87 (ix k)).toInt < 0 by rw [g1]; decide), if_pos g2]
    · rw [if_neg (show ¬ (I 87 (ix k)).toInt < 0 by omega), if_pos (show (I 87 (ix k)).toInt < 50 by omega), if_neg (show ¬ I (shT k) 0 = -2 by rw [g2]; decide), if_pos g2]
    · rw [if_neg (show ¬ (I 87 (ix k)).toInt < 0 by omega), if_neg (show ¬ (I 87 (ix k)).toInt < 50 by omega), if_neg (show ¬ I (shT k) 0 = -2 from fun z => by rw [z] at g1; exact absurd g1.1 (by decide)), if_neg (show ¬ I (shT k) 0 = -1 from fun z => by rw [z] at g1; exact absurd g1.1 (by decide))]
  · rw [if_neg hk, if_neg hk]
theorem c_element {I : Is} {J : Js} {b : Bool} (k i : Int32) (h : Rel I J b) : elM I J k i = elF I J k i := by
  unfold elM elF
  rw [rf_re h]
  by_cases c : reF I k i = 0
  · rw [if_pos c, if_pos c]
    obtain ⟨hk, h0, h1⟩ := re_in c
    obtain ⟨f1, f2, f3, -⟩ := h.2.2.2.2.2 (ix k) (sh_d hk)
    have f1 : I 88 (ix k) = I (shT k) 1 := f1
    rw [f1] at f2
    have hi := ix_nn h0
    exact f3 (ix i) (by omega)
  · rw [if_neg c, if_neg c]
theorem cut_0 (v : Int64) : -128 ≤ (cutF 0 v).toInt ∧ (cutF 0 v).toInt ≤ 127 := by
  have e : cutF 0 v = v.toInt32.toInt8.toInt32.toInt64 := rfl
  have e2 : (v.toInt32.toInt8.toInt32.toInt64).toInt = v.toInt32.toInt8.toInt := by rw [Int32.toInt_toInt64, Int8.toInt_toInt32]
  rw [e, e2]
  have h1 := Int8.le_toInt v.toInt32.toInt8
  have h2 := Int8.toInt_lt v.toInt32.toInt8
  omega
theorem c_put {I : Is} {J JA JB : Js} {b : Bool} {k i : Int32} {v : Int64} {r1 r2 : Option Value} (h : Rel I J b) (q1 : (¬ reF I k i = 0 ∧ r1 = some (.int (reF I k i)) ∧ JA = J) ∨ (reF I k i = 0 ∧ r1 = some (.int 1) ∧ JA = u2 J (shT k + 1) (ix i) (cutF (I (shT k) 0) v))) (q2 : (¬ rfM I k i = 0 ∧ r2 = some (.int (rfM I k i)) ∧ JB = JA) ∨ (rfM I k i = 0 ∧ r2 = some (.int 1) ∧ JB = u2 JA 89 (60 * ix k + ix i) (asF (I 87 (ix k) - 50) v))) : r2 = r1 ∧ Rel I JB b := by
  rw [rf_re h] at q2
  rcases q1 with ⟨c1, hv, hJ⟩ | ⟨c1, hv, hJ⟩
  · rcases q2 with ⟨d, hv2, hJ2⟩ | ⟨d, -⟩
    · exact ⟨hv2.trans hv.symm, by rw [hJ2, hJ]; exact h⟩
    · exact absurd d c1
  · rcases q2 with ⟨d, -⟩ | ⟨-, hv2, hJ2⟩
    · exact absurd c1 d
    obtain ⟨hk, h0, h1⟩ := re_in c1
    have hrf : rfM I k i = 0 := (rf_re h k i).trans c1
    obtain ⟨-, h50, -, -⟩ := rf_in hrf
    obtain ⟨hA, hB, hC, hD, hE, hF⟩ := h
    have hi := ix_nn h0
    have hi60 : ix i < 60 := by
      obtain ⟨f1', f2', -, -⟩ := hF (ix k) (sh_d hk)
      have f1' : I 88 (ix k) = I (shT k) 1 := f1'
      rw [f1'] at f2'
      omega
    refine ⟨hv2.trans hv.symm, hA, hB, hC, hD, hE, fun d hd => ?_⟩
    obtain ⟨f1, f2, f3, f4⟩ := hF d hd
    by_cases e : d = ix k
    · subst e
      have f1' : I 88 (ix k) = I (shT k) 1 := f1
      have et : 52 + 2 * ix k = shT k := rfl
      rw [et] at f1 f3 f4 ⊢
      have ht : shT k + 1 ≠ 89 := by unfold shT; omega
      have he := hE.2.1
      have hrng : ∀ so : Int32, 0 ≤ so.toInt ∧ so.toInt ≤ 4 → (I 87 (ix k)).toInt = 50 + so.toInt → asF (I 87 (ix k) - 50) v = cutF so v := fun so hs hx => by
        have e5 : I 87 (ix k) - 50 = so := Int32.toInt_inj.mp (by
          have z50 : (50 : Int32).toInt = 50 := rfl
          rw [tI_sub (by omega) (by omega), z50]; omega)
        rw [e5]
        rfl
      rcases f4 with ⟨g1, -⟩ | ⟨g1, g2, -⟩ | ⟨g1, g2, g3⟩
      · rw [g1] at h50; exact absurd h50 (by decide)
      · exfalso
        have c2 := c1
        unfold reF at c2
        rw [if_pos hk, if_neg (show ¬ I (shT k) 0 = -2 by rw [g2]; decide), if_pos g2] at c2
        exact absurd c2 (by decide)
      · have hval := hrng (I (shT k) 0) g1 g2
        refine ⟨f1, f2, fun q hq => ?_, Or.inr (Or.inr ⟨g1, g2, fun hz q hq => ?_⟩)⟩
        · rw [hJ2, u2_row (t := 89) ht, hJ]
          by_cases eq_ : q = ix i
          · rw [eq_, u2_same, u2_same, hval]
          · rw [u2_ne _ _ _ _ (Or.inr (by omega)), u2_ne _ _ _ _ (Or.inr eq_), u2_row (t := shT k + 1) (t' := 89) (fun z => ht z.symm)]
            exact f3 q hq
        · rw [hJ2, hJ]
          by_cases eq_ : q = ix i
          · rw [eq_, u2_same, hval, hz]; exact cut_0 v
          · rw [u2_ne _ _ _ _ (Or.inr (by omega)), u2_row (t := shT k + 1) (t' := 89) (fun z => ht z.symm)]
            exact g3 hz q hq
    · have n1 : 52 + 2 * d + 1 ≠ shT k + 1 := by have := sh_ne hd hk e; omega
      have ht : 89 ≠ shT k + 1 := by have := sh_d hk; unfold shT; omega
      have eJ : ∀ q, q < 60 → JB 89 (60 * d + q) = J 89 (60 * d + q) := fun q hq => by
        rw [hJ2, u2_ne _ _ _ _ (Or.inr (by omega)), hJ, u2_row ht]
      have eT : JB (52 + 2 * d + 1) = J (52 + 2 * d + 1) := by rw [hJ2, u2_row (by omega), hJ, u2_row n1]
      refine ⟨f1, f2, fun q hq => by rw [eJ q hq, eT]; exact f3 q hq, ?_⟩
      rcases f4 with g | g | ⟨g1, g2, g3⟩
      · exact Or.inl g
      · exact Or.inr (Or.inl g)
      · exact Or.inr (Or.inr ⟨g1, g2, fun hz q hq => by rw [eJ q hq]; exact g3 hz q hq⟩)
