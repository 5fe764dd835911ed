theorem RlA.fm {I I' : Is} {b : Bool} {l f : List Nat} (h : RlA I b) (s : FrM l f I I') (d1 : ∀ c ∈ ([1, 2, 3, 4, 5, 6, 7, 8, 10, 11, 12, 13, 65, 70, 71] : List Nat), c ∉ l) (d2 : ∀ k ∈ ([6, 12, 14] : List Nat), k ∉ f) : RlA I' b := by
  have ht : tbL b ∈ ([1, 2, 3, 4, 5, 6, 7, 8, 10, 11, 12, 13, 65, 70, 71] : List Nat) ∧ tbL b + 1 ∈ ([1, 2, 3, 4, 5, 6, 7, 8, 10, 11, 12, 13, 65, 70, 71] : List Nat) ∧ tbL b + 2 ∈ ([1, 2, 3, 4, 5, 6, 7, 8, 10, 11, 12, 13, 65, 70, 71] : List Nat) ∧ tbL b + 3 ∈ ([1, 2, 3, 4, 5, 6, 7, 8, 10, 11, 12, 13, 65, 70, 71] : List Nat) := by cases b <;> decide
  have hl := tbL_lt b
  unfold RlA TW
  unfold RlA TW at h
  rw [s.1 (tbL b) (by omega) (d1 _ ht.1), s.1 (tbL b + 1) (by omega) (d1 _ ht.2.1), s.1 (tbL b + 2) (by omega) (d1 _ ht.2.2.1), s.1 (tbL b + 3) (by omega) (d1 _ ht.2.2.2), s.1 1 (by decide) (d1 1 (by decide)), s.1 2 (by decide) (d1 2 (by decide)), s.1 3 (by decide) (d1 3 (by decide)), s.1 4 (by decide) (d1 4 (by decide)), s.1 65 (by decide) (d1 65 (by decide)), s.1 70 (by decide) (d1 70 (by decide)), s.1 71 (by decide) (d1 71 (by decide)), s.2 6 (d2 6 (by decide)), s.2 12 (d2 12 (by decide)), s.2 14 (d2 14 (by decide))]
  exact h
theorem RlB.fm {I I' : Is} {l f : List Nat} (h : RlB I) (s : FrM l f I I') (d1 : ∀ c ∈ ([16, 16 + 1, 16 + 2, 16 + 3, 16 + 4, 1, 69, 81, 82, 83] : List Nat), c ∉ l) (d2 : ∀ k ∈ ([7, 8, 9, 38, 39] : List Nat), k ∉ f) : RlB I' := by
  unfold RlB gvT gv
  unfold RlB gvT gv at h
  rw [s.1 16 (by decide) (d1 16 (by decide)), s.1 (16 + 1) (by decide) (d1 (16 + 1) (by decide)), s.1 (16 + 2) (by decide) (d1 (16 + 2) (by decide)), s.1 (16 + 3) (by decide) (d1 (16 + 3) (by decide)), s.1 (16 + 4) (by decide) (d1 (16 + 4) (by decide)), s.1 1 (by decide) (d1 1 (by decide)), s.1 69 (by decide) (d1 69 (by decide)), s.1 81 (by decide) (d1 81 (by decide)), s.1 82 (by decide) (d1 82 (by decide)), s.1 83 (by decide) (d1 83 (by decide)), s.2 7 (d2 7 (by decide)), s.2 8 (d2 8 (by decide)), s.2 9 (d2 9 (by decide)), s.2 38 (d2 38 (by decide)), s.2 39 (d2 39 (by decide))]
  exact h
theorem RlC.fm {I I' : Is} {l f : List Nat} (h : RlC I) (s : FrM l f I I') (d1 : ∀ c ∈ ([0, 1, 22, 22 + 1, 22 + 2, 22 + 3, 22 + 4, 84] : List Nat), c ∉ l) (d2 : ∀ k ∈ ([40, 41] : List Nat), k ∉ f) : RlC I' := by
  unfold RlC gv
  unfold RlC gv at h
  rw [s.1 0 (by decide) (d1 0 (by decide)), s.1 1 (by decide) (d1 1 (by decide)), s.1 22 (by decide) (d1 22 (by decide)), s.1 (22 + 1) (by decide) (d1 (22 + 1) (by decide)), s.1 (22 + 2) (by decide) (d1 (22 + 2) (by decide)), s.1 (22 + 3) (by decide) (d1 (22 + 3) (by decide)), s.1 (22 + 4) (by decide) (d1 (22 + 4) (by decide)), s.1 84 (by decide) (d1 84 (by decide)), s.2 40 (d2 40 (by decide)), s.2 41 (d2 41 (by decide))]
  exact h
theorem RlD.fm {I I' : Is} {l f : List Nat} (h : RlD I) (s : FrM l f I I') (d1 : ∀ c ∈ ([1, 44, 45, 46, 47, 66, 67, 68] : List Nat), c ∉ l) (d2 : ∀ k ∈ ([5, 4] : List Nat), k ∉ f) : RlD I' := by
  unfold RlD
  unfold RlD at h
  rw [s.1 1 (by decide) (d1 1 (by decide)), s.1 44 (by decide) (d1 44 (by decide)), s.1 45 (by decide) (d1 45 (by decide)), s.1 46 (by decide) (d1 46 (by decide)), s.1 47 (by decide) (d1 47 (by decide)), s.1 66 (by decide) (d1 66 (by decide)), s.1 67 (by decide) (d1 67 (by decide)), s.1 68 (by decide) (d1 68 (by decide)), s.2 5 (d2 5 (by decide)), s.2 4 (d2 4 (by decide))]
  exact h
theorem RlE.fm {I I' : Is} {l f : List Nat} (h : RlE I) (s : FrM l f I I') (d1 : ∀ c ∈ ([48, 49, 50, 85, 86] : List Nat), c ∉ l) (d2 : ∀ k ∈ ([43, 46] : List Nat), k ∉ f) : RlE I' := by
  unfold RlE
  unfold RlE at h
  rw [s.1 48 (by decide) (d1 48 (by decide)), s.1 49 (by decide) (d1 49 (by decide)), s.1 50 (by decide) (d1 50 (by decide)), s.1 85 (by decide) (d1 85 (by decide)), s.1 86 (by decide) (d1 86 (by decide)), s.2 43 (d2 43 (by decide)), s.2 46 (d2 46 (by decide))]
  exact h
theorem RlF.fm {I I' : Is} {J : Js} {l f : List Nat} (h : RlF I J) (s : FrM l f I I') (d1 : ∀ c ∈ ([48, 52, 54, 56, 58, 60, 62, 87, 88] : List Nat), c ∉ l) : RlF I' J := by
  intro d hd
  have hm : 52 + 2 * d ∈ ([48, 52, 54, 56, 58, 60, 62, 87, 88] : List Nat) := by
    rcases (show d = 0 ∨ d = 1 ∨ d = 2 ∨ d = 3 ∨ d = 4 ∨ d = 5 by omega) with rfl | rfl | rfl | rfl | rfl | rfl <;> decide
  have h' := h d hd
  rw [s.1 (52 + 2 * d) (by omega) (d1 _ hm), s.1 48 (by decide) (d1 48 (by decide)), s.1 87 (by decide) (d1 87 (by decide)), s.1 88 (by decide) (d1 88 (by decide))]
  exact h'
theorem Fr.fm {l : List Nat} {I I1 : Is} (h : Fr l I I1) (h64 : 64 ∉ l) : FrM l [] I I1 := ⟨fun c _ hl => h c hl, fun k _ => congrFun (h 64 h64) k⟩
theorem pl_eq (s m w : Int32) : plM s m w = plF s m w := by
  unfold plM plF
  by_cases c1 : 0 ≤ w.toInt ∧ w.toInt ≤ 7
  · rw [if_pos c1, if_neg (show ¬ (w.toInt < 0 ∨ 11 < w.toInt) by omega), if_neg (show ¬ 8 ≤ w.toInt by omega)]
    by_cases c2 : 0 ≤ m.toInt ∧ m.toInt < s.toInt
    · rw [if_pos c2, if_pos c2, Int32.mul_comm]
    · rw [if_neg c2, if_neg c2]
  · rw [if_neg c1]
    by_cases c3 : 8 ≤ w.toInt ∧ w.toInt ≤ 11
    · rw [if_neg (by omega : ¬ (w.toInt < 0 ∨ 11 < w.toInt)), if_pos c3.1]
      by_cases c4 : m = 0
      · rw [if_pos ⟨c4, c3⟩, if_pos c4]
      · rw [if_neg (fun z => c4 z.1), if_neg c4]
    · rw [if_neg (fun z => c3 z.2), if_pos (by omega)]
theorem c_of {I I1 I2 : Is} {J : Js} {b : Bool} {m : Int32} {w : Int32} {v1 v2 : Int32} (h : Rel I J b) (q1 : (v1 = (ofF I m w) ∧ I1 = I)) (q2 : (v2 = (ofM I1 m w) ∧ I2 = I1)) : v2 = v1 ∧ Rel I2 J b := by
  obtain ⟨hv, hI⟩ := q1
  obtain ⟨hv2, hI2⟩ := q2
  rw [hI] at hv2 hI2
  refine ⟨?_, by rw [hI2]; exact h⟩
  have g := h.2.1.1
  have g0 : I 64 7 = I 16 0 := g.1
  have g1 : I 64 8 = I 16 1 := g.2.1
  have g2 : I 64 9 = I 16 2 := g.2.2.1
  rw [hv2, hv]
  unfold ofM ofF
  rw [pl_eq, h.1.1, h.1.2.1, g0, g1, g2]
theorem c_count {I I1 I2 : Is} {J : Js} {b : Bool} {w : Int32} {v1 v2 : Int32} (h : Rel I J b) (q1 : (v1 = (cnF I w) ∧ I1 = I)) (q2 : (v2 = (coM I1 w) ∧ I2 = I1)) : v2 = v1 ∧ Rel I2 J b := by
  obtain ⟨hv, hI⟩ := q1
  obtain ⟨hv2, hI2⟩ := q2
  rw [hI] at hv2 hI2
  refine ⟨?_, by rw [hI2]; exact h⟩
  rw [hv2, hv]
  unfold coM cnF
  rw [h.1.1, h.1.2.2.2.1, h.2.2.2.1.1, h.2.2.2.2.1.1, h.2.2.2.2.1.2.2.2.2.1]
theorem c_trace {I I1 I2 : Is} {J : Js} {b : Bool} {i : Int32} {v1 v2 : Int32} (h : Rel I J b) (q1 : (v1 = (if 0 ≤ i.toInt ∧ i.toInt < (I 48 1).toInt ∧ i.toInt < 24 then I 50 (ix i) else -1) ∧ I1 = I)) (q2 : (v2 = (if 0 ≤ i.toInt ∧ i.toInt < (I1 64 46).toInt ∧ i.toInt < 24 then I1 86 (ix i) else -1) ∧ I2 = I1)) : v2 = v1 ∧ Rel I2 J b := by
  obtain ⟨hv, hI⟩ := q1
  obtain ⟨hv2, hI2⟩ := q2
  rw [hI] at hv2 hI2
  refine ⟨?_, by rw [hI2]; exact h⟩
  rw [hv2, hv, h.2.2.2.2.1.2.2.2.2.1, h.2.2.2.2.1.2.2.2.2.2.2]
theorem c_led {I I1 I2 : Is} {J : Js} {b : Bool} {k : Int32} {w : Int32} {v1 v2 : Int32} (h : Rel I J b) (q1 : (v1 = (leF I k w) ∧ I1 = I)) (q2 : (v2 = (leM I1 k w) ∧ I2 = I1)) : v2 = v1 ∧ Rel I2 J b := by
  obtain ⟨hv, hI⟩ := q1
  obtain ⟨hv2, hI2⟩ := q2
  rw [hI] at hv2 hI2
  refine ⟨?_, by rw [hI2]; exact h⟩
  have g := h.2.1.1
  rw [hv2, hv]
  unfold leM leF
  rw [h.2.1.2.1, h.2.1.2.2.1]
  by_cases c34 : w = 3 ∨ w = 4
  · have cn : ¬ inR w 2 := fun z => by
      have z2 : w.toInt ≤ 2 := z.2
      rcases c34 with e | e <;> rw [e] at z2 <;> exact absurd z2 (by decide)
    rw [if_neg cn, if_pos c34]
    by_cases k0 : k = 0
    · rw [if_pos k0]
      by_cases w3 : w = 3
      · rw [if_pos ⟨k0, w3⟩, if_pos w3]
      · rw [if_neg (fun z => w3 z.2), if_pos ⟨k0, c34.resolve_left w3⟩, if_neg w3]
    · rw [if_neg (fun z => k0 z.1), if_neg (fun z => k0 z.1), if_neg k0]
  · rw [if_neg c34]
    by_cases cw : inR w 2
    · rw [if_pos cw]
      by_cases ck : inS I k
      · have hk := s_lt h ck
        rw [if_pos ((inM_iff h.1.1 k).mpr ck), if_pos (show inS I k ∧ inR w 2 from ⟨ck, cw⟩)]
        rw [show I 81 (ix k) = I 18 (ix k) from g.2.2.2.2.1 _ hk, show I 82 (ix k) = I 19 (ix k) from g.2.2.2.2.2.1 _ hk, show I 83 (ix k) = I 20 (ix k) from g.2.2.2.2.2.2 _ hk]
      · rw [if_neg (fun z => ck ((inM_iff h.1.1 k).mp z)), if_neg (fun z => ck z.1)]
    · rw [if_neg cw, if_neg (fun z => c34 (Or.inl z.2)), if_neg (fun z => c34 (Or.inr z.2)), if_neg (fun z => cw z.2)]
theorem c_ice {I I1 I2 : Is} {J : Js} {b : Bool} {v : Int32} {v1 v2 : Int32} (h : Rel I J b) (q1 : (v1 = (icF I v).1 ∧ I1 = (icF I v).2)) (q2 : (v2 = (icM I1 v).1 ∧ I2 = (icM I1 v).2)) : v2 = v1 ∧ Rel I2 J b := by
  obtain ⟨hv, hI⟩ := q1
  obtain ⟨hv2, hI2⟩ := q2
  obtain ⟨hA, hB, hC, hD, hE, hF⟩ := h
  obtain ⟨g, l1, l2, vo, ps, gz⟩ := hB
  have g1 : I 64 8 = I 16 1 := g.2.1
  unfold icF at hv hI
  unfold icM at hv2 hI2
  by_cases c1 : v.toInt < 1 ∨ 99 < v.toInt
  · rw [if_pos c1] at hv hI hv2 hI2
    exact ⟨hv2.trans hv.symm, by rw [hI2, hI]; exact ⟨hA, ⟨g, l1, l2, vo, ps, gz⟩, hC, hD, hE, hF⟩⟩
  rw [if_neg c1] at hv hI hv2 hI2
  by_cases c2 : 99 < (I 16 1 + v).toInt
  · rw [if_pos c2] at hv hI
    have hI : I1 = I := hI
    rw [hI, g1, if_pos c2] at hv2 hI2
    exact ⟨hv2.trans hv.symm, by rw [hI2]; exact ⟨hA, ⟨g, l1, l2, vo, ps, gz⟩, hC, hD, hE, hF⟩⟩
  rw [if_neg c2] at hv hI
  have hI : I1 = u2 I 16 1 (I 16 1 + v) := hI
  have e8 : I1 64 8 = I 16 1 := by rw [hI]; exact (congrFun (u2_row (by decide)) 8).trans g1
  rw [e8, if_neg c2] at hv2 hI2
  have hI2 : I2 = u2 I1 64 8 (I 16 1 + v) := hI2
  have hF2 : FrM [16] [8] I I2 := by rw [hI2, hI]; exact (FrM.rf.st (by decide) (by decide)).sf (by decide)
  have e16 : ∀ k, k ≠ 1 → I2 16 k = I 16 k := fun k hk => by rw [hI2, u2_row (t := 64) (t' := 16) (by decide), hI, u2_ne _ _ _ _ (Or.inr hk)]
  have e161 : I2 16 1 = I 16 1 + v := by rw [hI2, u2_row (t := 64) (t' := 16) (by decide), hI, u2_same]
  have e648 : I2 64 8 = I 16 1 + v := by rw [hI2, u2_same]
  have r : ∀ c, c ≠ 64 → c ≠ 16 → I2 c = I c := fun c h1 h2 => hF2.1 c h1 (by simpa using h2)
  have f : ∀ k, k ≠ 8 → I2 64 k = I 64 k := fun k hk => hF2.2 k (by simpa using hk)
  have vi := vo.2
  have es : (I 16 1 + v).toInt = (I 16 1).toInt + v.toInt := by
    have vi : 0 ≤ (I 16 1).toInt ∧ (I 16 1).toInt ≤ 99 := vo.2
    rw [tI_add (by omega) (by omega)]
  refine ⟨hv2.trans hv.symm, hA.fm hF2 (by decide) (by decide), ?_, hC.fm hF2 (by decide) (by decide), hD.fm hF2 (by decide) (by decide), hE.fm hF2 (by decide) (by decide), hF.fm hF2 (by decide)⟩
  refine ⟨⟨?_, ?_, ?_, fun k hk => ?_, fun k hk => ?_, fun k hk => ?_, fun k hk => ?_⟩, ?_, ?_, ⟨?_, ?_⟩, ?_, ?_⟩
  · show I2 64 7 = I2 16 0; rw [f 7 (by decide), e16 0 (by decide)]; exact g.1
  · show I2 64 8 = I2 16 1; rw [e648, e161]
  · show I2 64 9 = I2 16 2; rw [f 9 (by decide), e16 2 (by decide)]; exact g.2.2.1
  · show I2 69 k = I2 17 k; rw [r 69 (by decide) (by decide), r 17 (by decide) (by decide)]; exact g.2.2.2.1 k hk
  · show I2 81 k = I2 18 k; rw [r 81 (by decide) (by decide), r 18 (by decide) (by decide)]; exact g.2.2.2.2.1 k hk
  · show I2 82 k = I2 19 k; rw [r 82 (by decide) (by decide), r 19 (by decide) (by decide)]; exact g.2.2.2.2.2.1 k hk
  · show I2 83 k = I2 20 k; rw [r 83 (by decide) (by decide), r 20 (by decide) (by decide)]; exact g.2.2.2.2.2.2 k hk
  · rw [f 38 (by decide), e16 3 (by decide)]; exact l1
  · rw [f 39 (by decide), e16 4 (by decide)]; exact l2
  · show 0 ≤ (I2 16 0).toInt ∧ (I2 16 0).toInt ≤ 999; rw [e16 0 (by decide)]; exact vo.1
  · show 0 ≤ (I2 16 1).toInt ∧ (I2 16 1).toInt ≤ 99
    have vi : 0 ≤ (I 16 1).toInt ∧ (I 16 1).toInt ≤ 99 := vo.2
    rw [e161]; omega
  · rw [e16 2 (by decide)]; exact ps
  · rw [r 1 (by decide) (by decide), r 17 (by decide) (by decide), r 18 (by decide) (by decide), r 19 (by decide) (by decide), r 20 (by decide) (by decide)]; exact gz
