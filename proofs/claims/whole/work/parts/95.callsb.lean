theorem pl_cases {s m w p : Int32} (hs : s.toInt ≤ 3) (hp : plF s m w = p) (h0 : 0 ≤ p.toInt) : ((0 ≤ w.toInt ∧ w.toInt ≤ 7) ∧ (0 ≤ m.toInt ∧ m.toInt < s.toInt) ∧ p.toInt = 8 * m.toInt + w.toInt) ∨ ((8 ≤ w.toInt ∧ w.toInt ≤ 11) ∧ m = 0 ∧ p.toInt = 16 + w.toInt) := by
  rw [← pl_eq] at hp
  subst hp
  unfold plM at h0 ⊢
  by_cases c1 : 0 ≤ w.toInt ∧ w.toInt ≤ 7
  · rw [if_pos c1] at h0 ⊢
    by_cases c2 : 0 ≤ m.toInt ∧ m.toInt < s.toInt
    · rw [if_pos c2]
      have e8 : (8 : Int32).toInt = 8 := rfl
      have em : (8 * m : Int32).toInt = 8 * m.toInt := by rw [tI_mul (by rw [e8]; omega) (by rw [e8]; omega), e8]
      exact Or.inl ⟨c1, c2, by rw [tI_add (by omega) (by omega), em]⟩
    · rw [if_neg c2] at h0; exact absurd h0 (by decide)
  · rw [if_neg c1] at h0 ⊢
    by_cases c3 : m = 0 ∧ 8 ≤ w.toInt ∧ w.toInt ≤ 11
    · rw [if_pos c3]
      have e8 : (8 : Int32).toInt = 8 := rfl
      have e24 : (24 : Int32).toInt = 24 := rfl
      have ea : (24 + w : Int32).toInt = 24 + w.toInt := by rw [tI_add (by omega) (by omega), e24]
      exact Or.inr ⟨c3.2, c3.1, by rw [tI_sub (by omega) (by omega), ea, e8]; omega⟩
    · rw [if_neg c3] at h0; exact absurd h0 (by decide)
theorem fit_at {w v c : Int32} (hf : fitW w v) (h : w.toInt = c.toInt) (hc : ¬ c.toInt = 7) : fitP c v := by
  rcases hf with hf | ⟨h7, -⟩
  · rw [← Int32.toInt_inj.mp h]; exact hf
  · omega
/-- a number told at its place keeps all in their ranges -/
theorem NW_fit {s m w v p : Int32} {T : Nat → Int32} (h : NW s T) (hp : plF s m w = p) (h0 : 0 ≤ p.toInt) (hf : fitW w v) : NW s (fun k => if k = ix p then v else T k) := by
  obtain ⟨n0, n3, hs, g1, g2, g3, g4⟩ := h
  have hc := pl_cases n3 hp h0
  have hi := ix_nn h0
  refine ⟨n0, n3, fun i hi3 => ?_, ?_, ?_, ?_, ?_⟩
  · obtain ⟨a0, a1, a2, a3, a4, a5, a6, a7⟩ := hs i hi3
    refine ⟨upd1 a0 (fun e => (mb_0 v).mpr (fit_at hf ?_ (by decide))), upd1 a1 (fun e => (mb_1 v).mpr (fit_at hf ?_ (by decide))), upd1 a2 (fun e => (mb_2 v).mpr (fit_at hf ?_ (by decide))), upd1 a3 (fun e => (mb_3 v).mpr (fit_at hf ?_ (by decide))), upd1 a4 (fun e => (mb_4 v).mpr (fit_at hf ?_ (by decide))), upd1 a5 (fun e => (mb_5 v).mpr (fit_at hf ?_ (by decide))), upd1 a6 (fun e => (mb_6 v).mpr (fit_at hf ?_ (by decide))), upd1 a7 (fun e => by
      have hw7 : w.toInt = (7 : Int32).toInt := (by show w.toInt = 7; omega)
      rcases hf with hf | ⟨-, z⟩
      · rw [Int32.toInt_inj.mp hw7] at hf
        have := (mb_7 v).mpr hf
        omega
      · exact z)⟩
    · show w.toInt = 0; omega
    · show w.toInt = 1; omega
    · show w.toInt = 2; omega
    · show w.toInt = 3; omega
    · show w.toInt = 4; omega
    · show w.toInt = 5; omega
    · show w.toInt = 6; omega
  · exact upd1 g1 (fun e => (mb_8 v).mpr (fit_at hf (by show w.toInt = 8; omega) (by decide)))
  · exact upd1 g2 (fun e => (mb_9 v).mpr (fit_at hf (by show w.toInt = 9; omega) (by decide)))
  · exact upd1 g3 (fun e => (mb_10 v).mpr (fit_at hf (by show w.toInt = 10; omega) (by decide)))
  · exact upd1 g4 (fun e => (mb_11 v).mpr (fit_at hf (by show w.toInt = 11; omega) (by decide)))
theorem plOk_in {s p v : Int32} (hs : s.toInt ≤ 3) (h : plOk s p v) : vp_in p 28 := by
  obtain ⟨m, w, hp, h0, -⟩ := h
  rcases pl_cases hs hp h0 with ⟨a, c, e⟩ | ⟨a, c, e⟩
  · exact vin h0 (by omega)
  · exact vin h0 (by omega)
theorem c_undo {I IA IB : Is} {J : Js} {b : Bool}  {v1 v2 : Int32} (hR : Rel I J b) (q1 : (v1 = (undF I).1 ∧ IA = (undF I).2)) (q2 : (v2 = (unM IA).1 ∧ IB = (unM IA).2)) : v2 = v1 ∧ Rel IB J b := by
  have hR0 := hR
  obtain ⟨hA, hB, hC, hD, hE, hF⟩ := hR
  obtain ⟨hv, hI⟩ := q1
  obtain ⟨hv2, hI2⟩ := q2
  obtain ⟨d1, d2, ⟨d3, d4, d5⟩, d6, d7, d8, d9⟩ := hD
  obtain ⟨a1, a2, a3, a4, a5, a6, a7, a8⟩ := hA
  unfold undF at hv hI
  unfold unM at hv2 hI2
  have z0 : (0 : Int32).toInt = 0 := rfl
  by_cases c : 0 < (I 44 1).toInt
  · rw [if_pos c] at hv hI
    obtain ⟨q, hq⟩ : ∃ q, q = I 44 1 - 1 := ⟨_, rfl⟩
    have eq1 : q.toInt = (I 44 1).toInt - 1 := by rw [hq, tI_sub (by rw [one_int]; omega) (by rw [one_int]; omega), one_int]
    rw [← hq] at hv hI
    have hI : IA = u2 (u2 I 44 1 q) 2 (ix (I 45 (ix q))) (I 46 (ix q)) := hI
    have rA : ∀ k, k ≠ 44 → k ≠ 2 → IA k = I k := fun k h3 h4 => by rw [hI, u2_row h4, u2_row h3]
    have e5 : IA 64 5 = I 44 1 := by rw [rA 64 (by decide) (by decide)]; exact d1
    have e66 : IA 66 = I 45 := (rA 66 (by decide) (by decide)).trans d6
    have e67 : IA 67 = I 46 := (rA 67 (by decide) (by decide)).trans d7
    rw [e5, if_neg (fun z => by rw [z, z0] at c; omega), ← hq, e66, e67] at hv2 hI2
    have hI2 : IB = u2 (u2 IA 64 5 q) 65 (ix (I 45 (ix q))) (I 46 (ix q)) := hI2
    have hFF : FrM [2, 44, 65] [5] I IB := by rw [hI2, hI]; exact (((FrM.rf.st (by decide) (by decide)).st (by decide) (by decide)).sf (by decide)).st (by decide) (by decide)
    have hqi := ix_nn (show 0 ≤ q.toInt by omega)
    obtain ⟨m, w, hp, hp0, hf⟩ := (d9 (ix q) (by omega)).1
    have b2_ : IB 2 = fun k => if k = ix (I 45 (ix q)) then I 46 (ix q) else I 2 k := by
      rw [hI2, u2_row (t := 65) (t' := 2) (by decide), u2_row (t := 64) (t' := 2) (by decide), hI, u2_2, u2_row (t := 44) (t' := 2) (by decide)]
    have b65 : IB 65 = IB 2 := by
      rw [b2_, hI2, u2_65, u2_row (t := 64) (t' := 65) (by decide), rA 65 (by decide) (by decide), a2]
    have b44 : ∀ k, IB 44 k = if k = 1 then q else I 44 k := fun k => by
      rw [hI2, u2_row (t := 65) (t' := 44) (by decide), u2_row (t := 64) (t' := 44) (by decide), hI, u2_row (t := 2) (t' := 44) (by decide)]
      by_cases e : k = 1
      · rw [if_pos e, e, u2_same]
      · rw [if_neg e, u2_ne _ _ _ _ (Or.inr e)]
    have b441 : IB 44 1 = q := (b44 1).trans (if_pos rfl)
    have b440 : IB 44 0 = I 44 0 := (b44 0).trans (if_neg (by decide))
    have b645 : IB 64 5 = q := by rw [hI2, u2_row (t := 65) (t' := 64) (by decide), u2_same]
    have r1 : IB 1 = I 1 := hFF.1 1 (by decide) (by decide)
    have et : ∀ i, i < 4 → IB (tbL b + i) = I (tbL b + i) := fun i hi => by
      have ht := tbL_lt b
      exact hFF.1 _ (by omega) (by simp; omega)
    have et0 := et 0 (by decide)
    rw [Nat.add_zero] at et0
    refine ⟨hv2.trans hv.symm, ⟨?_, b65, ?_, ?_, ?_, ?_, ?_, ?_⟩, hB.fm hFF (by decide) (by decide), hC.fm hFF (by decide) (by decide), ⟨?_, ?_, ?_, ?_, ?_, ?_, ?_⟩, hE.fm hFF (by decide) (by decide), hF.fm hFF (by decide)⟩
    · rw [hFF.2 6 (by decide), r1]; exact a1
    · rw [r1, b2_]; exact NW_fit a3 hp hp0 hf
    · rw [hFF.2 12 (by decide), hFF.1 3 (by decide) (by decide)]; exact a4
    · rw [hFF.1 3 (by decide) (by decide)]; exact a5
    · rw [hFF.1 70 (by decide) (by decide), hFF.1 4 (by decide) (by decide)]; exact a6
    · unfold TW; rw [et0, et 2 (by decide)]; exact a7
    · rw [et0, et 1 (by decide), et 2 (by decide), et 3 (by decide), hFF.1 71 (by decide) (by decide), hFF.2 14 (by decide)]; exact a8
    · rw [b645, b441]
    · rw [hFF.2 4 (by decide), b440]; exact d2
    · rw [b441, b440]; exact ⟨by omega, by omega, d5⟩
    · rw [hFF.1 66 (by decide) (by decide), hFF.1 45 (by decide) (by decide)]; exact d6
    · rw [hFF.1 67 (by decide) (by decide), hFF.1 46 (by decide) (by decide)]; exact d7
    · rw [hFF.1 68 (by decide) (by decide), hFF.1 47 (by decide) (by decide)]; exact d8
    · rw [b440, r1, hFF.1 45 (by decide) (by decide), hFF.1 46 (by decide) (by decide), hFF.1 47 (by decide) (by decide)]; exact d9
  · rw [if_neg c] at hv hI
    have hI : IA = I := hI
    rw [hI, if_pos (show I 64 5 = 0 from Int32.toInt_inj.mp (by rw [d1, z0]; omega))] at hv2 hI2
    exact ⟨hv2.trans hv.symm, by rw [hI2]; exact hR0⟩
