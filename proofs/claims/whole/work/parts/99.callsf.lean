theorem NW_at {s m w p : Int32} {T : Nat → Int32} (h : NW s T) (hp : plF s m w = p) (h0 : 0 ≤ p.toInt) : fitW w (T (ix p)) := by
  obtain ⟨n0, n3, hs, g1, g2, g3, g4⟩ := h
  have hi := ix_nn h0
  rcases pl_cases n3 hp h0 with ⟨a, c, e⟩ | ⟨a, c, e⟩
  · obtain ⟨j, hj, rfl⟩ := nI_get (n := 8) a.1 (by omega) (by decide)
    have jj : (nI j).toInt = (j : Int) := nIint (by omega)
    have hm := ix_nn c.1
    obtain ⟨a0, a1, a2, a3, a4, a5, a6, a7⟩ := hs (ix m) (by omega)
    have hx : ix p = 8 * ix m + j := by omega
    rw [hx]
    rcases (show j = 0 ∨ j = 1 ∨ j = 2 ∨ j = 3 ∨ j = 4 ∨ j = 5 ∨ j = 6 ∨ j = 7 by omega) with rfl | rfl | rfl | rfl | rfl | rfl | rfl | rfl
    · exact Or.inl ((mb_0 _).mp a0)
    · exact Or.inl ((mb_1 _).mp a1)
    · exact Or.inl ((mb_2 _).mp a2)
    · exact Or.inl ((mb_3 _).mp a3)
    · exact Or.inl ((mb_4 _).mp a4)
    · exact Or.inl ((mb_5 _).mp a5)
    · exact Or.inl ((mb_6 _).mp a6)
    · exact Or.inr ⟨by decide, a7⟩
  · obtain ⟨j, hj, rfl⟩ := nI_get (n := 12) (by omega : 0 ≤ w.toInt) (by omega) (by decide)
    have jj : (nI j).toInt = (j : Int) := nIint (by omega)
    rcases (show j = 8 ∨ j = 9 ∨ j = 10 ∨ j = 11 by omega) with rfl | rfl | rfl | rfl
    · rw [show ix p = 24 by omega]; exact Or.inl ((mb_8 _).mp g1)
    · rw [show ix p = 25 by omega]; exact Or.inl ((mb_9 _).mp g2)
    · rw [show ix p = 26 by omega]; exact Or.inl ((mb_10 _).mp g3)
    · rw [show ix p = 27 by omega]; exact Or.inl ((mb_11 _).mp g4)
theorem c_mend {I IX IA IB : Is} {J : Js} {b : Bool} {m w v v1 v2 : Int32} (hR : Rel I J b)
    (q1 : (¬ (0 ≤ (plF (I 1 1) m w).toInt ∧ fitP w v) ∧ v1 = -2000000000 ∧ IA = I) ∨ ((0 ≤ (plF (I 1 1) m w).toInt ∧ fitP w v) ∧ v1 = I 2 (ix (plF (I 1 1) m w)) ∧ ((I 2 (ix (plF (I 1 1) m w)) = v ∧ IA = I) ∨ (¬ I 2 (ix (plF (I 1 1) m w)) = v ∧ ((∀ k, IX 45 k = if k = ix (dnD (I 44 1)) then (plF (I 1 1) m w) else dnR (I 44 1) (I 45) k) ∧ (∀ k, IX 46 k = if k = ix (dnD (I 44 1)) then (I 2 (ix (plF (I 1 1) m w))) else dnR (I 44 1) (I 46) k) ∧ (∀ k, IX 47 k = if k = ix (dnD (I 44 1)) then v else dnR (I 44 1) (I 47) k) ∧ IX 44 1 = dnD (I 44 1) + 1 ∧ IX 44 0 = dnD (I 44 1) + 1 ∧ Fr [44, 45, 46, 47] I IX) ∧ IA = u2 IX 2 (ix (plF (I 1 1) m w)) v))))
    (q2 : (¬ (0 ≤ (plM (IA 64 6) m w).toInt ∧ fitP w v) ∧ v2 = -2000000000 ∧ IB = IA) ∨ ((0 ≤ (plM (IA 64 6) m w).toInt ∧ fitP w v) ∧ v2 = IA 65 (ix (plM (IA 64 6) m w)) ∧ ((IA 65 (ix (plM (IA 64 6) m w)) = v ∧ IB = IA) ∨ (¬ IA 65 (ix (plM (IA 64 6) m w)) = v ∧ ((∀ k, IB 66 k = if k = ix (dnD (IA 64 5)) then (plM (IA 64 6) m w) else dnR (IA 64 5) (IA 66) k) ∧ (∀ k, IB 67 k = if k = ix (dnD (IA 64 5)) then IA 65 (ix (plM (IA 64 6) m w)) else dnR (IA 64 5) (IA 67) k) ∧ (∀ k, IB 68 k = if k = ix (dnD (IA 64 5)) then v else dnR (IA 64 5) (IA 68) k) ∧ IB 64 5 = dnD (IA 64 5) + 1 ∧ IB 64 4 = dnD (IA 64 5) + 1 ∧ (∀ k, IB 65 k = if k = ix (plM (IA 64 6) m w) then v else IA 65 k) ∧ FrM [65, 66, 67, 68] [4, 5] IA IB))))) : v2 = v1 ∧ Rel IB J b := by
  have hR0 := hR
  rw [pl_eq] at q2
  rcases q1 with ⟨c1, hv, hI⟩ | ⟨c1, hv, ⟨c2, hI⟩ | ⟨c2, ⟨x1, x2, x3, x4, x5, hF1⟩, hI⟩⟩
  · rw [hI, hR.1.1] at q2
    rcases q2 with ⟨d, hv2, hI2⟩ | ⟨d, -⟩
    · exact ⟨hv2.trans hv.symm, by rw [hI2]; exact hR⟩
    · exact absurd d c1
  · rw [hI, hR.1.1, hR.1.2.1] at q2
    rcases q2 with ⟨d, -⟩ | ⟨d, hv2, ⟨d2, hI2⟩ | ⟨d2, -⟩⟩
    · exact absurd c1 d
    · exact ⟨hv2.trans hv.symm, by rw [hI2]; exact hR⟩
    · exact absurd c2 d2
  · obtain ⟨hA, hB, hC, hD, hE, hF⟩ := hR
    obtain ⟨a1, a2, a3, a4, a5, a6, a7, a8⟩ := hA
    obtain ⟨d1, d2, ⟨d3, d4, d5⟩, d6, d7, d8, d9⟩ := hD
    obtain ⟨p, hp⟩ : ∃ p, plF (I 1 1) m w = p := ⟨_, rfl⟩
    have hFA : FrM [2, 44, 45, 46, 47] [] I IA := by rw [hI]; exact ((hF1.fm (by decide)).mo (by decide) (by decide)).st (by decide) (by decide)
    have h64 : ∀ k, IA 64 k = I 64 k := fun k => hFA.2 k (by simp)
    have e65 : IA 65 = I 2 := (hFA.1 65 (by decide) (by decide)).trans a2
    have e66 : IA 66 = I 45 := (hFA.1 66 (by decide) (by decide)).trans d6
    have e67 : IA 67 = I 46 := (hFA.1 67 (by decide) (by decide)).trans d7
    have e68 : IA 68 = I 47 := (hFA.1 68 (by decide) (by decide)).trans d8
    rw [h64, h64, a1, d1, e65, e66, e67, e68, hp] at q2
    rw [hp] at c1 c2 hv x1 x2 hI
    rcases q2 with ⟨d, -⟩ | ⟨d, hv2, ⟨k2, -⟩ | ⟨k2, y1, y2, y3, y4, y5, y6, hF2⟩⟩
    · exact absurd c1 d
    · exact absurd k2 c2
    have hFF : FrM [2, 44, 45, 46, 47, 65, 66, 67, 68] [4, 5] I IB := hFA.tr hF2 (by decide) (by decide) (by decide) (by decide)
    have rX : ∀ c, c ∈ [44, 45, 46, 47] → IB c = IX c := fun c hc => by
      have hn : c ∉ [65, 66, 67, 68] := by revert hc; revert c; decide
      have h2 : c ≠ 2 := fun e => by rw [e] at hc; exact absurd hc (by decide)
      rw [hF2.1 c (by intro e; rw [e] at hc; exact absurd hc (by decide)) hn, hI, u2_row h2]
    have b2_ : IB 2 = fun k => if k = ix p then v else I 2 k := by
      rw [hF2.1 2 (by decide) (by decide), hI, u2_2, hF1 2 (by decide)]
    have r1 : IB 1 = I 1 := hFF.1 1 (by decide) (by decide)
    have et : ∀ i, i < 4 → IB (tbL b + i) = I (tbL b + i) := fun i hi => by
      have ht := tbL_lt b
      exact hFF.1 _ (by omega) (by simp; omega)
    have et0 := et 0 (by decide)
    rw [Nat.add_zero] at et0
    have z39 : (39 : Int32).toInt = 39 := rfl
    have hdr : 0 ≤ (dnD (I 44 1)).toInt ∧ (dnD (I 44 1)).toInt ≤ 39 ∧ (dnD (I 44 1)).toInt ≤ (I 44 1).toInt := by
      unfold dnD
      by_cases c : 40 ≤ (I 44 1).toInt
      · rw [if_pos c, z39]; omega
      · rw [if_neg c]; omega
    have eD : (dnD (I 44 1) + 1).toInt = (dnD (I 44 1)).toInt + 1 := by rw [tI_add (by rw [one_int]; omega) (by rw [one_int]; omega), one_int]
    have hDi := ix_nn hdr.1
    have hold : ∀ k : Nat, (k : Int) < (dnD (I 44 1)).toInt → ∃ q : Nat, (q : Int) < (I 44 0).toInt ∧ ∀ r : Nat → Int32, dnR (I 44 1) r k = r q := fun k hk => by
      by_cases c : 40 ≤ (I 44 1).toInt
      · exact ⟨k + 1, by omega, fun r => by unfold dnR dnF; rw [if_pos c, if_pos (by omega)]⟩
      · exact ⟨k, by omega, fun r => by unfold dnR; rw [if_neg c]⟩
    refine ⟨by rw [hv2, hv], ⟨?_, ?_, ?_, ?_, ?_, ?_, ?_, ?_⟩, hB.fm hFF (by decide) (by decide), hC.fm hFF (by decide) (by decide), ⟨?_, ?_, ?_, ?_, ?_, ?_, ?_⟩, hE.fm hFF (by decide) (by decide), hF.fm hFF (by decide)⟩
    · rw [hFF.2 6 (by decide), r1]; exact a1
    · funext k; rw [y6, b2_]
    · rw [r1, b2_]; exact NW_fit a3 hp c1.1 (Or.inl c1.2)
    · rw [hFF.2 12 (by decide), hFF.1 3 (by decide) (by decide)]; exact a4
    · rw [hFF.1 3 (by decide) (by decide)]; exact a5
    · rw [hFF.1 70 (by decide) (by decide), hFF.1 4 (by decide) (by decide)]; exact a6
    · unfold TW; rw [et0, et 2 (by decide)]; exact a7
    · rw [et0, et 1 (by decide), et 2 (by decide), et 3 (by decide), hFF.1 71 (by decide) (by decide), hFF.2 14 (by decide)]; exact a8
    · rw [y4, rX 44 (by decide), x4]
    · rw [y5, rX 44 (by decide), x5]
    · rw [rX 44 (by decide), x4, x5, eD]; omega
    · funext k; rw [y1, rX 45 (by decide), x1]
    · funext k; rw [y2, rX 46 (by decide), x2]
    · funext k; rw [y3, rX 47 (by decide), x3]
    · intro k hk
      rw [rX 44 (by decide), x5, eD] at hk
      rw [r1, rX 45 (by decide), rX 46 (by decide), rX 47 (by decide), x1, x2, x3]
      by_cases e : k = ix (dnD (I 44 1))
      · rw [if_pos e, if_pos e, if_pos e]
        exact ⟨⟨m, w, hp, c1.1, NW_at a3 hp c1.1⟩, ⟨m, w, hp, c1.1, Or.inl c1.2⟩⟩
      · rw [if_neg e, if_neg e, if_neg e]
        obtain ⟨q, hq, hr⟩ := hold k (by omega)
        rw [hr, hr, hr]
        exact d9 q hq
