theorem Sm.lr {I A B : Is} (h : Sm I A) (g : Sm I B) : Sm A B := ⟨fun c hc hl => (g.1 c hc hl).trans (h.1 c hc hl).symm, fun c hc hl => (g.2.1 c hc hl).trans (h.2.1 c hc hl).symm, fun k hk => (g.2.2 k hk).trans (h.2.2 k hk).symm⟩
theorem ot_cg {f f' : Nat → Int32} {j : Nat} : ∀ n, n ≤ 3 → (∀ k, k < 3 → f k = f' k) → otF f j n = otF f' j n := by
  intro n
  induction n with
  | zero => intro _ _; rfl
  | succ n ih =>
    intro hn h
    show (if n = j then otF f j n else otF f j n + f n) = if n = j then otF f' j n else otF f' j n + f' n
    rw [ih (by omega) h, h n (by omega)]
theorem c_holeFor {I IA IB : Is} {J : Js} {b : Bool} {k : Int32} {h : Int32} {n : Int32} {v1 v2 : Int32} (hR : Rel I J b) (q1 : (¬ (inS I k ∧ inR h 999 ∧ inR n 60) ∧ v1 = -2000000000 ∧ IA = I) ∨ ((inS I k ∧ inR h 999 ∧ inR n 60) ∧ ∃ I1 : Is, Fr [32, 33, 34, 35, 36, 37, 14, 15] I I1 ∧ v1 = (otF (drW I b (8 * ix k + 6) h (I 1 1).toInt.toNat (ix n)).2.2.2.2.1 (ix k) (I 1 1).toInt.toNat) - (otF (drW I1 b (8 * ix k + 6) (-1) (I 1 1).toInt.toNat (ix n)).2.2.2.2.1 (ix k) (I 1 1).toInt.toNat) ∧ Fr [32, 33, 34, 35, 36, 37, 14, 15] I IA)) (q2 : (¬ (inM IA k ∧ inR h 999 ∧ inR n 60) ∧ v2 = -2000000000 ∧ IB = IA) ∨ ((inM IA k ∧ inR h 999 ∧ inR n 60) ∧ v2 = otF (gaM IA (8 * ix k + 6) h (ix n)).2.2.2.2.1 (ix k) (IA 64 6).toInt.toNat - otF (gaM IA (8 * ix k + 6) (-1) (ix n)).2.2.2.2.1 (ix k) (IA 64 6).toInt.toNat ∧ FrM RTM FTM IA IB)) : v2 = v1 ∧ Rel IB J b := by
  rcases q1 with ⟨c1, hv, hI⟩ | ⟨c1, IX, hFX, hv, hF⟩
  · rw [hI] at q2
    rcases q2 with ⟨d, hv2, hI2⟩ | ⟨d, -⟩
    · exact ⟨hv2.trans hv.symm, by rw [hI2]; exact hR⟩
    · exact absurd ⟨(inM_iff hR.1.1 k).mp d.1, d.2⟩ c1
  · have s1 := Sm.fr hF (by decide)
    have sX := Sm.fr hFX (by decide)
    obtain ⟨en1, gl1, e6⟩ := rel_1 hR s1
    rcases q2 with ⟨d, -⟩ | ⟨-, hv2, hF2⟩
    · exact absurd ⟨(inM_iff e6 k).mpr c1.1, c1.2⟩ d
    · refine ⟨?_, hR.sm (Sm.of hF hF2 (by decide) (by decide))⟩
      have hj : ((ix k : Nat) : Int) < (I 1 1).toInt := by rw [ix_nn c1.1.1]; exact c1.1.2
      have hs3 : (I 1 1).toInt.toNat ≤ 3 := by have := hR.1.2.2.1.2.1; omega
      have eX : IX 1 = I 1 := hFX 1 (by decide)
      have h1 := (dr_ga hR s1 hj (w := 6) (v := h) (Or.inr (Or.inr (Or.inl ⟨rfl, by have := c1.2.1.1; omega, c1.2.1.2⟩))) (ix n)).1
      have h2 := (dr_ga (hR.sm sX) (sX.lr s1) (by rw [eX]; exact hj) (w := 6) (v := -1) (Or.inr (Or.inr (Or.inl ⟨rfl, by decide, by decide⟩))) (ix n)).1
      rw [eX] at h2
      rw [hv2, hv, e6, ot_cg _ hs3 h1, ot_cg _ hs3 h2]
theorem rn_st {n own k a x c up bo : Int32} (m : Nat) (h1 : owF a 8 k = c) (h2 : ¬ c.toInt < 0) (h3 : abvF c = up) (h4 : ownF c a = bo) : runF n own (m + 1) k a x = ((rnB n own up x (runF n own m) bo).1, bo :: (rnB n own up x (runF n own m) bo).2) := by
  show (if (owF a 8 k).toInt < 0 then _ else ((rnB n own (abvF (owF a 8 k)) x (runF n own m) (ownF (owF a 8 k) a)).1, ownF (owF a 8 k) a :: (rnB n own (abvF (owF a 8 k)) x (runF n own m) (ownF (owF a 8 k) a)).2)) = _
  rw [h1, if_neg h2, h3, h4]
theorem rt_0_0 {n own x : Int32} (m : Nat) : runF n own (m + 1) 0 0 x = ((rnB n own (-1) x (runF n own m) 1).1, 1 :: (rnB n own (-1) x (runF n own m) 1).2) := rn_st (c := 0) m (by decide) (by decide) (by decide) (by decide)
theorem rt_0_1 {n own x : Int32} (m : Nat) : runF n own (m + 1) 1 0 x = ((rnB n own (0) x (runF n own m) 20).1, 20 :: (rnB n own (0) x (runF n own m) 20).2) := rn_st (c := 1) m (by decide) (by decide) (by decide) (by decide)
theorem rt_0_2 {n own x : Int32} (m : Nat) : runF n own (m + 1) 2 0 x = ((rnB n own (-1) x (runF n own m) 1).1, 1 :: (rnB n own (-1) x (runF n own m) 1).2) := rn_st (c := 0) m (by decide) (by decide) (by decide) (by decide)
theorem rt_0_3 {n own x : Int32} (m : Nat) : runF n own (m + 1) 3 0 x = ((rnB n own (-1) x (runF n own m) 1).1, 1 :: (rnB n own (-1) x (runF n own m) 1).2) := rn_st (c := 0) m (by decide) (by decide) (by decide) (by decide)
theorem rt_0_4 {n own x : Int32} (m : Nat) : runF n own (m + 1) 4 0 x = ((rnB n own (0) x (runF n own m) 20).1, 20 :: (rnB n own (0) x (runF n own m) 20).2) := rn_st (c := 1) m (by decide) (by decide) (by decide) (by decide)
theorem rt_0_5 {n own x : Int32} (m : Nat) : runF n own (m + 1) 5 0 x = ((rnB n own (-1) x (runF n own m) 1).1, 1 :: (rnB n own (-1) x (runF n own m) 1).2) := rn_st (c := 0) m (by decide) (by decide) (by decide) (by decide)
theorem rt_0_6 {n own x : Int32} (m : Nat) : runF n own (m + 1) 6 0 x = ((rnB n own (0) x (runF n own m) 70).1, 70 :: (rnB n own (0) x (runF n own m) 70).2) := rn_st (c := 6) m (by decide) (by decide) (by decide) (by decide)
theorem rt_0_7 {n own x : Int32} (m : Nat) : runF n own (m + 1) 7 0 x = ((rnB n own (0) x (runF n own m) 20).1, 20 :: (rnB n own (0) x (runF n own m) 20).2) := rn_st (c := 1) m (by decide) (by decide) (by decide) (by decide)
theorem rt_1_0 {n own x : Int32} (m : Nat) : runF n own (m + 1) 0 1 x = ((rnB n own (-1) x (runF n own m) 10).1, 10 :: (rnB n own (-1) x (runF n own m) 10).2) := rn_st (c := 0) m (by decide) (by decide) (by decide) (by decide)
theorem rt_1_1 {n own x : Int32} (m : Nat) : runF n own (m + 1) 1 1 x = ((rnB n own (-1) x (runF n own m) 10).1, 10 :: (rnB n own (-1) x (runF n own m) 10).2) := rn_st (c := 0) m (by decide) (by decide) (by decide) (by decide)
theorem rt_1_2 {n own x : Int32} (m : Nat) : runF n own (m + 1) 2 1 x = ((rnB n own (0) x (runF n own m) 30).1, 30 :: (rnB n own (0) x (runF n own m) 30).2) := rn_st (c := 2) m (by decide) (by decide) (by decide) (by decide)
theorem rt_1_3 {n own x : Int32} (m : Nat) : runF n own (m + 1) 3 1 x = ((rnB n own (2) x (runF n own m) 41).1, 41 :: (rnB n own (2) x (runF n own m) 41).2) := rn_st (c := 3) m (by decide) (by decide) (by decide) (by decide)
theorem rt_1_4 {n own x : Int32} (m : Nat) : runF n own (m + 1) 4 1 x = ((rnB n own (-1) x (runF n own m) 10).1, 10 :: (rnB n own (-1) x (runF n own m) 10).2) := rn_st (c := 0) m (by decide) (by decide) (by decide) (by decide)
theorem rt_1_5 {n own x : Int32} (m : Nat) : runF n own (m + 1) 5 1 x = ((rnB n own (2) x (runF n own m) 41).1, 41 :: (rnB n own (2) x (runF n own m) 41).2) := rn_st (c := 3) m (by decide) (by decide) (by decide) (by decide)
theorem rt_1_6 {n own x : Int32} (m : Nat) : runF n own (m + 1) 6 1 x = ((rnB n own (-1) x (runF n own m) 10).1, 10 :: (rnB n own (-1) x (runF n own m) 10).2) := rn_st (c := 0) m (by decide) (by decide) (by decide) (by decide)
theorem rt_1_7 {n own x : Int32} (m : Nat) : runF n own (m + 1) 7 1 x = ((rnB n own (4) x (runF n own m) 80).1, 80 :: (rnB n own (4) x (runF n own m) 80).2) := rn_st (c := 7) m (by decide) (by decide) (by decide) (by decide)
theorem rt_2_0 {n own x : Int32} (m : Nat) : runF n own (m + 1) 0 2 x = ((rnB n own (-1) x (runF n own m) 11).1, 11 :: (rnB n own (-1) x (runF n own m) 11).2) := rn_st (c := 0) m (by decide) (by decide) (by decide) (by decide)
theorem rt_2_1 {n own x : Int32} (m : Nat) : runF n own (m + 1) 1 2 x = ((rnB n own (-1) x (runF n own m) 11).1, 11 :: (rnB n own (-1) x (runF n own m) 11).2) := rn_st (c := 0) m (by decide) (by decide) (by decide) (by decide)
theorem rt_2_2 {n own x : Int32} (m : Nat) : runF n own (m + 1) 2 2 x = ((rnB n own (-1) x (runF n own m) 11).1, 11 :: (rnB n own (-1) x (runF n own m) 11).2) := rn_st (c := 0) m (by decide) (by decide) (by decide) (by decide)
theorem rt_2_3 {n own x : Int32} (m : Nat) : runF n own (m + 1) 3 2 x = ((rnB n own (2) x (runF n own m) 40).1, 40 :: (rnB n own (2) x (runF n own m) 40).2) := rn_st (c := 3) m (by decide) (by decide) (by decide) (by decide)
theorem rt_2_4 {n own x : Int32} (m : Nat) : runF n own (m + 1) 4 2 x = ((rnB n own (1) x (runF n own m) 50).1, 50 :: (rnB n own (1) x (runF n own m) 50).2) := rn_st (c := 4) m (by decide) (by decide) (by decide) (by decide)
theorem rt_2_5 {n own x : Int32} (m : Nat) : runF n own (m + 1) 5 2 x = ((rnB n own (2) x (runF n own m) 40).1, 40 :: (rnB n own (2) x (runF n own m) 40).2) := rn_st (c := 3) m (by decide) (by decide) (by decide) (by decide)
theorem rt_2_6 {n own x : Int32} (m : Nat) : runF n own (m + 1) 6 2 x = ((rnB n own (-1) x (runF n own m) 11).1, 11 :: (rnB n own (-1) x (runF n own m) 11).2) := rn_st (c := 0) m (by decide) (by decide) (by decide) (by decide)
theorem rt_2_7 {n own x : Int32} (m : Nat) : runF n own (m + 1) 7 2 x = ((rnB n own (1) x (runF n own m) 50).1, 50 :: (rnB n own (1) x (runF n own m) 50).2) := rn_st (c := 4) m (by decide) (by decide) (by decide) (by decide)
theorem rt_3_0 {n own x : Int32} (m : Nat) : runF n own (m + 1) 0 3 x = ((rnB n own (-1) x (runF n own m) 2).1, 2 :: (rnB n own (-1) x (runF n own m) 2).2) := rn_st (c := 0) m (by decide) (by decide) (by decide) (by decide)
theorem rt_3_1 {n own x : Int32} (m : Nat) : runF n own (m + 1) 1 3 x = ((rnB n own (-1) x (runF n own m) 2).1, 2 :: (rnB n own (-1) x (runF n own m) 2).2) := rn_st (c := 0) m (by decide) (by decide) (by decide) (by decide)
theorem rt_3_2 {n own x : Int32} (m : Nat) : runF n own (m + 1) 2 3 x = ((rnB n own (-1) x (runF n own m) 2).1, 2 :: (rnB n own (-1) x (runF n own m) 2).2) := rn_st (c := 0) m (by decide) (by decide) (by decide) (by decide)
theorem rt_3_3 {n own x : Int32} (m : Nat) : runF n own (m + 1) 3 3 x = ((rnB n own (-1) x (runF n own m) 2).1, 2 :: (rnB n own (-1) x (runF n own m) 2).2) := rn_st (c := 0) m (by decide) (by decide) (by decide) (by decide)
theorem rt_3_4 {n own x : Int32} (m : Nat) : runF n own (m + 1) 4 3 x = ((rnB n own (-1) x (runF n own m) 2).1, 2 :: (rnB n own (-1) x (runF n own m) 2).2) := rn_st (c := 0) m (by decide) (by decide) (by decide) (by decide)
theorem rt_3_5 {n own x : Int32} (m : Nat) : runF n own (m + 1) 5 3 x = ((rnB n own (3) x (runF n own m) 60).1, 60 :: (rnB n own (3) x (runF n own m) 60).2) := rn_st (c := 5) m (by decide) (by decide) (by decide) (by decide)
theorem rt_3_6 {n own x : Int32} (m : Nat) : runF n own (m + 1) 6 3 x = ((rnB n own (-1) x (runF n own m) 2).1, 2 :: (rnB n own (-1) x (runF n own m) 2).2) := rn_st (c := 0) m (by decide) (by decide) (by decide) (by decide)
theorem rt_3_7 {n own x : Int32} (m : Nat) : runF n own (m + 1) 7 3 x = ((rnB n own (4) x (runF n own m) 81).1, 81 :: (rnB n own (4) x (runF n own m) 81).2) := rn_st (c := 7) m (by decide) (by decide) (by decide) (by decide)
theorem rd_all {n own k x : Int32} (hk : k = 0 ∨ k = 1 ∨ k = 2 ∨ k = 3 ∨ k = 4 ∨ k = 5 ∨ k = 6 ∨ k = 7) (m : Nat) : runF n own (m + 2) k 0 x = drM n k x := by
  rcases hk with rfl | rfl | rfl | rfl | rfl | rfl | rfl | rfl
  · rw [rt_0_0 (m + 1)]
    rfl
  · rw [rt_0_1 (m + 1)]
    show ((runF n own (m + 1) 0 0 x).1 + 3, 20 :: (runF n own (m + 1) 0 0 x).2) = _
    rw [rt_0_0 m]
    rfl
  · rw [rt_0_2 (m + 1)]
    rfl
  · rw [rt_0_3 (m + 1)]
    rfl
  · rw [rt_0_4 (m + 1)]
    show ((runF n own (m + 1) 0 0 x).1 + 3, 20 :: (runF n own (m + 1) 0 0 x).2) = _
    rw [rt_0_0 m]
    rfl
  · rw [rt_0_5 (m + 1)]
    rfl
  · rw [rt_0_6 (m + 1)]
    show ((runF n own (m + 1) 0 0 x).1 * 2, 70 :: (runF n own (m + 1) 0 0 x).2) = _
    rw [rt_0_0 m]
    rfl
  · rw [rt_0_7 (m + 1)]
    show ((runF n own (m + 1) 0 0 x).1 + 3, 20 :: (runF n own (m + 1) 0 0 x).2) = _
    rw [rt_0_0 m]
    rfl
theorem rs_all {n own k x : Int32} (ho : own = 0 ∨ own = 1 ∨ own = 2 ∨ own = 3 ∨ own = 4 ∨ own = 5 ∨ own = 6 ∨ own = 7) (hk : k = 0 ∨ k = 1 ∨ k = 2 ∨ k = 3 ∨ k = 4 ∨ k = 5 ∨ k = 6 ∨ k = 7) (m : Nat) : runF n own (m + 5) k 2 x = rsM n own k x := by
  rcases hk with rfl | rfl | rfl | rfl | rfl | rfl | rfl | rfl
  · rw [rt_2_0 (m + 4)]
    rfl
  · rw [rt_2_1 (m + 4)]
    rfl
  · rw [rt_2_2 (m + 4)]
    rfl
  · rw [rt_2_3 (m + 4)]
    show ((runF n own (m + 4) 2 2 x).1 * 3, 40 :: (runF n own (m + 4) 2 2 x).2) = _
    rw [rt_2_2 (m + 3)]
    rfl
  · rw [rt_2_4 (m + 4)]
    show ((runF n own (m + 4) 1 2 x).1 - (runF n own (m + 4) own 0 2).1, 50 :: ((runF n own (m + 4) 1 2 x).2 ++ (runF n own (m + 4) own 0 2).2)) = _
    rw [rt_2_1 (m + 3), rd_all ho (m + 2)]
    rfl
  · rw [rt_2_5 (m + 4)]
    show ((runF n own (m + 4) 2 2 x).1 * 3, 40 :: (runF n own (m + 4) 2 2 x).2) = _
    rw [rt_2_2 (m + 3)]
    rfl
  · rw [rt_2_6 (m + 4)]
    rfl
  · rw [rt_2_7 (m + 4)]
    show ((runF n own (m + 4) 1 2 x).1 - (runF n own (m + 4) own 0 2).1, 50 :: ((runF n own (m + 4) 1 2 x).2 ++ (runF n own (m + 4) own 0 2).2)) = _
    rw [rt_2_1 (m + 3), rd_all ho (m + 2)]
    rfl
theorem rg_0 {n own k x : Int32} (ho : own = 0 ∨ own = 1 ∨ own = 2 ∨ own = 3 ∨ own = 4 ∨ own = 5 ∨ own = 6 ∨ own = 7) (m : Nat) (h : runF n own (m + 3) k 1 x = ((rnB n own (-1) x (runF n own (m + 2)) 10).1, 10 :: (rnB n own (-1) x (runF n own (m + 2)) 10).2)) : runF n own (m + 3) k 1 x = ge0M n own x := by
  rw [h]
  show ((runF n own (m + 2) own 0 x).1 * 2, 10 :: (runF n own (m + 2) own 0 x).2) = _
  rw [rd_all ho m]
  rfl
theorem rg_all {n own k x : Int32} (ho : own = 0 ∨ own = 1 ∨ own = 2 ∨ own = 3 ∨ own = 4 ∨ own = 5 ∨ own = 6 ∨ own = 7) (hk : k = 0 ∨ k = 1 ∨ k = 2 ∨ k = 3 ∨ k = 4 ∨ k = 5 ∨ k = 6 ∨ k = 7) (m : Nat) : runF n own (m + 9) k 1 x = geM n own k x := by
  rcases hk with rfl | rfl | rfl | rfl | rfl | rfl | rfl | rfl
  · exact (rg_0 ho (m + 6) (rt_1_0 (m + 8))).trans rfl
  · exact (rg_0 ho (m + 6) (rt_1_1 (m + 8))).trans rfl
  · rw [rt_1_2 (m + 8)]
    show (-(runF n own (m + 8) 0 1 x).1, 30 :: (runF n own (m + 8) 0 1 x).2) = _
    rw [rg_0 ho (m + 5) (rt_1_0 (m + 7))]
    rfl
  · rw [rt_1_3 (m + 8)]
    show ((runF n own (m + 8) 2 1 (x + 1)).1, 41 :: (runF n own (m + 8) 2 1 (x + 1)).2) = _
    rw [rt_1_2 (m + 7)]
    show (-(runF n own (m + 7) 0 1 (x + 1)).1, 41 :: 30 :: (runF n own (m + 7) 0 1 (x + 1)).2) = _
    rw [rg_0 ho (m + 4) (rt_1_0 (m + 6))]
    rfl
  · exact (rg_0 ho (m + 6) (rt_1_4 (m + 8))).trans rfl
  · rw [rt_1_5 (m + 8)]
    show ((runF n own (m + 8) 2 1 (x + 1)).1, 41 :: (runF n own (m + 8) 2 1 (x + 1)).2) = _
    rw [rt_1_2 (m + 7)]
    show (-(runF n own (m + 7) 0 1 (x + 1)).1, 41 :: 30 :: (runF n own (m + 7) 0 1 (x + 1)).2) = _
    rw [rg_0 ho (m + 4) (rt_1_0 (m + 6))]
    rfl
  · exact (rg_0 ho (m + 6) (rt_1_6 (m + 8))).trans rfl
  · rw [rt_1_7 (m + 8)]
    show ((runF n own (m + 8) 4 1 x).1 + (runF n own (m + 8) own 2 2).1, 80 :: ((runF n own (m + 8) 4 1 x).2 ++ (runF n own (m + 8) own 2 2).2)) = _
    rw [rg_0 ho (m + 5) (rt_1_4 (m + 7)), rs_all ho ho (m + 3)]
    rfl
theorem rt_0 {n own k x : Int32} (ho : own = 0 ∨ own = 1 ∨ own = 2 ∨ own = 3 ∨ own = 4 ∨ own = 5 ∨ own = 6 ∨ own = 7) (m : Nat) (h : runF n own (m + 10) k 3 x = ((rnB n own (-1) x (runF n own (m + 9)) 2).1, 2 :: (rnB n own (-1) x (runF n own (m + 9)) 2).2)) : runF n own (m + 10) k 3 x = te0M n own x := by
  rw [h]
  show ((runF n own (m + 9) own 1 x).1 - (runF n own (m + 9) own 2 1).1, 2 :: ((runF n own (m + 9) own 1 x).2 ++ (runF n own (m + 9) own 2 1).2)) = _
  rw [rg_all ho ho m, rs_all ho ho (m + 4)]
  rfl
theorem rl_all {n own k x : Int32} (ho : own = 0 ∨ own = 1 ∨ own = 2 ∨ own = 3 ∨ own = 4 ∨ own = 5 ∨ own = 6 ∨ own = 7) (hk : k = 0 ∨ k = 1 ∨ k = 2 ∨ k = 3 ∨ k = 4 ∨ k = 5 ∨ k = 6 ∨ k = 7) (m : Nat) : runF n own (m + 11) k 3 x = teM n own k x := by
  rcases hk with rfl | rfl | rfl | rfl | rfl | rfl | rfl | rfl
  · exact (rt_0 ho (m + 1) (rt_3_0 (m + 10))).trans rfl
  · exact (rt_0 ho (m + 1) (rt_3_1 (m + 10))).trans rfl
  · exact (rt_0 ho (m + 1) (rt_3_2 (m + 10))).trans rfl
  · exact (rt_0 ho (m + 1) (rt_3_3 (m + 10))).trans rfl
  · exact (rt_0 ho (m + 1) (rt_3_4 (m + 10))).trans rfl
  · rw [rt_3_5 (m + 10)]
    show ((runF n own (m + 10) 3 3 x).1 ^^^ 5, 60 :: (runF n own (m + 10) 3 3 x).2) = _
    rw [rt_0 ho m (rt_3_3 (m + 9))]
    rfl
  · exact (rt_0 ho (m + 1) (rt_3_6 (m + 10))).trans rfl
  · rw [rt_3_7 (m + 10)]
    show ((runF n own (m + 10) 4 3 x).1 - 1, 81 :: (runF n own (m + 10) 4 3 x).2) = _
    rw [rt_0 ho m (rt_3_4 (m + 9))]
    rfl
theorem k7_or {k : Int32} (h0 : 0 ≤ k.toInt) (h7 : k.toInt ≤ 7) : k = 0 ∨ k = 1 ∨ k = 2 ∨ k = 3 ∨ k = 4 ∨ k = 5 ∨ k = 6 ∨ k = 7 := by
  obtain ⟨j, hj, rfl⟩ := nI_get (n := 8) h0 (by omega) (by decide)
  rcases (show j = 0 ∨ j = 1 ∨ j = 2 ∨ j = 3 ∨ j = 4 ∨ j = 5 ∨ j = 6 ∨ j = 7 by omega) with rfl | rfl | rfl | rfl | rfl | rfl | rfl | rfl <;> decide
/-- an act's answer and what ran: the class's and the reference's -/
theorem run_rn {n own a x : Int32} (h0 : 0 ≤ own.toInt) (h7 : own.toInt ≤ 7) (ha : 0 ≤ a.toInt) (ha4 : a.toInt < 4) : runF n own 41 own a x = rnM n own a x := by
  have ho := k7_or h0 h7
  obtain ⟨j, hj, rfl⟩ := nI_get (n := 4) ha ha4 (by decide)
  rcases (show j = 0 ∨ j = 1 ∨ j = 2 ∨ j = 3 by omega) with rfl | rfl | rfl | rfl
  · exact (rd_all ho 39).trans rfl
  · exact (rg_all ho ho 32).trans rfl
  · exact (rs_all ho ho 36).trans rfl
  · exact (rl_all ho ho 30).trans rfl
