theorem plOk_up {s s' p v : Int32} (hs : s.toInt ≤ s'.toInt) (h : plOk s p v) : plOk s' p v := by
  obtain ⟨m, w, hp, h0, hf⟩ := h
  refine ⟨m, w, ?_, h0, hf⟩
  rw [← pl_eq] at hp ⊢
  subst hp
  unfold plM at h0 ⊢
  by_cases c1 : 0 ≤ w.toInt ∧ w.toInt ≤ 7
  · rw [if_pos c1] at h0
    rw [if_pos c1, if_pos c1]
    by_cases c2 : 0 ≤ m.toInt ∧ m.toInt < s.toInt
    · rw [if_pos c2, if_pos ⟨c2.1, by omega⟩]
    · rw [if_neg c2] at h0; exact absurd h0 (by decide)
  · rw [if_neg c1, if_neg c1]
/-- a new straw's numbers keep all in their ranges -/
theorem NW_new {s : Int32} {T T' : Nat → Int32} {st wi re : Int32} (h : NW s T) (hs : s.toInt < 3) (h1 : 0 ≤ st.toInt ∧ st.toInt ≤ 20) (h2 : 1 ≤ wi.toInt ∧ wi.toInt ≤ 9) (h3 : 0 ≤ re.toInt ∧ re.toInt ≤ 999) (hT : ∀ k, T' k = if 8 * ix s ≤ k ∧ k < 8 * ix s + 8 then nwF st wi re (k - 8 * ix s) else T k) : NW (s + 1) T' := by
  obtain ⟨n0, n3, hn, g1, g2, g3, g4⟩ := h
  have hi := ix_nn n0
  have e1 : (s + 1).toInt = s.toInt + 1 := by rw [tI_add (by rw [one_int]; omega) (by rw [one_int]; omega), one_int]
  have old : ∀ j c, j < ix s → c < 8 → T' (8 * j + c) = T (8 * j + c) := fun j c hj hc => by rw [hT, if_neg (by omega)]
  have new : ∀ c, c < 8 → T' (8 * ix s + c) = nwF st wi re c := fun c hc => by rw [hT, if_pos ⟨by omega, by omega⟩, show 8 * ix s + c - 8 * ix s = c by omega]
  have gls : ∀ k, 24 ≤ k → T' k = T k := fun k hk => by rw [hT, if_neg (by omega)]
  refine ⟨by omega, by omega, fun j hj => ?_, by rw [gls 24 (by decide)]; exact g1, by rw [gls 25 (by decide)]; exact g2, by rw [gls 26 (by decide)]; exact g3, by rw [gls 27 (by decide)]; exact g4⟩
  by_cases c : j < ix s
  · rw [old j 0 c (by decide), old j 1 c (by decide), old j 2 c (by decide), old j 3 c (by decide), old j 4 c (by decide), old j 5 c (by decide), old j 6 c (by decide), old j 7 c (by decide)]
    exact hn j (by omega)
  · have hjs : j = ix s := by omega
    subst hjs
    rw [new 0 (by decide), new 1 (by decide), new 2 (by decide), new 3 (by decide), new 4 (by decide), new 5 (by decide), new 6 (by decide), new 7 (by decide)]
    have q3 : nwF st wi re 3 = 10 := rfl
    have q4 : nwF st wi re 4 = 60 := rfl
    have q5 : nwF st wi re 5 = 0 := rfl
    have q6 : nwF st wi re 6 = (-1) := rfl
    have q7 : nwF st wi re 7 = 999 := rfl
    rw [q3, q4, q5, q6, q7]
    exact ⟨h1, h2, h3, by decide, by decide, by decide, by decide, by decide⟩
/-- a straw added to both -/
theorem add_rel {I IB : Is} {J : Js} {b : Bool} {st wi re : Int32} (hR : Rel I J b) (hs : (I 1 1).toInt < 3) (h1 : 0 ≤ st.toInt ∧ st.toInt ≤ 20) (h2 : 1 ≤ wi.toInt ∧ wi.toInt ≤ 9) (h3 : 0 ≤ re.toInt ∧ re.toInt ≤ 999) (e1 : IB 1 1 = I 1 1 + 1) (e2 : ∀ k, IB 2 k = if 8 * ix (I 1 1) ≤ k ∧ k < 8 * ix (I 1 1) + 8 then nwF st wi re (k - 8 * ix (I 1 1)) else I 2 k) (e6 : IB 64 6 = I 1 1 + 1) (e65 : ∀ k, IB 65 k = if 8 * ix (I 1 1) ≤ k ∧ k < 8 * ix (I 1 1) + 8 then nwF st wi re (k - 8 * ix (I 1 1)) else I 65 k) (hFF : FrM [1, 2, 65] [6] I IB) : Rel IB J b := by
  obtain ⟨hA, hB, hC, hD, hE, hF⟩ := hR
  obtain ⟨a1, a2, a3, a4, a5, a6, a7, a8⟩ := hA
  have n0 := a3.1
  have ei : (I 1 1 + 1).toInt = (I 1 1).toInt + 1 := by rw [tI_add (by rw [one_int]; omega) (by rw [one_int]; omega), one_int]
  have et : ∀ i, i < 4 → IB (tbL b + i) = I (tbL b + i) := fun i hi => by
    have ht := tbL_lt b
    exact hFF.1 _ (by omega) (by simp; omega)
  have et0 := et 0 (by decide)
  rw [Nat.add_zero] at et0
  have r : ∀ c, c ≠ 64 → c ∉ [1, 2, 65] → IB c = I c := hFF.1
  refine ⟨⟨?_, ?_, ?_, ?_, ?_, ?_, ?_, ?_⟩, ?_, ?_, ?_, hE.fm hFF (by decide) (by decide), hF.fm hFF (by decide)⟩
  · rw [e6, e1]
  · funext k; rw [e65, e2, a2]
  · rw [e1]; exact NW_new a3 hs h1 h2 h3 e2
  · rw [hFF.2 12 (by decide), r 3 (by decide) (by decide)]; exact a4
  · rw [r 3 (by decide) (by decide)]; exact a5
  · rw [r 70 (by decide) (by decide), r 4 (by decide) (by decide)]; exact a6
  · unfold TW; rw [et0, et 2 (by decide)]; exact a7
  · rw [et0, et 1 (by decide), et 2 (by decide), et 3 (by decide), r 71 (by decide) (by decide), hFF.2 14 (by decide)]; exact a8
  · obtain ⟨g, l1, l2, vo, ps, gz⟩ := hB
    unfold RlB gvT gv
    unfold gvT gv at g
    unfold gv at vo
    rw [r 16 (by decide) (by decide), r (16 + 1) (by decide) (by decide), r (16 + 2) (by decide) (by decide), r (16 + 3) (by decide) (by decide), r (16 + 4) (by decide) (by decide), r 69 (by decide) (by decide), r 81 (by decide) (by decide), r 82 (by decide) (by decide), r 83 (by decide) (by decide), hFF.2 7 (by decide), hFF.2 8 (by decide), hFF.2 9 (by decide), hFF.2 38 (by decide), hFF.2 39 (by decide), e1, ei]
    exact ⟨g, l1, l2, vo, ps, fun k hk1 hk => gz k (by omega) hk⟩
  · unfold RlC gv
    unfold RlC gv at hC
    rw [r 0 (by decide) (by decide), r 22 (by decide) (by decide), r (22 + 1) (by decide) (by decide), r (22 + 2) (by decide) (by decide), r (22 + 3) (by decide) (by decide), r (22 + 4) (by decide) (by decide), r 84 (by decide) (by decide), hFF.2 40 (by decide), hFF.2 41 (by decide), e1, ei]
    rcases hC with i0 | ⟨i0, i1, i2, i3⟩
    · exact Or.inl i0
    · exact Or.inr ⟨i0, i1, ⟨i2.1, by omega⟩, i3⟩
  · obtain ⟨d1, d2, d3, d6, d7, d8, d9⟩ := hD
    unfold RlD
    rw [e1, r 44 (by decide) (by decide), r 45 (by decide) (by decide), r 46 (by decide) (by decide), r 47 (by decide) (by decide), r 66 (by decide) (by decide), r 67 (by decide) (by decide), r 68 (by decide) (by decide), hFF.2 5 (by decide), hFF.2 4 (by decide)]
    exact ⟨d1, d2, d3, d6, d7, d8, fun k hk => ⟨plOk_up (by omega) (d9 k hk).1, plOk_up (by omega) (d9 k hk).2⟩⟩
theorem c_straw {I IA IB : Is} {J : Js} {b : Bool} {st : Int32} {re : Int32} {v1 v2 : Int32} (hR : Rel I J b) (q1 : (¬ (fitP 0 st ∧ fitP 2 re) ∧ v1 = -1 ∧ IA = I) ∨ ((fitP 0 st ∧ fitP 2 re) ∧ ((3 ≤ (I 1 1).toInt ∧ v1 = -3 ∧ IA = I) ∨ ((I 1 1).toInt < 3 ∧ v1 = I 1 1 + 1 - 1 ∧ IA 1 1 = I 1 1 + 1 ∧ (∀ k, IA 2 k = if 8 * ix (I 1 1) ≤ k ∧ k < 8 * ix (I 1 1) + 8 then nwF st 3 re (k - 8 * ix (I 1 1)) else I 2 k) ∧ Fr [1, 2] I IA)))) (q2 : (¬ ((0 ≤ st.toInt ∧ st.toInt ≤ 20) ∧ 0 ≤ re.toInt ∧ re.toInt ≤ 999) ∧ v2 = -1 ∧ IB = IA) ∨ (((0 ≤ st.toInt ∧ st.toInt ≤ 20) ∧ 0 ≤ re.toInt ∧ re.toInt ≤ 999) ∧ IA 64 6 = 3 ∧ v2 = -3 ∧ IB = IA) ∨ (((0 ≤ st.toInt ∧ st.toInt ≤ 20) ∧ 0 ≤ re.toInt ∧ re.toInt ≤ 999) ∧ ¬ IA 64 6 = 3 ∧ v2 = IA 64 6 + 1 - 1 ∧ (IB 64 6 = IA 64 6 + 1 ∧ (∀ k, IB 65 k = if 8 * ix (IA 64 6) ≤ k ∧ k < 8 * ix (IA 64 6) + 8 then nwF st 3 re (k - 8 * ix (IA 64 6)) else IA 65 k) ∧ FrM [65] [6] IA IB))) : v2 = v1 ∧ Rel IB J b := by
  have n0 := hR.1.2.2.1.1
  have z3 : (3 : Int32).toInt = 3 := rfl
  have hcc : (fitP 0 st ∧ fitP 2 re) ↔ ((0 ≤ st.toInt ∧ st.toInt ≤ 20) ∧ 0 ≤ re.toInt ∧ re.toInt ≤ 999) := and_congr (mb_0 st).symm (mb_2 re).symm
  rw [← hcc] at q2
  rcases q1 with ⟨c1, hv, hI⟩ | ⟨c1, ⟨c2, hv, hI⟩ | ⟨c2, hv, e1, e2, hF1⟩⟩
  · rcases q2 with ⟨d, hv2, hI2⟩ | ⟨d, -⟩ | ⟨d, -⟩
    · exact ⟨hv2.trans hv.symm, by rw [hI2, hI]; exact hR⟩
    · exact absurd d c1
    · exact absurd d c1
  · rw [hI, hR.1.1] at q2
    rcases q2 with ⟨d, -⟩ | ⟨d, -, hv2, hI2⟩ | ⟨d, d2, -⟩
    · exact absurd c1 d
    · exact ⟨hv2.trans hv.symm, by rw [hI2]; exact hR⟩
    · exact absurd (Int32.toInt_inj.mp (by have := hR.1.2.2.1.2.1; rw [z3]; omega)) d2
  · have e6A : IA 64 6 = I 1 1 := (congrFun (hF1 64 (by decide)) 6).trans hR.1.1
    have e65A : IA 65 = I 65 := hF1 65 (by decide)
    rw [e6A, e65A] at q2
    rcases q2 with ⟨d, -⟩ | ⟨d, d2, -⟩ | ⟨-, -, hv2, b6, b65, hF2⟩
    · exact absurd c1 d
    · rw [d2, z3] at c2; omega
    have hFF : FrM [1, 2, 65] [6] I IB := (hF1.fm (by decide)).tr hF2 (by decide) (by decide) (by decide) (by decide)
    have hc := hcc.mp c1
    refine ⟨hv2.trans hv.symm, add_rel hR c2 hc.1 (by decide) hc.2 ?_ (fun k => ?_) b6 b65 hFF⟩
    · rw [hF2.1 1 (by decide) (by decide)]; exact e1
    · rw [hF2.1 2 (by decide) (by decide)]; exact e2 k
