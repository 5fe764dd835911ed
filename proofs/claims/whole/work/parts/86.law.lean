/-- the class's reader touches nothing but the tape and its text -/
def FrU (u : Nat) (I I' : Is) : Prop := ∀ c, c ≠ 3 → c ≠ u → c ≠ u + 1 → c ≠ u + 2 → c ≠ u + 3 → I' c = I c
theorem FrU.rf {u : Nat} {I : Is} : FrU u I I := fun _ _ _ _ _ _ => rfl
theorem FrU.tr {u : Nat} {I I1 I2 : Is} (h : FrU u I I1) (g : FrU u I1 I2) : FrU u I I2 := fun c a1 a2 a3 a4 a5 => (g c a1 a2 a3 a4 a5).trans (h c a1 a2 a3 a4 a5)
theorem goP_fu (u : Nat) (I : Is) : FrU u I (goP I) := fun c a1 _ _ _ _ => u2_row a1
theorem addF_fu (u : Nat) (I : Is) (op : Int32) : FrU u I (addF u I op) := fun c _ a2 a3 _ _ => by
  unfold addF
  split
  · rw [u2_row a2, u2_row a3]
  · rfl
theorem endF_fu (u : Nat) (I : Is) (q : Int32) : FrU u I (endF u I q) := fun c _ a2 _ a4 a5 => by
  unfold endF
  split
  · rw [u2_row a2, u2_row a5, u2_row a4]
  · rfl
theorem nuF_fu (u : Nat) : ∀ (n : Nat) (v : Int32) (I : Is), FrU u I (nuF n v I).2 := by
  intro n
  induction n with
  | zero => intro v I; exact FrU.rf
  | succ n ih =>
    intro v I
    have hN : nuF (n + 1) v I = if dgF (nxF I) then nuF n (v * 10 + nxF I - 48) (goP I) else (v, I) := rfl
    rw [hN]
    by_cases c : dgF (nxF I)
    · rw [if_pos c]; exact (goP_fu u I).tr (ih _ _)
    · rw [if_neg c]; exact FrU.rf
theorem lpF_fu {u : Nat} {sub : Is → Bool × Is} (hs : ∀ I, FrU u I (sub I).2) (r : Int32) : ∀ (n : Nat) (q : Bool) (I : Is), FrU u I (lpF u sub r n q I).2 := by
  intro n
  induction n with
  | zero => intro q I; exact FrU.rf
  | succ n ih =>
    intro q I
    have hL : lpF u sub r (n + 1) q I = if q = true then (if jgF (nxF I) r = 0 then (true, I) else lpF u sub r n (sub (goP I)).1 (addF u (sub (goP I)).2 (jgF (nxF I) r))) else (q, I) := rfl
    rw [hL]
    by_cases c : q = true
    · rw [if_pos c]
      by_cases d : jgF (nxF I) r = 0
      · rw [if_pos d]; exact FrU.rf
      · rw [if_neg d]; exact (((goP_fu u I).tr (hs _)).tr (addF_fu u _ _)).tr (ih _ _)
    · rw [if_neg c]; exact FrU.rf
theorem jnF_fu {u : Nat} {one : Is → Bool × Is} (hs : ∀ I, FrU u I (one I).2) : ∀ (k : Nat) (I : Is), FrU u I (jnF u one k I).2 := by
  intro k
  induction k with
  | zero => exact hs
  | succ k ih => intro I; exact (ih I).tr (lpF_fu ih _ _ _ _)
theorem oneF_fu (u : Nat) : ∀ (m : Nat) (I : Is), FrU u I (oneF u m I).2 := by
  intro m
  induction m with
  | zero =>
    intro I
    have hO : oneF u 0 I = if dgF (nxF I) then (true, numF u I) else if 0 ≤ (nmgF (nxF I)).toInt then (true, addF u (goP I) (-1 - nmgF (nxF I))) else (false, I) := rfl
    rw [hO]
    by_cases c1 : dgF (nxF I)
    · rw [if_pos c1]; exact (nuF_fu u 4 0 I).tr (addF_fu u _ _)
    rw [if_neg c1]
    by_cases c2 : 0 ≤ (nmgF (nxF I)).toInt
    · rw [if_pos c2]; exact (goP_fu u I).tr (addF_fu u _ _)
    · rw [if_neg c2]; exact FrU.rf
  | succ m ih =>
    intro I
    have hj := jnF_fu ih 5
    have hO : oneF u (m + 1) I = if dgF (nxF I) then (true, numF u I) else if 0 ≤ (nmgF (nxF I)).toInt then (true, addF u (goP I) (-1 - nmgF (nxF I)))
      else if nxF I = 40 then (if (jnF u (oneF u m) 5 (goP I)).1 = true ∧ nxF (jnF u (oneF u m) 5 (goP I)).2 = 41 then (true, goP (jnF u (oneF u m) 5 (goP I)).2) else (false, (jnF u (oneF u m) 5 (goP I)).2))
      else if nxF I = 33 then ((oneF u m (goP I)).1, addF u (oneF u m (goP I)).2 (-8))
      else if nxF I = 45 then ((oneF u m (goP I)).1, addF u (oneF u m (goP I)).2 (-7)) else (false, I) := rfl
    rw [hO]
    generalize jnF u (oneF u m) 5 = g5 at *
    generalize oneF u m = g1 at *
    by_cases c1 : dgF (nxF I)
    · rw [if_pos c1]; exact (nuF_fu u 4 0 I).tr (addF_fu u _ _)
    rw [if_neg c1]
    by_cases c2 : 0 ≤ (nmgF (nxF I)).toInt
    · rw [if_pos c2]; exact (goP_fu u I).tr (addF_fu u _ _)
    rw [if_neg c2]
    by_cases c3 : nxF I = 40
    · rw [if_pos c3]
      split
      · exact ((goP_fu u I).tr (hj _)).tr (goP_fu u _)
      · exact (goP_fu u I).tr (hj _)
    rw [if_neg c3]
    by_cases c4 : nxF I = 33
    · rw [if_pos c4]; exact ((goP_fu u I).tr (ih _)).tr (addF_fu u _ _)
    rw [if_neg c4]
    by_cases c5 : nxF I = 45
    · rw [if_pos c5]; exact ((goP_fu u I).tr (ih _)).tr (addF_fu u _ _)
    · rw [if_neg c5]; exact FrU.rf
theorem lineG_fu {u : Nat} {g : Is → Bool × Is} (hs : ∀ I, FrU u I (g I).2) (I : Is) : FrU u I (lineG u g I).2 := by
  unfold lineG
  by_cases c1 : (g I).1 = true
  · rw [if_pos c1]
    by_cases c2 : nxF (g I).2 = 63
    · rw [if_pos c2]
      have h3 := (((hs I).tr (goP_fu u _)).tr (endF_fu u _ 1)).tr (hs _)
      by_cases c3 : (g (endF u (goP (g I).2) 1)).1 = true
      · rw [if_pos c3]; exact h3.tr (endF_fu u _ 0)
      · rw [if_neg c3]; exact h3
    · rw [if_neg c2]; exact (hs I).tr (endF_fu u _ 0)
  · rw [if_neg c1]; exact hs I
theorem rdF_fu (u : Nat) : ∀ (n : Nat) (I : Is), FrU u I (rdF u n I).2 := by
  intro n
  induction n with
  | zero => intro I; exact FrU.rf
  | succ n ih =>
    intro I
    have hR : rdF u (n + 1) I = if (lineF u I).1 = true then (if ((lineF u I).2 3 1).toInt ≤ ((lineF u I).2 3 3).toInt then (-1, (lineF u I).2) else if nxF (lineF u I).2 = 59 then rdF u n (goP (lineF u I).2) else ((lineF u I).2 3 3, (lineF u I).2)) else ((lineF u I).2 3 3, (lineF u I).2) := rfl
    have hl : FrU u I (lineF u I).2 := by rw [lineF_G]; exact lineG_fu (jnF_fu (oneF_fu u 6) 5) I
    rw [hR]
    generalize lineF u I = L at *
    split
    · split
      · exact hl
      · split
        · exact (hl.tr (goP_fu u _)).tr (ih _)
        · exact hl
    · exact hl
theorem lawF_fu (u : Nat) (I : Is) : FrU u I (lawF u I).2 := by
  have h0 : FrU u I (clrF u (u2 I 3 3 0)) := fun c a1 a2 _ _ _ => by
    unfold clrF
    rw [u2_row a2, u2_row a2, u2_row a1]
  exact h0.tr (rdF_fu u 121 _)
/-- the law of both: u the text that is read, b2 what is told behind -/
theorem law_rel {u : Nat} (hu : u = 5 ∨ u = 10) {b b2 : Bool} (hb : tbL b = 15 - u) (hb2 : tbL b2 = u) {I I1 I2 : Is} {J : Js} {v1 v2 : Int32} {b1 : Bool} (h : Rel I J b) (hI1 : I1 = u2 (lawF u I).2 3 1 0)
    (q1 : (0 ≤ (lawF u I).1.toInt ∧ v1 = -100 - (lawF u I).1 ∧ b1 = b) ∨ ((lawF u I).1.toInt < 0 ∧ v1 = 1 ∧ b1 = b2))
    (q2 : I2 64 12 = 0 ∧ ((0 ≤ (woM (txR (I1 70) (I1 64 12)) (I1 72) (I1 64 12)).2.2.1.toInt ∧ v2 = -100 - (woM (txR (I1 70) (I1 64 12)) (I1 72) (I1 64 12)).2.2.1 ∧ FrM [] [12, 15, 16, 17, 18, 19] I1 I2) ∨ ((woM (txR (I1 70) (I1 64 12)) (I1 72) (I1 64 12)).2.2.1.toInt < 0 ∧ v2 = 1 ∧ I2 64 14 = I1 64 12 ∧ (∀ k : Nat, I2 71 k = if (k : Int) < (I1 64 12).toInt then I1 70 k else I1 71 k) ∧ FrM [71] [12, 14, 15, 16, 17, 18, 19] I1 I2))) : v2 = v1 ∧ Rel I2 J b1 := by
  obtain ⟨hA, hB, hC, hD, hE, hF⟩ := h
  obtain ⟨a1, a2, a3, a4, a5, a6, a7, a8⟩ := hA
  have hfu := lawF_fu u I
  have r1 : ∀ c, c ≠ 3 → c ≠ u → c ≠ u + 1 → c ≠ u + 2 → c ≠ u + 3 → I1 c = I c := fun c b1 b2 b3 b4 b5 => by rw [hI1, u2_row b1]; exact hfu c b1 b2 b3 b4 b5
  have ru : ∀ c, c ≠ 3 → I1 c = (lawF u I).2 c := fun c hc => by rw [hI1, u2_row hc]
  have e70 : I1 70 = I 4 := by rw [r1 70 (by omega) (by omega) (by omega) (by omega) (by omega)]; exact a6
  have e12 : I1 64 12 = I 3 1 := by rw [r1 64 (by omega) (by omega) (by omega) (by omega) (by omega)]; exact a4
  have z0 : (0 : Int32).toInt = 0 := rfl
  have fI1 : FrM [3, u, u + 1, u + 2, u + 3] [] I I1 := ⟨fun c _ hl => by simp at hl; exact r1 c hl.1 hl.2.1 hl.2.2.1 hl.2.2.2.1 hl.2.2.2.2, fun k _ => congrFun (r1 64 (by omega) (by omega) (by omega) (by omega) (by omega)) k⟩
  rw [e70, e12] at q2
  obtain ⟨q0, q2⟩ := q2
  have hsim := law_sim hu I a5 (I1 72)
  have hsall := fun nm => law_sim hu I a5 nm
  rcases q2 with ⟨c1, c2, c3⟩ | ⟨c1, c2, c3, c4, c5⟩
  · -- refused
    rcases hsim with ⟨d1, d2, -⟩ | ⟨d1, d2⟩
    · omega
    rcases q1 with ⟨g1, g2, g3⟩ | ⟨g1, g2, g3⟩
    · subst g3
      have hFF : FrM [3, u, u + 1, u + 2, u + 3] [12, 15, 16, 17, 18, 19] I I2 := fI1.tr c3 (fun c hc => hc) (by simp) (by simp) (fun c hc => hc)
      have hno : ∀ c, 13 < c → c ∉ [3, u, u + 1, u + 2, u + 3] := fun c hc => by simp; omega
      have hno0 : (0 : Nat) ∉ [3, u, u + 1, u + 2, u + 3] ∧ (1 : Nat) ∉ [3, u, u + 1, u + 2, u + 3] ∧ (2 : Nat) ∉ [3, u, u + 1, u + 2, u + 3] ∧ (4 : Nat) ∉ [3, u, u + 1, u + 2, u + 3] := by refine ⟨?_, ?_, ?_, ?_⟩ <;> simp <;> omega
      refine ⟨by rw [c2, g2, d2], ?_, hB.fm hFF (fun c hc => by simp at hc; rcases hc with e | e | e | e | e | e | e | e | e | e <;> first | (rw [e]; exact hno _ (by decide)) | (rw [e]; exact hno0.2.1)) (by decide), hC.fm hFF (fun c hc => by simp at hc; rcases hc with e | e | e | e | e | e | e | e <;> first | (rw [e]; exact hno _ (by decide)) | (rw [e]; exact hno0.2.1) | (rw [e]; exact hno0.1)) (by decide), hD.fm hFF (fun c hc => by simp at hc; rcases hc with e | e | e | e | e | e | e | e <;> first | (rw [e]; exact hno _ (by decide)) | (rw [e]; exact hno0.2.1)) (by decide), hE.fm hFF (fun c hc => hno c (by simp at hc; omega)) (by decide), hF.fm hFF (fun c hc => hno c (by simp at hc; omega))⟩
      have e1 : I2 1 = I 1 := hFF.1 1 (by decide) hno0.2.1
      have e2 : I2 2 = I 2 := hFF.1 2 (by decide) hno0.2.2.1
      have e4 : I2 4 = I 4 := hFF.1 4 (by decide) hno0.2.2.2
      have e31 : I2 3 1 = 0 := by rw [c3.1 3 (by decide) (by simp), hI1, u2_same]
      have et : ∀ i, i < 4 → I2 (tbL b1 + i) = I (tbL b1 + i) := fun i hi => by
        rw [hb]
        refine hFF.1 _ (by omega) ?_
        simp
        omega
      have et0 := et 0 (by decide)
      rw [Nat.add_zero] at et0
      refine ⟨?_, ?_, ?_, ?_, ?_, ?_, ?_, ?_⟩
      · rw [hFF.2 6 (by decide), e1]; exact a1
      · rw [hFF.1 65 (by decide) (hno 65 (by decide)), e2]; exact a2
      · rw [e1, e2]; exact a3
      · rw [q0, e31]
      · rw [e31, z0]; omega
      · rw [hFF.1 70 (by decide) (hno 70 (by decide)), e4]; exact a6
      · unfold TW; rw [et0, et 2 (by decide)]; exact a7
      · rw [et0, et 1 (by decide), et 2 (by decide), et 3 (by decide), hFF.1 71 (by decide) (hno 71 (by decide)), hFF.2 14 (by decide)]; exact a8
    · rw [d2] at c1; omega
  · -- told
    rcases hsim with ⟨d1, d2, d3, d4, d5, d6, d7, d8⟩ | ⟨d1, d2⟩
    · rcases q1 with ⟨g1, g2, g3⟩ | ⟨g1, g2, g3⟩
      · rw [d1] at g1; exact absurd g1 (by decide)
      subst g3
      have hFF : FrM [3, u, u + 1, u + 2, u + 3, 71] [12, 14, 15, 16, 17, 18, 19] I I2 := fI1.tr c5 (fun c hc => by simp at hc ⊢; omega) (fun c hc => by simp at hc ⊢; omega) (by simp) (fun c hc => hc)
      have hno : ∀ c, 13 < c → c ≠ 71 → c ∉ [3, u, u + 1, u + 2, u + 3, 71] := fun c hc h71 => by simp; omega
      have hno0 : (0 : Nat) ∉ [3, u, u + 1, u + 2, u + 3, 71] ∧ (1 : Nat) ∉ [3, u, u + 1, u + 2, u + 3, 71] ∧ (2 : Nat) ∉ [3, u, u + 1, u + 2, u + 3, 71] ∧ (4 : Nat) ∉ [3, u, u + 1, u + 2, u + 3, 71] := by refine ⟨?_, ?_, ?_, ?_⟩ <;> simp <;> omega
      refine ⟨by rw [c2, g2], ?_, hB.fm hFF (fun c hc => by simp at hc; rcases hc with e | e | e | e | e | e | e | e | e | e <;> first | (rw [e]; exact hno _ (by decide) (by decide)) | (rw [e]; exact hno0.2.1)) (by decide), hC.fm hFF (fun c hc => by simp at hc; rcases hc with e | e | e | e | e | e | e | e <;> first | (rw [e]; exact hno _ (by decide) (by decide)) | (rw [e]; exact hno0.2.1) | (rw [e]; exact hno0.1)) (by decide), hD.fm hFF (fun c hc => by simp at hc; rcases hc with e | e | e | e | e | e | e | e <;> first | (rw [e]; exact hno _ (by decide) (by decide)) | (rw [e]; exact hno0.2.1)) (by decide), hE.fm hFF (fun c hc => hno c (by simp at hc; omega) (by simp at hc; omega)) (by decide), hF.fm hFF (fun c hc => hno c (by simp at hc; omega) (by simp at hc; omega))⟩
      have e1 : I2 1 = I 1 := hFF.1 1 (by decide) hno0.2.1
      have e2 : I2 2 = I 2 := hFF.1 2 (by decide) hno0.2.2.1
      have e4 : I2 4 = I 4 := hFF.1 4 (by decide) hno0.2.2.2
      have e31 : I2 3 1 = 0 := by rw [c5.1 3 (by decide) (by decide), hI1, u2_same]
      have et : ∀ i, i < 4 → I2 (u + i) = (lawF u I).2 (u + i) := fun i hi => by
        rw [c5.1 (u + i) (by omega) (by simp; omega)]
        exact ru _ (by omega)
      have et0 := et 0 (by decide)
      rw [Nat.add_zero] at et0
      have hmany : ((lawF u I).2 u 4).toInt ≤ (I 3 1).toInt := by
        have k1 := d3.2.2
        have k2 := d3.1.1.2.1
        rw [d7] at k2
        omega
      have hT : txR (I2 71) (I2 64 14) = txR (I 4) (I 3 1) := by
        funext a
        unfold txR
        rw [c3]
        by_cases ca : a.toInt < (I 3 1).toInt
        · rw [if_pos ca, if_pos ca, c4]
          have hax : ((ix a : Nat) : Int) < (I 3 1).toInt := by
            have e : ix a = a.toInt.toNat := rfl
            omega
          rw [if_pos hax]
        · rw [if_neg ca, if_neg ca]
      refine ⟨?_, ?_, ?_, ?_, ?_, ?_, ?_, Or.inr ⟨?_, ?_, ?_, fun nm => ?_⟩⟩
      · rw [hFF.2 6 (by decide), e1]; exact a1
      · rw [hFF.1 65 (by decide) (hno 65 (by decide) (by decide)), e2]; exact a2
      · rw [e1, e2]; exact a3
      · rw [q0, e31]
      · rw [e31, z0]; omega
      · rw [hFF.1 70 (by decide) (hno 70 (by decide) (by decide)), e4]; exact a6
      · unfold TW
        rw [hb2, et0, et 2 (by decide)]
        exact ⟨⟨by omega, by omega⟩, d5⟩
      · rw [hb2, et0]
        intro e
        rw [e] at d4
        exact absurd d4 (by decide)
      · rw [c3]; omega
      · rw [c3]; omega
      · rw [hb2, et0, et 1 (by decide), et 2 (by decide), et 3 (by decide), hT, c3]
        rcases hsall nm with ⟨-, -, -, -, -, -, -, k8⟩ | ⟨k1, -⟩
        · exact k8
        · rw [d1] at k1; exact absurd k1 (by decide)
    · rw [d2] at c1; omega
