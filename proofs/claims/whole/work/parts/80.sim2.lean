def lim10 (n : Nat) : Int := if n = 4 then 0 else if n = 3 then 9 else if n = 2 then 99 else if n = 1 then 999 else 9999
theorem nu_sim {u : Nat} (hu : u = 5 ∨ u = 10) {T : Int32 → Int32} : ∀ (n : Nat), n ≤ 4 → ∀ (v : Int32) (I : Is) (p : PS), InvT u T I → p.1 = I 3 3 → 0 ≤ v.toInt → v.toInt ≤ lim10 n →
    (nuF n v I).1 = (dgM T n v p).1 ∧ (dgM T n v p).2.1 = (nuF n v I).2 3 3 ∧ (dgM T n v p).2.2 = p.2 ∧ XT u I (nuF n v I).2 ∧ (nuF n v I).2 u = I u ∧ (nuF n v I).2 (u + 1) = I (u + 1) ∧ 0 ≤ (nuF n v I).1.toInt ∧ (dgF (T (I 3 3)) → 1 ≤ n → (I 3 3).toInt + 1 ≤ ((nuF n v I).2 3 3).toInt) := by
  intro n
  induction n with
  | zero =>
    intro hn v I p hi hp h0 h1
    exact ⟨rfl, hp, rfl, XT.rf hi, rfl, rfl, h0, fun _ h => absurd h (by decide)⟩
  | succ n ih =>
    intro hn v I p hi hp h0 h1
    have hN : nuF (n + 1) v I = if dgF (nxF I) then nuF n (v * 10 + nxF I - 48) (goP I) else (v, I) := rfl
    have hD : dgM T (n + 1) v p = if dgF (T p.1) then dgM T n (10 * v + T p.1 - 48) (p.1 + 1, p.2.1, p.2.2) else (v, p) := rfl
    rw [hN, hD, hp]
    by_cases c : dgF (T (I 3 3))
    · obtain ⟨hx, hl⟩ := lt_T hi (dg_n0 c)
      rw [hx, if_pos c, if_pos c]
      obtain ⟨hG, hg1, hg2, hg3⟩ := XT.go hu hi hl
      have hgo : goP I 3 3 = I 3 3 + 1 := u2_same ..
      have e10 : (10 : Int32).toInt = 10 := rfl
      have e48 : (48 : Int32).toInt = 48 := rfl
      have hb : v.toInt ≤ 999 := by
        unfold lim10 at h1
        rcases (show n = 0 ∨ n = 1 ∨ n = 2 ∨ n = 3 by omega) with rfl | rfl | rfl | rfl <;> simp at h1 <;> omega
      have em : (10 * v : Int32).toInt = 10 * v.toInt := by rw [tI_mul (by rw [e10]; omega) (by rw [e10]; omega), e10]
      have ea : (10 * v + T (I 3 3) : Int32).toInt = 10 * v.toInt + (T (I 3 3)).toInt := by rw [tI_add (by have := c.2; omega) (by have := c.2; omega), em]
      have es : (10 * v + T (I 3 3) - 48 : Int32).toInt = 10 * v.toInt + (T (I 3 3)).toInt - 48 := by rw [tI_sub (by have := c.2; have := c.1; omega) (by have := c.2; have := c.1; omega), ea, e48]
      have hlim : (10 * v + T (I 3 3) - 48 : Int32).toInt ≤ lim10 n := by
        rw [es]
        have := c.2
        unfold lim10 at h1 ⊢
        rcases (show n = 0 ∨ n = 1 ∨ n = 2 ∨ n = 3 by omega) with rfl | rfl | rfl | rfl <;> simp at h1 ⊢ <;> omega
      rw [Int32.mul_comm v 10]
      obtain ⟨a1, a2, a3, a4, a5, a6, a7, a8⟩ := ih (by omega) (10 * v + T (I 3 3) - 48) (goP I) (I 3 3 + 1, p.2.1, p.2.2) (hG.inv hi) hgo.symm (by rw [es]; have := c.1; omega) hlim
      refine ⟨a1, a2, a3, hG.tr a4, a5.trans hg2, a6.trans hg3, a7, fun _ _ => ?_⟩
      have := a4.2.1.1
      omega
    · have cn : ¬ dgF (nxF I) := fun z => by
        rcases nx_T hi with ⟨a, -⟩ | ⟨a, -, -⟩
        · rw [a] at z; exact c z
        · rw [a] at z; exact absurd z.1 (by decide)
      rw [if_neg cn, if_neg c]
      exact ⟨rfl, hp, rfl, XT.rf hi, rfl, rfl, h0, fun z => absurd z c⟩
theorem dg_T {u : Nat} {T : Int32 → Int32} {I : Is} (hi : InvT u T I) : dgF (nxF I) ↔ dgF (T (I 3 3)) := by
  rcases nx_T hi with ⟨a, -⟩ | ⟨a, e, -⟩
  · rw [a]
  · rw [a, e]
    exact ⟨fun z => absurd z.1 (by decide), fun z => absurd z.1 (by decide)⟩
theorem nmg_T {u : Nat} {T : Int32 → Int32} {I : Is} (hi : InvT u T I) : nmgF (nxF I) = nmgF (T (I 3 3)) := by
  rcases nx_T hi with ⟨a, -⟩ | ⟨a, e, -⟩
  · rw [a]
  · rw [a, e]
    decide
theorem dg_excl {c : Int32} (h : dgF c) : ¬ 0 ≤ (nmgF c).toInt ∧ ¬ (c = 40 ∨ c = 33 ∨ c = 45) := by
  obtain ⟨h0, h1⟩ := h
  have k : ∀ x : Int32, (x.toInt < 48 ∨ 57 < x.toInt) → ¬ c = x := fun x hx e => by rw [e] at h0 h1; omega
  refine ⟨?_, ?_⟩
  · unfold nmgF
    rw [if_neg (k 112 (by decide)), if_neg (k 119 (by decide)), if_neg (k 116 (by decide)), if_neg (k 108 (by decide)), if_neg (k 100 (by decide)), if_neg (k 107 (by decide))]
    decide
  · rintro (e | e | e)
    · exact k 40 (by decide) e
    · exact k 33 (by decide) e
    · exact k 45 (by decide) e
theorem nm_excl {c : Int32} (h : 0 ≤ (nmgF c).toInt) : ¬ (c = 40 ∨ c = 33 ∨ c = 45) := by
  rintro (e | e | e) <;> rw [e] at h <;> exact absurd h (by decide)
section ONE
variable {u : Nat} {T : Int32 → Int32} {nm : Nat → Int32}
theorem num_sim (hu : u = 5 ∨ u = 10) {I : Is} {p : PS} (hi : InvT u T I) (hp : p.1 = I 3 3) (c : dgF (T (I 3 3))) : LR u T nm I p true (numF u I) (nmM T nm p).1 (nmM T nm p).2 := by
  have hM : nmM T nm p = dgM T 4 0 p := by
    unfold nmM
    rw [hp, if_neg (dg_excl c).1, if_pos c]
  rw [hM]
  obtain ⟨a1, a2, a3, a4, a5, a6, a7, a8⟩ := nu_sim hu 4 (by decide) 0 I p hi hp (by decide) (by decide)
  have a9 := a8 c (by decide)
  unfold numF
  generalize nuF 4 0 I = r at *
  obtain ⟨hX, hn, hc⟩ := XT.add hu hi a4 (by rw [a5]; omega) r.1
  refine Or.inl ⟨rfl, hX, a2.trans (by rw [addF_3 hu]), a3, fun st => ?_⟩
  have n0 := ix_nn hi.2.1.1
  have h5 : (r.2 u 3) = I u 3 := congrFun a5 3
  rw [h5] at hn
  have n1 := ix_nn (show 0 ≤ (addF u r.2 r.1 u 3).toInt by have := hi.2.1.1; omega)
  rw [show ix (addF u r.2 r.1 u 3) - ix (I u 3) = 1 by omega]
  refine stkF_1 ?_
  rw [hc, h5, if_pos rfl, stF_num a7, a1]
theorem nam_sim (hu : u = 5 ∨ u = 10) {I : Is} {p : PS} (hi : InvT u T I) (hp : p.1 = I 3 3) (c : 0 ≤ (nmgF (T (I 3 3))).toInt) : LR u T nm I p true (addF u (goP I) (-1 - nmgF (nxF I))) (nmM T nm p).1 (nmM T nm p).2 := by
  have hM : nmM T nm p = (nm (ix (nmgF (T (I 3 3)))), (p.1 + 1, p.2.1, p.2.2)) := by
    unfold nmM
    rw [hp, if_pos c]
  rw [hM]
  obtain ⟨hx, hl⟩ := lt_T hi (nmg_n0 c)
  obtain ⟨hG, hg1, hg2, hg3⟩ := XT.go hu hi hl
  have hgo : goP I 3 3 = I 3 3 + 1 := u2_same ..
  obtain ⟨hX, hn, hc⟩ := XT.add hu hi hG (by rw [hg2]; omega) (-1 - nmgF (nxF I))
  refine Or.inl ⟨rfl, hX, by rw [addF_3 hu, hgo, ← hp], rfl, fun st => ?_⟩
  have n0 := ix_nn hi.2.1.1
  rw [hg2] at hn hc
  have n1 := ix_nn (show 0 ≤ (addF u (goP I) (-1 - nmgF (nxF I)) u 3).toInt by have := hi.2.1.1; omega)
  rw [show ix (addF u (goP I) (-1 - nmgF (nxF I)) u 3) - ix (I u 3) = 1 by omega]
  refine stkF_1 ?_
  rw [hc, if_pos rfl, nmg_T hi, stF_nam c (nmg_rng _)]
theorem nof_sim {I : Is} {p : PS} (hi : InvT u T I) (hp : p.1 = I 3 3) (hf : p.2.1.toInt < 0) : LR u T nm I p false I 0 (wrP p) := by
  refine Or.inr ⟨rfl, ?_, hi.1.1⟩
  unfold wrP
  show (if p.2.1.toInt < 0 then p.1 else p.2.1) = I 3 3
  rw [if_pos hf, hp]
theorem nmM_no {I : Is} {p : PS} (hp : p.1 = I 3 3) (h1 : ¬ 0 ≤ (nmgF (T (I 3 3))).toInt) (h2 : ¬ dgF (T (I 3 3))) : nmM T nm p = (0, wrP p) := by
  unfold nmM
  rw [hp, if_neg h1, if_neg h2]
theorem one_0 (hu : u = 5 ∨ u = 10) : SimF u T nm (0 : Nat) (oneF u 0) (oneM T nm 0) := by
  intro I p hi hp hf ho
  have hO : oneF u 0 I = if dgF (nxF I) then (true, numF u I) else if 0 ≤ (nmgF (nxF I)).toInt then (true, addF u (goP I) (-1 - nmgF (nxF I))) else (false, I) := rfl
  have hP : oneM T nm 0 p = if 0 ≤ p.2.1.toInt then (0, p) else if T p.1 = 40 ∨ T p.1 = 33 ∨ T p.1 = 45 then (0, wrP p) else nmM T nm p := rfl
  rw [hO, hP, if_neg (by omega : ¬ 0 ≤ p.2.1.toInt), hp]
  by_cases c1 : dgF (T (I 3 3))
  · rw [if_pos ((dg_T hi).mpr c1), if_neg (dg_excl c1).2]
    exact num_sim hu hi hp c1
  · rw [if_neg (fun z => c1 ((dg_T hi).mp z))]
    by_cases c2 : 0 ≤ (nmgF (T (I 3 3))).toInt
    · rw [if_pos (by rw [nmg_T hi]; exact c2), if_neg (nm_excl c2)]
      exact nam_sim hu hi hp c2
    · rw [if_neg (by rw [nmg_T hi]; exact c2)]
      by_cases c3 : T (I 3 3) = 40 ∨ T (I 3 3) = 33 ∨ T (I 3 3) = 45
      · rw [if_pos c3]
        exact nof_sim hi hp hf
      · rw [if_neg c3, nmM_no hp c2 c1]
        exact nof_sim hi hp hf
theorem one_s (hu : u = 5 ∨ u = 10) {m : Nat} (hm : m ≤ 5) (ih : SimF u T nm (m : Nat) (oneF u m) (oneM T nm m)) : SimF u T nm ((m + 1 : Nat) : Int) (oneF u (m + 1)) (oneM T nm (m + 1)) := by
  intro I p hi hp hf ho
  have hj := jn_sim hu ih 5
  have hO : oneF u (m + 1) I = if dgF (nxF I) then (true, numF u I) else if 0 ≤ (nmgF (nxF I)).toInt then (true, addF u (goP I) (-1 - nmgF (nxF I)))
    else if nxF I = 40 then (if (jnF u (oneF u m) 5 (goP I)).1 = true ∧ nxF (jnF u (oneF u m) 5 (goP I)).2 = 41 then (true, goP (jnF u (oneF u m) 5 (goP I)).2) else (false, (jnF u (oneF u m) 5 (goP I)).2))
    else if nxF I = 33 then ((oneF u m (goP I)).1, addF u (oneF u m (goP I)).2 (-8))
    else if nxF I = 45 then ((oneF u m (goP I)).1, addF u (oneF u m (goP I)).2 (-7)) else (false, I) := rfl
  have hP : oneM T nm (m + 1) p = stM T nm (jnM T (oneM T nm m) 5) (oneM T nm m) p := rfl
  rw [hO, hP]
  generalize jnF u (oneF u m) 5 = g5 at *
  generalize oneF u m = g1 at *
  generalize jnM T (oneM T nm m) 5 = f5 at *
  generalize oneM T nm m = f1 at *
  unfold stM
  rw [if_neg (by omega : ¬ 0 ≤ p.2.1.toInt), hp]
  by_cases c1 : dgF (T (I 3 3))
  · have hx := (dg_excl c1).2
    rw [if_pos ((dg_T hi).mpr c1), if_neg (fun z => hx (Or.inl z)), if_neg (fun z => hx (Or.inr z))]
    exact num_sim hu hi hp c1
  rw [if_neg (fun z => c1 ((dg_T hi).mp z))]
  by_cases c2 : 0 ≤ (nmgF (T (I 3 3))).toInt
  · have hx := nm_excl c2
    rw [if_pos (by rw [nmg_T hi]; exact c2), if_neg (fun z => hx (Or.inl z)), if_neg (fun z => hx (Or.inr z))]
    exact nam_sim hu hi hp c2
  rw [if_neg (by rw [nmg_T hi]; exact c2)]
  have hop1 : (p.2.2 + 1).toInt = p.2.2.toInt + 1 := by rw [tI_add (by rw [one_int]; omega) (by rw [one_int]; omega), one_int]
  have hgo : goP I 3 3 = I 3 3 + 1 := u2_same ..
  have hbk : p.2.2 + 1 - 1 = p.2.2 := Int32.add_sub_cancel _ _
  by_cases c40 : T (I 3 3) = 40
  · rw [if_pos ((eq_T hi (by decide) (by decide)).mpr c40), if_pos c40]
    obtain ⟨hx, hl⟩ := lt_T hi (by rw [c40]; decide)
    obtain ⟨hG, hg1, hg2, hg3⟩ := XT.go hu hi hl
    have hs := hj (goP I) (I 3 3 + 1, p.2.1, p.2.2 + 1) (hG.inv hi) hgo.symm hf (by show (p.2.2 + 1).toInt + (m : Int) = 6; omega)
    generalize g5 (goP I) = gr at *
    generalize f5 (I 3 3 + 1, p.2.1, p.2.2 + 1) = fr at *
    rcases hs with ⟨hq, hX2, hk1, hk2, hk3⟩ | ⟨hq, hk1, hk2⟩
    · have hi2 := hX2.inv (hG.inv hi)
      have f21 : fr.2.2.1 = p.2.1 := by rw [hk2]
      have f22 : fr.2.2.2 = p.2.2 + 1 := by rw [hk2]
      by_cases c41 : T (gr.2 3 3) = 41
      · have hl2 := (lt_T hi2 (by rw [c41]; decide)).2
        obtain ⟨hG2, hh1, hh2, hh3⟩ := XT.go hu hi2 hl2
        rw [if_pos ⟨hq, (eq_T hi2 (by decide) (by decide)).mpr c41⟩, if_pos (⟨by rw [f21]; exact hf, by rw [hk1]; exact c41⟩ : tkQ T 41 fr.2)]
        refine Or.inl ⟨rfl, (hG.tr hX2).tr hG2, ?_, ?_, fun st => ?_⟩
        · show fr.2.1 + 1 = goP gr.2 3 3
          rw [hk1]; exact (u2_same ..).symm
        · show (fr.2.2.1, fr.2.2.2 - 1) = p.2
          rw [f21, f22, hbk]
        · show stkF nm (goP gr.2 (u + 1)) (ix (goP gr.2 u 3) - ix (I u 3)) (ix (I u 3)) st = some (fr.1 :: st)
          rw [hh2, hh3]
          have h9 := hk3 st
          rw [hg2] at h9
          exact h9
      · rw [if_neg (fun z => c41 ((eq_T hi2 (by decide) (by decide)).mp z.2)), if_neg (fun z : tkQ T 41 fr.2 => c41 (by have := z.2; rw [hk1] at this; exact this))]
        refine Or.inr ⟨rfl, ?_, hi2.1.1⟩
        show (if fr.2.2.1.toInt < 0 then fr.2.1 else fr.2.2.1) = gr.2 3 3
        rw [if_pos (by rw [f21]; exact hf), hk1]
    · have hnf : ¬ fr.2.2.1.toInt < 0 := by rw [hk1]; omega
      rw [if_neg (fun z => by rw [hq] at z; exact Bool.false_ne_true z.1), if_neg (fun z : tkQ T 41 fr.2 => hnf z.1)]
      refine Or.inr ⟨rfl, ?_, hk2⟩
      show (if fr.2.2.1.toInt < 0 then fr.2.1 else fr.2.2.1) = gr.2 3 3
      rw [if_neg hnf, hk1]
  rw [if_neg (fun z => c40 ((eq_T hi (by decide) (by decide)).mp z)), if_neg c40]
  have una : ∀ (c op : Int32) (val : Int32 → Int32), T (I 3 3) = c → ¬ c = 0 → (∀ a st, stF nm op (a :: st) = some (val a :: st)) → LR u T nm I p (g1 (goP I)).1 (addF u (g1 (goP I)).2 op) (val (f1 (I 3 3 + 1, p.2.1, p.2.2 + 1)).1) ((f1 (I 3 3 + 1, p.2.1, p.2.2 + 1)).2.1, (f1 (I 3 3 + 1, p.2.1, p.2.2 + 1)).2.2.1, (f1 (I 3 3 + 1, p.2.1, p.2.2 + 1)).2.2.2 - 1) := by
    intro c op val hc hc0 hst
    obtain ⟨hx, hl⟩ := lt_T hi (by rw [hc]; exact hc0)
    obtain ⟨hG, hg1, hg2, hg3⟩ := XT.go hu hi hl
    have hs := ih (goP I) (I 3 3 + 1, p.2.1, p.2.2 + 1) (hG.inv hi) hgo.symm hf (by show (p.2.2 + 1).toInt + (m : Int) = 6; omega)
    generalize g1 (goP I) = gr at *
    generalize f1 (I 3 3 + 1, p.2.1, p.2.2 + 1) = fr at *
    rcases hs with ⟨hq, hX2, hk1, hk2, hk3⟩ | ⟨hq, hk1, hk2⟩
    · have f21 : fr.2.2.1 = p.2.1 := by rw [hk2]
      have f22 : fr.2.2.2 = p.2.2 + 1 := by rw [hk2]
      have hX3 := hG.tr hX2
      obtain ⟨hXa, hn, hcd⟩ := XT.add hu hi hX3 (by have := hX2.2.2.1.2; rw [hg2, hg1] at this; omega) op
      refine Or.inl ⟨hq, hXa, hk1.trans (by rw [addF_3 hu]), ?_, fun st => ?_⟩
      · show (fr.2.2.1, fr.2.2.2 - 1) = p.2
        rw [f21, f22, hbk]
      · have r0 := hi.2.1.1
        have r1 := hX3.2.2.1.1
        have n0 := ix_nn r0
        have n1 := ix_nn (show 0 ≤ (gr.2 u 3).toInt by omega)
        have n2 := ix_nn (show 0 ≤ (addF u gr.2 op u 3).toInt by omega)
        rw [show ix (addF u gr.2 op u 3) - ix (I u 3) = (ix (gr.2 u 3) - ix (I u 3)) + 1 by omega]
        have s1 : stkF nm (addF u gr.2 op (u + 1)) (ix (gr.2 u 3) - ix (I u 3)) (ix (I u 3)) st = some (fr.1 :: st) := by
          rw [stkF_cg (code' := gr.2 (u + 1)) _ _ _ (fun k h1 h2 => by rw [hcd k, if_neg (by omega)])]
          have h9 := hk3 st
          rw [hg2] at h9
          exact h9
        rw [stkF_app _ _ _ _ _ s1]
        refine stkF_1 ?_
        rw [show ix (I u 3) + (ix (gr.2 u 3) - ix (I u 3)) = ix (gr.2 u 3) by omega, hcd, if_pos rfl]
        exact hst _ _
    · exact Or.inr ⟨hq, by rw [addF_3 hu]; exact hk1, by rw [addF_3 hu]; exact hk2⟩
  by_cases c33 : T (I 3 3) = 33
  · rw [if_pos ((eq_T hi (by decide) (by decide)).mpr c33), if_pos (Or.inl c33), if_neg (by rw [c33]; decide)]
    exact una 33 (-8) (fun a => bI (a = 0)) c33 (by decide) (fun a st => stF_not)
  rw [if_neg (fun z => c33 ((eq_T hi (by decide) (by decide)).mp z))]
  by_cases c45 : T (I 3 3) = 45
  · rw [if_pos ((eq_T hi (by decide) (by decide)).mpr c45), if_pos (Or.inr c45), if_pos c45]
    exact una 45 (-7) (fun a => -a) c45 (by decide) (fun a st => stF_neg)
  rw [if_neg (fun z => c45 ((eq_T hi (by decide) (by decide)).mp z)), if_neg (fun z => z.elim c33 c45), nmM_no hp c2 c1]
  exact nof_sim hi hp hf
theorem one_sim (hu : u = 5 ∨ u = 10) : ∀ m : Nat, m ≤ 6 → SimF u T nm (m : Nat) (oneF u m) (oneM T nm m) := by
  intro m
  induction m with
  | zero => intro _; exact one_0 hu
  | succ m ih => intro hm; exact one_s hu (by omega) (ih (by omega))
end ONE
