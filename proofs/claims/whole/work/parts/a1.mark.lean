theorem sh_0 (lv all : Int32) : shF lv all 0 = 0 := by
  unfold shF
  by_cases h : lv.toInt < all.toInt
  · rw [if_pos h, Int32.zero_mul]; exact Int32.zero_div
  · rw [if_neg h]
theorem go_free {e : EV} {pt hc : Nat → Bool} {v : GV} : ∀ n, goF e pt (fun _ => true) hc n v = goF e pt pt hc n v := by
  intro n
  induction n with
  | zero => rfl
  | succ n ih =>
    show secF e pt (fun _ => true) hc (goF e pt (fun _ => true) hc n v) = secF e pt pt hc (goF e pt pt hc n v)
    rw [ih]
    exact secF_pt _ (fun k _ => ⟨rfl, fun z => z.symm, rfl⟩)
/-- a straw that does not draw gets nothing -/
theorem go_off {e : EV} {pt fr hc : Nat → Bool} {v : GV} {k : Nat} (hp : pt k = false) : ∀ n, (goF e pt fr hc n v).2.2.2.2.1 k = v.2.2.2.2.1 k := by
  intro n
  induction n with
  | zero => rfl
  | succ n ih =>
    have hw : wVF e pt fr hc (goF e pt fr hc n v) k = 0 := by
      unfold wVF pdF
      rw [hp]
      rfl
    show (if k < e.1 then (goF e pt fr hc n v).2.2.2.2.1 k + shF (goF e pt fr hc n v).1 (smF (wVF e pt fr hc (goF e pt fr hc n v)) e.1) (wVF e pt fr hc (goF e pt fr hc n v) k) else (goF e pt fr hc n v).2.2.2.2.1 k) = _
    rw [hw, sh_0, Int32.add_zero, ih]
    by_cases c : k < e.1
    · rw [if_pos c]
    · rw [if_neg c]
/-- begun anew: what is got then is added -/
theorem go_bg {e : EV} {pt fr hc : Nat → Bool} {v : GV} : ∀ n, (goF e pt fr hc n v).1 = (goF e pt fr hc n (bgF v)).1 ∧ (goF e pt fr hc n v).2.1 = (goF e pt fr hc n (bgF v)).2.1 ∧ (goF e pt fr hc n v).2.2.1 = (goF e pt fr hc n (bgF v)).2.2.1 ∧ (goF e pt fr hc n v).2.2.2.1 = (goF e pt fr hc n (bgF v)).2.2.2.1 ∧ ∀ k, (goF e pt fr hc n v).2.2.2.2.1 k = v.2.2.2.2.1 k + (goF e pt fr hc n (bgF v)).2.2.2.2.1 k := by
  intro n
  induction n with
  | zero => exact ⟨rfl, rfl, rfl, rfl, fun k => (Int32.add_zero _).symm⟩
  | succ n ih =>
    obtain ⟨⟨x1, x2, x3, x4, x5, x6, x7⟩, hx⟩ : ∃ x, goF e pt fr hc n v = x := ⟨_, rfl⟩
    obtain ⟨⟨y1, y2, y3, y4, y5, y6, y7⟩, hy⟩ : ∃ y, goF e pt fr hc n (bgF v) = y := ⟨_, rfl⟩
    have e1 : goF e pt fr hc (n + 1) v = secF e pt fr hc (goF e pt fr hc n v) := rfl
    have e2 : goF e pt fr hc (n + 1) (bgF v) = secF e pt fr hc (goF e pt fr hc n (bgF v)) := rfl
    rw [e1, e2]
    rw [hx, hy] at ih ⊢
    obtain ⟨g1, g2, g3, g4, g5⟩ := ih
    have h1 : x1 = y1 := g1
    have h2 : x2 = y2 := g2
    have h3 : x3 = y3 := g3
    have h4 : x4 = y4 := g4
    have h5 : ∀ k, x5 k = v.2.2.2.2.1 k + y5 k := g5
    clear g1 g2 g3 g4 g5 hx hy e1 e2
    subst h1 h2 h3 h4
    refine ⟨rfl, rfl, rfl, rfl, fun k => ?_⟩
    have hw : wVF e pt fr hc (x1, x2, x3, x4, x5, x6, x7) = wVF e pt fr hc (x1, x2, x3, x4, y5, y6, y7) := rfl
    show (if k < e.1 then x5 k + shF x1 (smF (wVF e pt fr hc (x1, x2, x3, x4, x5, x6, x7)) e.1) (wVF e pt fr hc (x1, x2, x3, x4, x5, x6, x7) k) else x5 k) = v.2.2.2.2.1 k + (if k < e.1 then y5 k + shF x1 (smF (wVF e pt fr hc (x1, x2, x3, x4, y5, y6, y7)) e.1) (wVF e pt fr hc (x1, x2, x3, x4, y5, y6, y7) k) else y5 k)
    rw [hw, h5]
    by_cases c : k < e.1
    · rw [if_pos c, if_pos c, Int32.add_assoc]
    · rw [if_neg c, if_neg c]
theorem b1_no : ∀ i : Nat, i < 3 → ∀ j : Nat, j < 3 → i ≠ j → b1 i j = false := by decide
theorem mk_cg {lv ga gb lv' ga' gb' : Nat → Int32} {l l' : Int32} (hl : l = l') (h1 : ∀ i, lv i = lv' i) (h2 : ∀ i, ga i = ga' i) (h3 : ∀ i, gb i = gb' i) (n : Nat) : mkF lv ga gb l n = mkF lv' ga' gb' l' n := by
  rw [funext h1, funext h2, funext h3, hl]
theorem lm_step (e : EV) (ja jb m i : Nat) (v : GV) (least : Int32) : lmF e ja jb (m + 1) i v least = lmF e ja jb m (i + 1) (secF e (b1 ja) (b1 ja) (bit 0) v) (if (secF e (b1 ja) (b1 ja) (bit 0) v).1.toInt < least.toInt ∧ ((secF e (b1 ja) (b1 ja) (bit 0) v).2.2.2.2.1 ja).toInt ≤ ((goF e (b1 jb) (b1 jb) (bit 0) (99 - i) (bgF (secF e (b1 ja) (b1 ja) (bit 0) v))).2.2.2.2.1 jb).toInt then (secF e (b1 ja) (b1 ja) (bit 0) v).1 else least) := rfl
theorem lm_mk (e : EV) (ja jb : Nat) (A : Nat → GV) (hA : ∀ k, secF e (b1 ja) (b1 ja) (bit 0) (A k) = A (k + 1)) (gb : Nat → Int32) (hgb : ∀ i, (goF e (b1 jb) (b1 jb) (bit 0) (99 - i) (bgF (A i))).2.2.2.2.1 jb = gb i) (l0 : Int32) : ∀ m k, lmF e ja jb m (k + 1) (A k) (mkF (fun i => (A i).1) (fun i => (A i).2.2.2.2.1 ja) gb l0 (k + 1)) = mkF (fun i => (A i).1) (fun i => (A i).2.2.2.2.1 ja) gb l0 (k + 1 + m) := by
  intro m
  induction m with
  | zero => intro k; rfl
  | succ m ih =>
    intro k
    have h := ih (k + 1)
    rw [show k + 1 + 1 + m = k + 1 + (m + 1) by omega] at h
    rw [← h]
    generalize mkF (fun i => (A i).1) (fun i => (A i).2.2.2.2.1 ja) gb l0 (k + 1 + (m + 1)) = zz at h
    have hm : mkF (fun i => (A i).1) (fun i => (A i).2.2.2.2.1 ja) gb l0 (k + 1 + 1) = if (A (k + 1)).1.toInt < (mkF (fun i => (A i).1) (fun i => (A i).2.2.2.2.1 ja) gb l0 (k + 1)).toInt ∧ ((A (k + 1)).2.2.2.2.1 ja).toInt ≤ (gb (k + 1)).toInt then (A (k + 1)).1 else mkF (fun i => (A i).1) (fun i => (A i).2.2.2.2.1 ja) gb l0 (k + 1) := rfl
    rw [hm]
    generalize mkF (fun i => (A i).1) (fun i => (A i).2.2.2.2.1 ja) gb l0 (k + 1) = least
    rw [lm_step, hA, hgb]
theorem c_mark {I I1 I2 : Is} {J : Js} {b : Bool} {ab : Int32} {v1 v2 : Int32} (h : Rel I J b) (q1 : (¬ inP I ab ∧ v1 = -1 ∧ I1 = I) ∨ (inP I ab ∧ v1 = lmF (en I b) (ix (ab / 10)) (ix (ab - ab / 10 * 10)) 99 1 (bgF (gv I 16)) (I 16 0) ∧ Fr [32, 33, 34, 35, 36, 37, 38, 39, 40, 41, 42, 43, 14, 15] I I1)) (q2 : (¬ inPM I1 ab ∧ v2 = -1 ∧ I2 = I1) ∨ (inPM I1 ab ∧ v2 = mkR I1 (ix (ab / 10)) (ix (ab - ab / 10 * 10)) 100 ∧ FrM RTM FTM I1 I2)) : v2 = v1 ∧ Rel I2 J b := by
  rcases q1 with ⟨c1, hv, hI⟩ | ⟨c1, hv, hF⟩
  · rw [hI] at q2
    unfold inPM at q2
    rw [h.1.1] at q2
    rcases q2 with ⟨d, hv2, hI2⟩ | ⟨d, -⟩
    · exact ⟨hv2.trans hv.symm, by rw [hI2]; exact h⟩
    · exact absurd d c1
  · have s1 := Sm.fr hF (by decide)
    obtain ⟨en1, gl1, e6⟩ := rel_1 h s1
    unfold inPM at q2
    rw [e6] at q2
    rcases q2 with ⟨d, -⟩ | ⟨d, hv2, hF2⟩
    · exact absurd c1 d
    refine ⟨?_, h.sm (Sm.of hF hF2 (by decide) (by decide))⟩
    obtain ⟨ja, hja⟩ : ∃ ja, ix (ab / 10) = ja := ⟨_, rfl⟩
    obtain ⟨jb, hjb⟩ : ∃ jb, ix (ab - ab / 10 * 10) = jb := ⟨_, rfl⟩
    have a1 := ix_nn d.2.1.1
    have a2 := ix_nn d.2.2.1.1
    have h3 := h.1.2.2.1.2.1
    have l1 : ja < 3 := by have := d.2.1.2; omega
    have l2 : jb < 3 := by have := d.2.2.1.2; omega
    have hne : ja ≠ jb := fun z => d.2.2.2 (Int32.toInt_inj.mp (by omega))
    rw [hv2, hv, hja, hjb]
    have he := (en_ok (b := b) h.1.2.2.1).1
    have gA : ∀ i, EqV (mkA I1 ja i) (goF (en I b) (b1 ja) (b1 ja) (bit 0) i (bgF (gv I 16))) := fun i => by
      unfold mkA
      rw [en1, go_free]
      exact go_eqv he (bg_eqv gl1) i
    have gB : ∀ i, EqV (mkB I1 ja jb i) (goF (en I b) (b1 jb) (b1 jb) (bit 0) (99 - i) (goF (en I b) (b1 ja) (b1 ja) (bit 0) i (bgF (gv I 16)))) := fun i => by
      unfold mkB
      rw [en1, go_free]
      exact go_eqv he (gA i) _
    have hl0 : I1 64 7 = I 16 0 := gl1.1
    unfold mkR
    rw [mk_cg (lv' := fun i => (goF (en I b) (b1 ja) (b1 ja) (bit 0) i (bgF (gv I 16))).1) (ga' := fun i => (goF (en I b) (b1 ja) (b1 ja) (bit 0) i (bgF (gv I 16))).2.2.2.2.1 ja) (gb' := fun i => (goF (en I b) (b1 jb) (b1 jb) (bit 0) (99 - i) (bgF (goF (en I b) (b1 ja) (b1 ja) (bit 0) i (bgF (gv I 16))))).2.2.2.2.1 jb) hl0 (fun i => (gA i).1) (fun i => ?_) (fun i => ?_) 100]
    · have hz := lm_mk (en I b) ja jb (fun i => goF (en I b) (b1 ja) (b1 ja) (bit 0) i (bgF (gv I 16))) (fun _ => rfl) (fun i => (goF (en I b) (b1 jb) (b1 jb) (bit 0) (99 - i) (bgF (goF (en I b) (b1 ja) (b1 ja) (bit 0) i (bgF (gv I 16))))).2.2.2.2.1 jb) (fun _ => rfl) (I 16 0) 99 0
      have hm1 : mkF (fun i => (goF (en I b) (b1 ja) (b1 ja) (bit 0) i (bgF (gv I 16))).1) (fun i => (goF (en I b) (b1 ja) (b1 ja) (bit 0) i (bgF (gv I 16))).2.2.2.2.1 ja) (fun i => (goF (en I b) (b1 jb) (b1 jb) (bit 0) (99 - i) (bgF (goF (en I b) (b1 ja) (b1 ja) (bit 0) i (bgF (gv I 16))))).2.2.2.2.1 jb) (I 16 0) (0 + 1) = I 16 0 := if_neg (fun z => absurd z.1 (Int.lt_irrefl _))
      rw [hm1] at hz
      exact hz.symm
    · rw [(gB i).2.2.2.2.1 ja l1, go_off (b1_no jb l2 ja l1 (fun z => hne z.symm))]
    · rw [(gB i).2.2.2.2.1 jb l2, (go_bg _).2.2.2.2 jb, go_off (b1_no ja l1 jb l2 hne)]
      exact Int32.zero_add _
