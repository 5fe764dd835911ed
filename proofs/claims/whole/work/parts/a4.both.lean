theorem st2_ap (I : Is) (x y : Int32) (k : Nat) : st2 I x y 2 k = if k = 8 then y else if k = 0 then x else I 2 k := by
  unfold st2
  by_cases e8 : k = 8
  · rw [if_pos e8, e8, u2_same]
  · rw [if_neg e8, u2_ne _ _ _ _ (Or.inr e8)]
    by_cases e0 : k = 0
    · rw [if_pos e0, e0, u2_same]
    · rw [if_neg e0, u2_ne _ _ _ _ (Or.inr e0)]
theorem st65_ne {I : Is} {x y : Int32} {c : Nat} (h : c ≠ 65) : st65 I x y c = I c := (u2_row h).trans (u2_row h)
/-- both with two numbers told otherwise -/
theorem en_up2 {I I1 : Is} {J : Js} {b : Bool} (h : Rel I J b) (s : Sm I I1) (x y : Int32) : enM (st65 I1 x y) = en (st2 I x y) b := by
  have h1 := h.sm s
  obtain ⟨a1, a2, -, -, -, -, -, a8⟩ := h1.1
  have ht := tbL_lt b
  have e12 : I1 2 = I 2 := s.lo (c := 2) (by decide)
  have e65 : (st65 I1 x y) 65 = (st2 I x y) 2 := by
    funext k
    rw [st65_ap, st2_ap, a2, e12]
  have hw : wtM (st2 (st65 I1 x y) x y) = wantF (st2 (st65 I1 x y) x y) b := by
    have r : ∀ c, c ≠ 2 → c ≠ 65 → st2 (st65 I1 x y) x y c = I1 c := fun c h2 h5 => by rw [st2_ne h2, st65_ne h5]
    refine wt_eq ?_ ?_
    · rw [st2_ne (by decide)]
      funext k
      rw [st65_ap, st2_ap, st65_ne (by decide), a2]
    · rw [r (tbL b) (by omega) (by omega), r (tbL b + 1) (by omega) (by omega), r (tbL b + 2) (by omega) (by omega), r (tbL b + 3) (by omega) (by omega), r 71 (by decide) (by decide), r 64 (by decide) (by decide)]
      exact a8
  have hw1 : wtM (st2 (st65 I1 x y) x y) = wtM (st65 I1 x y) := wtM_congr (st2_ne (by decide)) (st2_ne (by decide)) (congrFun (st2_ne (by decide)) 14)
  have hw2 : wantF (st2 (st65 I1 x y) x y) b = wantF (st2 I x y) b := by
    funext j l t
    refine wantF_rows (fun c hc => ?_) j l t
    by_cases e : c = 2
    · rw [e]
      funext k
      rw [st2_ap, st2_ap, st65_ne (by decide), e12]
    · rw [st2_ne e, st65_ne (by intro z; rw [z] at hc; exact absurd hc (by decide)), st2_ne e]
      exact s.lo (by simp at hc; omega)
  have e6 : (st65 I1 x y) 64 6 = (st2 I x y) 1 1 := by
    rw [st65_ne (by decide), st2_ne (by decide), a1, s.lo (c := 1) (by decide)]
  unfold enM en
  rw [e65, ← hw1, hw, hw2, e6]
theorem sw_st2 (I : Is) (x y : Int32) {j : Nat} (hj : j < 2) : swF ((st2 I x y) 2) j = swF (I 2) j := by
  unfold swF
  rw [st2_ap, st2_ap, st2_ap, if_neg (show ¬ 8 * j + 2 = 8 by omega), if_neg (show ¬ 8 * j + 2 = 0 by omega), if_neg (show ¬ 25 = 8 by decide), if_neg (show ¬ 25 = 0 by decide), if_neg (show ¬ 26 = 8 by decide), if_neg (show ¬ 26 = 0 by decide)]
/-- drunk in thought with two strengths told otherwise: the class's and the reference's -/
theorem bo_dr {I I1 : Is} {J : Js} {b : Bool} (h : Rel I J b) (s : Sm I I1) (h2 : 2 ≤ (I 1 1).toInt) {i j : Nat} (hi : i ≤ 20) (hj : j ≤ 20) (n : Nat) : (∀ k, k < 2 → (drS I b (nI i) (nI j) (I 1 1).toInt.toNat n).2.2.2.2.1 k = (boG I1 n i j).2.2.2.2.1 k) ∧ tgV I b (I 1 1).toInt.toNat n i j = boV I1 n i j ∧ 0 ≤ (boV I1 n i j).toInt := by
  obtain ⟨en1, gl1, e6⟩ := rel_1 h s
  have ini : (nI i).toInt = (i : Int) := nIint (by omega)
  have inj : (nI j).toInt = (j : Int) := nIint (by omega)
  have h3 := h.1.2.2.1.2.1
  have hN : NW ((st2 I (nI i) (nI j)) 1 1) ((st2 I (nI i) (nI j)) 2) := by
    rw [st2_ne (c := 1) (by decide)]
    exact st2_NW h.1.2.2.1 h2 (by omega) (by omega)
  have he := en_ok (b := b) hN
  have hs : (en (st2 I (nI i) (nI j)) b).1 = (I 1 1).toInt.toNat := by
    show ix ((st2 I (nI i) (nI j)) 1 1) = _
    rw [st2_ne (c := 1) (by decide)]
    rfl
  have hvI : VOk (bgF (gv I 16)) := bg_ok h.2.1.2.2.2.1
  have hd := dr_go (pt := bit 7) (fr := bit 0) (hc := bit 0) he hs n hvI
  have hgo := go_eqv (pt := bit 7) (fr := bit 0) (hc := bit 0) he.1 (bg_eqv gl1) n
  have hbo : boG I1 n i j = goF (en (st2 I (nI i) (nI j)) b) (bit 7) (bit 0) (bit 0) n (bgF (gvT I1)) := by
    unfold boG
    rw [en_up2 h s]
  have et : (en (st2 I (nI i) (nI j)) b).2.1 = (st2 I (nI i) (nI j)) 2 := rfl
  have hk : ∀ k, k < 2 → k < (en (st2 I (nI i) (nI j)) b).1 := fun k hk => by rw [hs]; omega
  have hsw := fun k (hk2 : k < 2) => go_sw (e := en (st2 I (nI i) (nI j)) b) (pt := bit 7) (fr := bit 0) (hc := bit 0) (v0 := bgF (gvT I1)) (hk k hk2) rfl rfl n
  have hl := fun k (hk2 : k < 2) => got_le he (pt := bit 7) (fr := bit 0) (hc := bit 0) (v0 := bgF (gvT I1)) (bg_ok (VOk.eqv gl1 h.2.1.2.2.2.1)) (hk k hk2) rfl n
  have hvl := h.2.1.2.2.2.1
  have hl0 : 0 ≤ (I 16 0).toInt ∧ (I 16 0).toInt ≤ 999 := hvl.1
  have hi0 : 0 ≤ (I 16 1).toInt ∧ (I 16 1).toInt ≤ 99 := hvl.2
  have el : (bgF (gvT I1)).1 = I 16 0 := gl1.1
  have ei : (bgF (gvT I1)).2.1 = I 16 1 := gl1.2.1
  have hrr := fun k (hk2 : k < 2) => (he.2.1 k (hk k hk2)).1
  have hok := go_ok (pt := bit 7) (fr := bit 0) (hc := bit 0) he (bg_ok (VOk.eqv gl1 h.2.1.2.2.2.1) : VOk (bgF (gvT I1))) n
  rw [el, ei] at hl
  rw [et] at hsw
  have hsw2 : ∀ k, k < 2 → (goF (en (st2 I (nI i) (nI j)) b) (bit 7) (bit 0) (bit 0) n (bgF (gvT I1))).2.2.2.2.2.1 k = (goF (en (st2 I (nI i) (nI j)) b) (bit 7) (bit 0) (bit 0) n (bgF (gvT I1))).2.2.2.2.1 k * swF (I 2) k := fun k hk2 => by rw [hsw k hk2, sw_st2 I _ _ hk2]
  have e65 : I1 65 = I 2 := (s.2.1 65 (by decide) (by decide)).trans h.1.2.1
  have hbv : boV I1 n i j = (goF (en (st2 I (nI i) (nI j)) b) (bit 7) (bit 0) (bit 0) n (bgF (gvT I1))).2.2.2.2.1 0 * swF (I 2) 0 + (goF (en (st2 I (nI i) (nI j)) b) (bit 7) (bit 0) (bit 0) n (bgF (gvT I1))).2.2.2.2.1 1 * swF (I 2) 1 := by
    unfold boV
    rw [hbo, e65]
  refine ⟨fun k hk2 => ?_, ?_, ?_⟩
  · rw [hbo]
    exact (hd.1 k).trans (hgo.2.2.2.2.1 k (by omega)).symm
  · rw [hbv, ← hsw2 0 (by decide), ← hsw2 1 (by decide)]
    have a0 := (hd.2 0).trans (hgo.2.2.2.2.2.1 0 (by decide)).symm
    have a1 := (hd.2 1).trans (hgo.2.2.2.2.2.1 1 (by decide)).symm
    show (drS I b (nI i) (nI j) (I 1 1).toInt.toNat n).2.2.2.2.2.1 0 + (drS I b (nI i) (nI j) (I 1 1).toInt.toNat n).2.2.2.2.2.1 1 = _
    exact congr (congrArg (· + ·) a0) a1
  · rw [hbv]
    have hg : 0 ≤ (I 2 26).toInt ∧ (I 2 26).toInt ≤ 9 := h.1.2.2.1.2.2.2.2.2.1
    have z1 : (1 : Int32).toInt = 1 := rfl
    have hs : ∀ k, 1 ≤ (swF (I 2) k).toInt ∧ (swF (I 2) k).toInt ≤ 10 := fun k => by
      unfold swF
      split
      · rw [tI_add (by omega) (by omega), z1]; omega
      · rw [z1]; omega
    have hl0' := hl 0 (by decide)
    have hl1' := hl 1 (by decide)
    have r0 := hrr 0 (by decide)
    have r1 := hrr 1 (by decide)
    have s0 := hs 0
    have s1 := hs 1
    generalize goF (en (st2 I (nI i) (nI j)) b) (bit 7) (bit 0) (bit 0) n (bgF (gvT I1)) = V at hl0' hl1'
    generalize swF (I 2) 0 = W0 at s0
    generalize swF (I 2) 1 = W1 at s1
    have c0 : (V.2.2.2.2.1 0).toInt ≤ 1098 := by omega
    have c1 : (V.2.2.2.2.1 1).toInt ≤ 1098 := by omega
    have p0 : (V.2.2.2.2.1 0).toInt * W0.toInt ≤ 1098 * 10 := Int.mul_le_mul c0 s0.2 (by omega) (by omega)
    have p1 : (V.2.2.2.2.1 1).toInt * W1.toInt ≤ 1098 * 10 := Int.mul_le_mul c1 s1.2 (by omega) (by omega)
    have q0 : 0 ≤ (V.2.2.2.2.1 0).toInt * W0.toInt := Int.mul_nonneg hl0'.1 (by omega)
    have q1 : 0 ≤ (V.2.2.2.2.1 1).toInt * W1.toInt := Int.mul_nonneg hl1'.1 (by omega)
    have m0 : (V.2.2.2.2.1 0 * W0).toInt = (V.2.2.2.2.1 0).toInt * W0.toInt := tI_mul (by omega) (by omega)
    have m1 : (V.2.2.2.2.1 1 * W1).toInt = (V.2.2.2.2.1 1).toInt * W1.toInt := tI_mul (by omega) (by omega)
    rw [tI_add (by omega) (by omega)]
    omega
theorem sl_un {A B A' B' : Nat → Nat → Int32} {f S : Nat} {v v' : Int32} (hA : ∀ i j, i ≤ f → j ≤ S → A i j = A' i j) (hB : ∀ i j, i ≤ f → j ≤ S → B i j = B' i j) (h : slQ A B f S v) (h' : slQ A' B' f S v') : v' = v := by
  have hc : ∀ i j, i ≤ f → j ≤ S → (ctG A B f S i j ↔ ctG A' B' f S i j) := fun i j hi hj => by
    unfold ctG
    exact ⟨fun z => ⟨fun o ho => by rw [← hA o j ho hj, ← hA i j hi hj]; exact z.1 o ho, fun o ho => by rw [← hB i o hi ho, ← hB i j hi hj]; exact z.2 o ho⟩, fun z => ⟨fun o ho => by rw [hA o j ho hj, hA i j hi hj]; exact z.1 o ho, fun o ho => by rw [hB i o hi ho, hB i j hi hj]; exact z.2 o ho⟩⟩
  rcases h with ⟨i, j, hi, hj, hv, c, n1, n2⟩ | ⟨hv, n⟩
  · rcases h' with ⟨i', j', hi', hj', hv', c', n1', n2'⟩ | ⟨hv', n'⟩
    · have k1 := (hc i j hi hj).mp c
      have k2 := (hc i' j' hi' hj').mpr c'
      have ei : i = i' := by
        by_cases a : i < i'
        · exact absurd k1 (n1' i j hj a)
        · by_cases a2 : i' < i
          · exact absurd k2 (n1 i' j' hj' a2)
          · omega
      subst ei
      have ej : j = j' := by
        by_cases a : j < j'
        · exact absurd k1 (n2' j a)
        · by_cases a2 : j' < j
          · exact absurd k2 (n2 j' a2)
          · omega
      rw [hv, hv', ej]
    · exact absurd ((hc i j hi hj).mp c) (n' i j hi hj)
  · rcases h' with ⟨i', j', hi', hj', hv', c', n1', n2'⟩ | ⟨hv', n'⟩
    · exact absurd ((hc i' j' hi' hj').mpr c') (n i' j' hi' hj')
    · rw [hv, hv']
theorem ti_cg {val val' : Nat → Nat → Int32} {i : Nat} : ∀ m j be mo, (∀ c, c < j + m → val i c = val' i c) → tiF val i m j be mo = tiF val' i m j be mo := by
  intro m
  induction m with
  | zero => intro j be mo _; rfl
  | succ m ih =>
    intro j be mo h
    show (if mo.toInt < (val i j).toInt then tiF val i m (j + 1) (100 * nI i + nI j) (val i j) else tiF val i m (j + 1) be mo) = (if mo.toInt < (val' i j).toInt then tiF val' i m (j + 1) (100 * nI i + nI j) (val' i j) else tiF val' i m (j + 1) be mo)
    rw [h j (by omega), ih (j + 1) _ _ (fun c hc => h c (by omega)), ih (j + 1) _ _ (fun c hc => h c (by omega))]
theorem to_cg {val val' : Nat → Nat → Int32} {S : Nat} : ∀ m i be mo, (∀ a c, a < i + m → c ≤ S → val a c = val' a c) → toF val S m i be mo = toF val' S m i be mo := by
  intro m
  induction m with
  | zero => intro i be mo _; rfl
  | succ m ih =>
    intro i be mo h
    show toF val S m (i + 1) (tiF val i (S + 1) 0 be mo).1 (tiF val i (S + 1) 0 be mo).2 = toF val' S m (i + 1) (tiF val' i (S + 1) 0 be mo).1 (tiF val' i (S + 1) 0 be mo).2
    rw [ti_cg (S + 1) 0 be mo (fun c hc => h i c (by omega) (by omega)), ih (i + 1) _ _ (fun a c ha hc => h a c (by omega) hc)]
theorem to_first {val : Nat → Nat → Int32} {S f : Nat} {be be' : Int32} (h : (-1 : Int) < (val 0 0).toInt) : toF val S (f + 1) 0 be (-1) = toF val S (f + 1) 0 be' (-1) := by
  have ht : ∀ x : Int32, tiF val 0 (S + 1) 0 x (-1) = tiF val 0 S 1 (100 * nI 0 + nI 0) (val 0 0) := fun x => by
    have e : tiF val 0 (S + 1) 0 x (-1) = if (-1 : Int32).toInt < (val 0 0).toInt then tiF val 0 S 1 (100 * nI 0 + nI 0) (val 0 0) else tiF val 0 S 1 x (-1) := rfl
    have h1 : (-1 : Int32).toInt < (val 0 0).toInt := h
    rw [e, if_pos h1]
  show toF val S f 1 (tiF val 0 (S + 1) 0 be (-1)).1 (tiF val 0 (S + 1) 0 be (-1)).2 = toF val S f 1 (tiF val 0 (S + 1) 0 be' (-1)).1 (tiF val 0 (S + 1) 0 be' (-1)).2
  rw [ht, ht]
theorem c_both {I I1 I2 : Is} {J : Js} {b : Bool} {n : Int32} {w : Int32} {v1 v2 : Int32} (h : Rel I J b) (q1 : (¬ (inR n 60 ∧ inR w 1) ∧ v1 = -1 ∧ I1 = I) ∨ ((inR n 60 ∧ inR w 1) ∧ (I 1 1).toInt < 2 ∧ v1 = -5 ∧ I1 = I) ∨ ((inR n 60 ∧ inR w 1) ∧ 2 ≤ (I 1 1).toInt ∧ w = 0 ∧ slQ (g0F I b (I 1 1).toInt.toNat (ix n)) (g1F I b (I 1 1).toInt.toNat (ix n)) (ix (I 2 0)) (ix (I 2 8)) v1 ∧ Fr (30 :: 31 :: [32, 33, 34, 35, 36, 37, 14, 15]) I I1) ∨ ((inR n 60 ∧ inR w 1) ∧ 2 ≤ (I 1 1).toInt ∧ ¬ w = 0 ∧ v1 = (toF (tgV I b (I 1 1).toInt.toNat (ix n)) (ix (I 2 8)) (ix (I 2 0) + 1) 0 0 (-1)).1 ∧ Fr [32, 33, 34, 35, 36, 37, 14, 15] I I1)) (q2 : (¬ (inR n 60 ∧ inR w 1) ∧ v2 = -1 ∧ I2 = I1) ∨ ((inR n 60 ∧ inR w 1) ∧ (I1 64 6).toInt < 2 ∧ v2 = -5 ∧ I2 = I1) ∨ ((inR n 60 ∧ inR w 1) ∧ 2 ≤ (I1 64 6).toInt ∧ w = 0 ∧ slQ (fun i j => (boG I1 (ix n) i j).2.2.2.2.1 0) (fun i j => (boG I1 (ix n) i j).2.2.2.2.1 1) (ix (I1 65 0)) (ix (I1 65 8)) v2 ∧ FrM (79 :: 80 :: RTM) FTM I1 I2) ∨ ((inR n 60 ∧ inR w 1) ∧ 2 ≤ (I1 64 6).toInt ∧ ¬ w = 0 ∧ v2 = (toF (boV I1 (ix n)) (ix (I1 65 8)) (ix (I1 65 0) + 1) 0 (-2) (-1)).1 ∧ FrM (79 :: 80 :: RTM) FTM I1 I2)) : v2 = v1 ∧ Rel I2 J b := by
  rcases q1 with ⟨c1, hv, hI⟩ | ⟨c1, c2, hv, hI⟩ | q1
  · rw [hI] at q2
    rcases q2 with ⟨d, hv2, hI2⟩ | ⟨d, -⟩ | ⟨d, -⟩ | ⟨d, -⟩
    · exact ⟨hv2.trans hv.symm, by rw [hI2]; exact h⟩
    · exact absurd d c1
    · exact absurd d c1
    · exact absurd d c1
  · rw [hI, h.1.1] at q2
    rcases q2 with ⟨d, -⟩ | ⟨-, -, hv2, hI2⟩ | ⟨-, d, -⟩ | ⟨-, d, -⟩
    · exact absurd c1 d
    · exact ⟨hv2.trans hv.symm, by rw [hI2]; exact h⟩
    · exact absurd d (by omega)
    · exact absurd d (by omega)
  · have c1 : inR n 60 ∧ inR w 1 := by rcases q1 with q | q <;> exact q.1
    have c2 : 2 ≤ (I 1 1).toInt := by rcases q1 with q | q <;> exact q.2.1
    have s1 : Sm I I1 := by
      rcases q1 with ⟨-, -, -, -, hF⟩ | ⟨-, -, -, -, hF⟩
      · exact Sm.fr hF (by decide)
      · exact Sm.fr hF (by decide)
    obtain ⟨en1, gl1, e6⟩ := rel_1 h s1
    have e65 : I1 65 = I 2 := (s1.2.1 65 (by decide) (by decide)).trans h.1.2.1
    rw [e6, e65] at q2
    have hst := h.1.2.2.1.2.2.1
    have hs0 := (hst 0 (by omega)).1
    have hs1 := (hst 1 (by omega)).1
    have hs0 : 0 ≤ (I 2 0).toInt ∧ (I 2 0).toInt ≤ 20 := hs0
    have hs1 : 0 ≤ (I 2 8).toInt ∧ (I 2 8).toInt ≤ 20 := hs1
    have i0 := ix_nn hs0.1
    have i8 := ix_nn hs1.1
    obtain ⟨f, hf⟩ : ∃ f, ix (I 2 0) = f := ⟨_, rfl⟩
    obtain ⟨S, hS⟩ : ∃ S, ix (I 2 8) = S := ⟨_, rfl⟩
    rw [hf, hS] at q1 q2
    have hfl : f ≤ 20 := by omega
    have hSl : S ≤ 20 := by omega
    have hb := fun i j (hi : i ≤ f) (hj : j ≤ S) => bo_dr h s1 c2 (i := i) (j := j) (by omega) (by omega) (ix n)
    rcases q1 with ⟨-, -, w0, hq, hF⟩ | ⟨-, -, w0, hv, hF⟩
    · rcases q2 with ⟨d, -⟩ | ⟨-, d, -⟩ | ⟨-, -, -, hq2, hF2⟩ | ⟨-, -, d, -⟩
      · exact absurd c1 d
      · exact absurd d (by omega)
      · refine ⟨?_, h.sm (Sm.of hF hF2 (by decide) (by decide))⟩
        exact sl_un (fun i j hi hj => (hb i j hi hj).1 0 (by decide)) (fun i j hi hj => (hb i j hi hj).1 1 (by decide)) hq hq2
      · exact absurd w0 d
    · rcases q2 with ⟨d, -⟩ | ⟨-, d, -⟩ | ⟨-, -, d, -⟩ | ⟨-, -, -, hv2, hF2⟩
      · exact absurd c1 d
      · exact absurd d (by omega)
      · exact absurd d w0
      · refine ⟨?_, h.sm (Sm.of hF hF2 (by decide) (by decide))⟩
        have e1 := to_cg (val := tgV I b (I 1 1).toInt.toNat (ix n)) (val' := boV I1 (ix n)) (S := S) (f + 1) 0 0 (-1) (fun a c ha hc => (hb a c (by omega) hc).2.1)
        have e2 := to_first (val := boV I1 (ix n)) (S := S) (f := f) (be := -2) (be' := 0) (by have := (hb 0 0 (by omega) (by omega)).2.2; omega)
        rw [hv, hv2, e1, e2]
