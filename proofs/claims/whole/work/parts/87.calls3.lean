theorem fu_cg {row row' : Nat → Int64} {lv lv' : Nat → Int32} : ∀ (m i : Nat), (∀ q, i ≤ q → q < i + m → row q = row' q ∧ lv q = lv' q) → fuF row lv m i = fuF row' lv' m i := by
  intro m
  induction m with
  | zero => intro i _; rfl
  | succ m ih =>
    intro i h
    show (if row i = (lv i).toInt64 then fuF row lv m (i + 1) else nI i) = if row' i = (lv' i).toInt64 then fuF row' lv' m (i + 1) else nI i
    rw [(h i (Nat.le_refl i) (by omega)).1, (h i (Nat.le_refl i) (by omega)).2, ih (i + 1) (fun q h1 h2 => h q (by omega) (by omega))]
theorem rr_ss {I I1 : Is} {J : Js} {b : Bool} (h : Rel I J b) (s : Sm I I1) (k : Int32) : (rrF I k = 0 ∧ ssM I1 k = 1 ∧ inR k 5 ∧ I1 88 (ix k) = I (shT k) 1 ∧ (0 ≤ (I (shT k) 1).toInt ∧ (I (shT k) 1).toInt ≤ 60) ∧ ∀ q, q < 60 → rwM J k q = J (shT k + 1) q) ∨ (¬ rrF I k = 0 ∧ (ssM I1 k).toInt < 0 ∧ ssM I1 k = rrF I k ∧ (ssM I1 k = -1 ↔ ¬ inR k 5)) := by
  have e87 : I1 87 = I 87 := s.2.1 87 (by decide) (by decide)
  have e88 : I1 88 = I 88 := s.2.1 88 (by decide) (by decide)
  rw [e88]
  by_cases hk : inR k 5
  · have hd : ix k < 6 := by
      have h1 := ix_nn hk.1
      have h2 : k.toInt ≤ 5 := hk.2
      omega
    obtain ⟨f1, f2, f3, f4⟩ := h.2.2.2.2.2 (ix k) hd
    have f1 : I 88 (ix k) = I (shT k) 1 := f1
    have f3 : ∀ q, q < 60 → J 89 (60 * ix k + q) = J (shT k + 1) q := f3
    have f4 : (I 87 (ix k) = -1 ∧ I (shT k) 0 = -2) ∨ ((0 ≤ (I 87 (ix k)).toInt ∧ (I 87 (ix k)).toInt < (I 48 0).toInt) ∧ I (shT k) 0 = -1 ∧ I (shT k) 2 = I 87 (ix k)) ∨ ((0 ≤ (I (shT k) 0).toInt ∧ (I (shT k) 0).toInt ≤ 4) ∧ (I 87 (ix k)).toInt = 50 + (I (shT k) 0).toInt ∧ _) := f4
    have m1 : (-1 : Int32).toInt = -1 := rfl
    have z1 : (1 : Int32).toInt = 1 := rfl
    have z51 : (51 : Int32).toInt = 51 := rfl
    have hs : ssM I1 k = if (I 87 (ix k)).toInt < 0 then -11 else if I 87 (ix k) = 51 then 1 else -12 := by unfold ssM; rw [if_pos hk, e87]
    have hr : rrF I k = if I (shT k) 0 = -2 then -11 else if I (shT k) 0 = 1 then 0 else -12 := by unfold rrF; rw [if_pos hk]
    rw [hs, hr]
    rcases f4 with ⟨g1, g2⟩ | ⟨g1, g2, -⟩ | ⟨g1, g2, -⟩
    · rw [if_pos g2, if_pos (by rw [g1]; decide)]
      exact Or.inr ⟨by decide, by decide, rfl, ⟨fun z => absurd z (by decide), fun z => absurd hk z⟩⟩
    · have he := h.2.2.2.2.1.2.1
      rw [if_neg (show ¬ I (shT k) 0 = -2 by rw [g2]; decide), if_neg (show ¬ I (shT k) 0 = 1 by rw [g2]; decide), if_neg (by omega : ¬ (I 87 (ix k)).toInt < 0), if_neg (show ¬ I 87 (ix k) = 51 from fun z => by have := congrArg Int32.toInt z; omega)]
      exact Or.inr ⟨by decide, by decide, rfl, ⟨fun z => absurd z (by decide), fun z => absurd hk z⟩⟩
    · rw [if_neg (show ¬ I (shT k) 0 = -2 from fun z => by rw [z] at g1; exact absurd g1.1 (by decide)), if_neg (by omega : ¬ (I 87 (ix k)).toInt < 0)]
      by_cases c : I (shT k) 0 = 1
      · rw [if_pos c, if_pos (show I 87 (ix k) = 51 from Int32.toInt_inj.mp (by rw [g2, c, z1, z51]; rfl))]
        rw [f1] at f2 ⊢
        exact Or.inl ⟨rfl, rfl, hk, rfl, f2, f3⟩
      · rw [if_neg c, if_neg (show ¬ I 87 (ix k) = 51 from fun z => c (Int32.toInt_inj.mp (by have := congrArg Int32.toInt z; omega)))]
        exact Or.inr ⟨by decide, by decide, rfl, ⟨fun z => absurd z (by decide), fun z => absurd hk z⟩⟩
  · have hs : ssM I1 k = -1 := by unfold ssM; rw [if_neg hk]
    have hr : rrF I k = -1 := by unfold rrF; rw [if_neg hk]
    rw [hs, hr]
    exact Or.inr ⟨by decide, by decide, rfl, ⟨fun _ => hk, fun _ => rfl⟩⟩
theorem wt_eq {I : Is} {b : Bool} (h65 : I 65 = I 2) (ht : (I (tbL b) 4 = 0 ∧ (I 64 14).toInt < 0) ∨ (¬ I (tbL b) 4 = 0 ∧ 0 ≤ (I 64 14).toInt ∧ (I 64 14).toInt ≤ 120 ∧ ∀ nm, prF nm (I (tbL b + 1)) (I (tbL b + 2)) (I (tbL b + 3)) (ix (I (tbL b) 4)) 0 0 true = imax 0 (imin 99 (woM (txR (I 71) (I 64 14)) nm (I 64 14)).1))) : wtM I = wantF I b := by
  funext j l t
  unfold wtM wantF
  rw [h65]
  rcases ht with ⟨t1, t2⟩ | ⟨t1, t2, -, t4⟩
  · rw [if_pos t1, if_neg (by omega)]
  · rw [if_neg t1, if_pos t2]
    exact (t4 _).symm
/-- both with one number told otherwise -/
theorem en_up {I I1 : Is} {J : Js} {b : Bool} (h : Rel I J b) (s : Sm I I1) (p : Nat) (v : Int32) : enM (u2 I1 65 p v) = en (u2 I 2 p v) b := by
  have h1 := h.sm s
  obtain ⟨a1, a2, -, -, -, -, -, a8⟩ := h1.1
  have ht := tbL_lt b
  have e65 : (u2 I1 65 p v) 65 = (u2 I 2 p v) 2 := by
    rw [u2_65, u2_2, a2, s.lo (c := 2) (by decide)]
  have hw : wtM (u2 (u2 I1 65 p v) 2 p v) = wantF (u2 (u2 I1 65 p v) 2 p v) b := by
    have r : ∀ c, c ≠ 2 → c ≠ 65 → u2 (u2 I1 65 p v) 2 p v c = I1 c := fun c h2 h5 => by rw [u2_row h2, u2_row h5]
    refine wt_eq ?_ ?_
    · rw [u2_row (t := 2) (t' := 65) (by decide), u2_65, u2_2, u2_row (t := 65) (t' := 2) (by decide), a2]
    · rw [r (tbL b) (by omega) (by omega), r (tbL b + 1) (by omega) (by omega), r (tbL b + 2) (by omega) (by omega), r (tbL b + 3) (by omega) (by omega), r 71 (by decide) (by decide), r 64 (by decide) (by decide)]
      exact a8
  have hw1 : wtM (u2 (u2 I1 65 p v) 2 p v) = wtM (u2 I1 65 p v) := wtM_congr (u2_row (by decide)) (u2_row (by decide)) (congrFun (u2_row (by decide)) 14)
  have hw2 : wantF (u2 (u2 I1 65 p v) 2 p v) b = wantF (u2 I 2 p v) b := by
    funext j l t
    refine wantF_rows (fun c hc => ?_) j l t
    by_cases e : c = 2
    · rw [e, u2_2, u2_2, u2_row (t := 65) (t' := 2) (by decide), s.lo (c := 2) (by decide)]
    · rw [u2_row e, u2_row (t := 65) (by intro z; rw [z] at hc; exact absurd hc (by decide)), u2_row e]
      exact s.lo (by simp at hc; omega)
  unfold enM en
  rw [e65, ← hw1, hw, hw2]
  have e6 : (u2 I1 65 p v) 64 6 = (u2 I 2 p v) 1 1 := by
    rw [congrFun (u2_row (t := 65) (t' := 64) (f := I1) (k := p) (v := v) (by decide)) 6, congrFun (u2_row (t := 2) (t' := 1) (f := I) (k := p) (v := v) (by decide)) 1]
    exact (s.2.2 6 (by decide)).trans h.1.1
  rw [e6]
theorem c_judge {I I1 I2 : Is} {J : Js} {b : Bool} {k : Int32} {v1 v2 : Int32} (h : Rel I J b) (q1 : (¬ rrF I k = 0 ∧ v1 = rrF I k ∧ I1 = I) ∨ (rrF I k = 0 ∧ v1 = fuF (J (shT k + 1)) (fun q => (goF (en I b) (bit 7) (bit 0) (bit 0) (q + 1) (bgF (gv I 16))).1) (I (shT k) 1).toInt.toNat 0 ∧ Fr [32, 33, 34, 35, 36, 37, 14, 15] I I1)) (q2 : ((ssM I1 k).toInt < 0 ∧ v2 = ssM I1 k ∧ I2 = I1) ∨ (0 ≤ (ssM I1 k).toInt ∧ v2 = fuF (rwM J k) (fun q => (goF (enM I1) (bit 7) (bit 0) (bit 0) (q + 1) (bgF (gvT I1))).1) (I1 88 (ix k)).toInt.toNat 0 ∧ FrM RTM FTM I1 I2)) : v2 = v1 ∧ Rel I2 J b := by
  rcases q1 with ⟨c1, hv, hI⟩ | ⟨c1, hv, hF⟩
  · rw [hI] at q2
    rcases rr_ss h Sm.rf k with ⟨g1, -⟩ | ⟨g1, g2, g3, -⟩
    · exact absurd g1 c1
    · rcases q2 with ⟨d, hv2, hI2⟩ | ⟨d, -⟩
      · exact ⟨by rw [hv2, hv, g3], by rw [hI2]; exact h⟩
      · omega
  · have s1 := Sm.fr hF (by decide)
    rcases rr_ss h s1 k with ⟨g1, g2, g3, g4, g5, g6⟩ | ⟨g1, -⟩
    · rcases q2 with ⟨d, -⟩ | ⟨-, hv2, hF2⟩
      · rw [g2] at d; exact absurd d (by decide)
      · refine ⟨?_, h.sm (Sm.of hF hF2 (by decide) (by decide))⟩
        rw [hv2, hv, g4]
        exact fu_cg _ _ (fun q _ h2 => ⟨g6 q (by omega), (rel_go h s1 (bit 7) (bit 0) (bit 0) (q + 1)).1⟩)
    · exact absurd c1 g1
theorem c_who {I I1 I2 : Is} {J : Js} {b : Bool} {k : Int32} {w : Int32} {v1 v2 : Int32} (h : Rel I J b) (q1 : (¬ inR w 1 ∧ v1 = -1 ∧ I1 = I) ∨ (inR w 1 ∧ ¬ rrF I k = 0 ∧ v1 = rrF I k ∧ I1 = I) ∨ (inR w 1 ∧ rrF I k = 0 ∧ v1 = (if w = 0 then sfF (fitF I J b (shT k) (I (shT k) 1).toInt.toNat) (2 ^ (I 1 1).toInt.toNat) 0 0 else lsetF (fitF I J b (shT k) (I (shT k) 1).toInt.toNat) (2 ^ (I 1 1).toInt.toNat) 0) ∧ Fr [32, 33, 34, 35, 36, 37, 14, 15] I I1)) (q2 : ((ssM I1 k = -1 ∨ ¬ inR w 1) ∧ v2 = -1 ∧ I2 = I1) ∨ (¬ (ssM I1 k = -1 ∨ ¬ inR w 1) ∧ (ssM I1 k).toInt < 0 ∧ v2 = ssM I1 k ∧ I2 = I1) ∨ (¬ (ssM I1 k = -1 ∨ ¬ inR w 1) ∧ 0 ≤ (ssM I1 k).toInt ∧ v2 = (if w = 0 then sfF (fun q_ => fuF (rwM J k) (fun q => (goF (enM I1) (bit (nI q_)) (bit 0) (bit 0) (q + 1) (bgF (gvT I1))).1) (I1 88 (ix k)).toInt.toNat 0) (2 ^ (I1 64 6).toInt.toNat) 0 0 else lsetF (fun q_ => fuF (rwM J k) (fun q => (goF (enM I1) (bit (nI q_)) (bit 0) (bit 0) (q + 1) (bgF (gvT I1))).1) (I1 88 (ix k)).toInt.toNat 0) (2 ^ (I1 64 6).toInt.toNat) 0) ∧ FrM RTM FTM I1 I2)) : v2 = v1 ∧ Rel I2 J b := by
  rcases q1 with ⟨c1, hv, hI⟩ | ⟨c0, c1, hv, hI⟩ | ⟨c0, c1, hv, hF⟩
  · rw [hI] at q2
    rcases q2 with ⟨d, hv2, hI2⟩ | ⟨d, -⟩ | ⟨d, -⟩
    · exact ⟨hv2.trans hv.symm, by rw [hI2]; exact h⟩
    · exact absurd (Or.inr c1) d
    · exact absurd (Or.inr c1) d
  · rw [hI] at q2
    rcases rr_ss h Sm.rf k with ⟨g1, -⟩ | ⟨g1, g2, g3, g4⟩
    · exact absurd g1 c1
    · rcases q2 with ⟨d, hv2, hI2⟩ | ⟨d, -, hv2, hI2⟩ | ⟨d, d2, -⟩
      · have e := d.resolve_right (fun z => z c0)
        exact ⟨by rw [hv2, hv, ← g3, e], by rw [hI2]; exact h⟩
      · exact ⟨by rw [hv2, hv, g3], by rw [hI2]; exact h⟩
      · omega
  · have s1 := Sm.fr hF (by decide)
    obtain ⟨en1, gl1, e6⟩ := rel_1 h s1
    rcases rr_ss h s1 k with ⟨g1, g2, g3, g4, g5, g6⟩ | ⟨g1, -⟩
    · rcases q2 with ⟨d, -⟩ | ⟨d, d2, -⟩ | ⟨-, -, hv2, hF2⟩
      · rcases d with e | e
        · rw [g2] at e; exact absurd e (by decide)
        · exact absurd c0 e
      · rw [g2] at d2; exact absurd d2 (by decide)
      · refine ⟨?_, h.sm (Sm.of hF hF2 (by decide) (by decide))⟩
        rw [hv2, hv, g4, e6]
        have e : (fun q_ => fuF (rwM J k) (fun q => (goF (enM I1) (bit (nI q_)) (bit 0) (bit 0) (q + 1) (bgF (gvT I1))).1) (I (shT k) 1).toInt.toNat 0) = fitF I J b (shT k) (I (shT k) 1).toInt.toNat := by
          funext q_
          exact fu_cg _ _ (fun q _ h2 => ⟨g6 q (by omega), (rel_go h s1 (bit (nI q_)) (bit 0) (bit 0) (q + 1)).1⟩)
        rw [e]
    · exact absurd c1 g1
theorem c_since {I I1 I2 : Is} {J : Js} {b : Bool} {k : Int32} {x : Int32} {v1 v2 : Int32} (h : Rel I J b) (q1 : (¬ inS I x ∧ v1 = -1 ∧ I1 = I) ∨ (inS I x ∧ ¬ rrF I k = 0 ∧ v1 = rrF I k ∧ I1 = I) ∨ (inS I x ∧ rrF I k = 0 ∧ v1 = sbkF (stpF I J b (shT k) (I (shT k) 1).toInt.toNat (ix x)) ((I (shT k) 1).toInt.toNat + 1) 0 ∧ Fr [32, 33, 34, 35, 36, 37, 14, 15] I I1)) (q2 : ((ssM I1 k = -1 ∨ ¬ inM I1 x) ∧ v2 = -1 ∧ I2 = I1) ∨ (¬ (ssM I1 k = -1 ∨ ¬ inM I1 x) ∧ (ssM I1 k).toInt < 0 ∧ v2 = ssM I1 k ∧ I2 = I1) ∨ (¬ (ssM I1 k = -1 ∨ ¬ inM I1 x) ∧ 0 ≤ (ssM I1 k).toInt ∧ v2 = sbkF (fun q_ => fuF (rwM J k) (fun q => (goF (enM (u2 I1 65 (8 * ix x + 7) (I1 64 9 + nI q_))) (bit 7) (bit 0) (bit 0) (q + 1) (bgF (gvT I1))).1) (I1 88 (ix k)).toInt.toNat 0) ((I1 88 (ix k)).toInt.toNat + 1) 0 ∧ FrM RTM FTM I1 I2)) : v2 = v1 ∧ Rel I2 J b := by
  rcases q1 with ⟨c1, hv, hI⟩ | ⟨c0, c1, hv, hI⟩ | ⟨c0, c1, hv, hF⟩
  · rw [hI] at q2
    have c1 : ¬ inM I x := fun z => c1 ((inM_iff h.1.1 x).mp z)
    rcases q2 with ⟨d, hv2, hI2⟩ | ⟨d, -⟩ | ⟨d, -⟩
    · exact ⟨hv2.trans hv.symm, by rw [hI2]; exact h⟩
    · exact absurd (Or.inr c1) d
    · exact absurd (Or.inr c1) d
  · rw [hI] at q2
    have c0 : inM I x := (inM_iff h.1.1 x).mpr c0
    rcases rr_ss h Sm.rf k with ⟨g1, -⟩ | ⟨g1, g2, g3, g4⟩
    · exact absurd g1 c1
    · rcases q2 with ⟨d, hv2, hI2⟩ | ⟨d, -, hv2, hI2⟩ | ⟨d, d2, -⟩
      · have e := d.resolve_right (fun z => z c0)
        exact ⟨by rw [hv2, hv, ← g3, e], by rw [hI2]; exact h⟩
      · exact ⟨by rw [hv2, hv, g3], by rw [hI2]; exact h⟩
      · omega
  · have s1 := Sm.fr hF (by decide)
    obtain ⟨en1, gl1, e6⟩ := rel_1 h s1
    have c0 : inM I1 x := (inM_iff e6 x).mpr c0
    rcases rr_ss h s1 k with ⟨g1, g2, g3, g4, g5, g6⟩ | ⟨g1, -⟩
    · rcases q2 with ⟨d, -⟩ | ⟨d, d2, -⟩ | ⟨-, -, hv2, hF2⟩
      · rcases d with e | e
        · rw [g2] at e; exact absurd e (by decide)
        · exact absurd c0 e
      · rw [g2] at d2; exact absurd d2 (by decide)
      · refine ⟨?_, h.sm (Sm.of hF hF2 (by decide) (by decide))⟩
        rw [hv2, hv, g4]
        have he := (en_ok (b := b) h.1.2.2.1).1
        have e9 : I1 64 9 = I 16 2 := gl1.2.2.1
        have e : (fun q_ => fuF (rwM J k) (fun q => (goF (enM (u2 I1 65 (8 * ix x + 7) (I1 64 9 + nI q_))) (bit 7) (bit 0) (bit 0) (q + 1) (bgF (gvT I1))).1) (I (shT k) 1).toInt.toNat 0) = stpF I J b (shT k) (I (shT k) 1).toInt.toNat (ix x) := by
          funext q_
          refine fu_cg _ _ (fun q _ h2 => ⟨g6 q (by omega), ?_⟩)
          rw [en_up h s1, e9]
          exact (go_eqv (show (en (u2 I 2 (8 * ix x + 7) (I 16 2 + nI q_)) b).1 ≤ 3 from he) (bg_eqv gl1) (q + 1)).1
        rw [e]
    · exact absurd c1 g1
theorem hsM_eqv {e : EV} (he : e.1 ≤ 3) {lim : Int32} {s : Nat} : ∀ (m : Nat) (z : Int32) (v w : GV), EqV v w → (hsF e lim s m z v).1 = (hsF e lim s m z w).1 ∧ EqV (hsF e lim s m z v).2 (hsF e lim s m z w).2 := by
  intro m
  induction m with
  | zero => intro z v w h; exact ⟨rfl, h⟩
  | succ m ih => intro z v w h; exact ih _ _ _ (secF_eqv he h)
theorem hgM_eqv {e : EV} (he : e.1 ≤ 3) {lim : Int32} {s : Nat} {v w : GV} (h : EqV v w) {x : Int32} (hx : 0 ≤ x.toInt → ix x < 3) : ∀ (m : Nat) (z sum : Int32), hgF e lim s v x m z sum = hgF e lim s w x m z sum := by
  intro m
  induction m with
  | zero => intro z sum; rfl
  | succ m ih =>
    intro z sum
    obtain ⟨a, c⟩ := hsM_eqv he (lim := lim) (s := s) 60 z v w h
    show hgF e lim s v x m (hsF e lim s 60 z v).1 (sum + (if x.toInt < 0 then (hsF e lim s 60 z v).2.1 else (hsF e lim s 60 z v).2.2.2.2.2.1 (ix x))) = hgF e lim s w x m (hsF e lim s 60 z w).1 (sum + (if x.toInt < 0 then (hsF e lim s 60 z w).2.1 else (hsF e lim s 60 z w).2.2.2.2.2.1 (ix x)))
    rw [a, ih]
    by_cases d : x.toInt < 0
    · rw [if_pos d, if_pos d, c.1]
    · rw [if_neg d, if_neg d, c.2.2.2.2.1 _ (hx (by omega))]
theorem c_drawn {I I1 I2 : Is} {J : Js} {b : Bool} {sd : Int32} {n : Int32} {x : Int32} {v1 v2 : Int32} (h : Rel I J b) (q1 : (¬ ((1 ≤ n.toInt ∧ n.toInt ≤ 20) ∧ (x = -1 ∨ inS I x)) ∧ v1 = -1 ∧ I1 = I) ∨ (((1 ≤ n.toInt ∧ n.toInt ≤ 20) ∧ (x = -1 ∨ inS I x)) ∧ v1 = hgF (en I b) (I 2 27) (I 1 1).toInt.toNat (bgF (gv I 16)) x (ix n) sd 0 ∧ Fr [32, 33, 34, 35, 36, 37, 14, 15] I I1)) (q2 : (¬ ((1 ≤ n.toInt ∧ n.toInt ≤ 20) ∧ (x = -1 ∨ inM I1 x)) ∧ v2 = -1 ∧ I2 = I1) ∨ (((1 ≤ n.toInt ∧ n.toInt ≤ 20) ∧ (x = -1 ∨ inM I1 x)) ∧ v2 = hgF (enM I1) (I1 65 27) (I1 64 6).toInt.toNat (bgF (gvT I1)) x (ix n) sd 0 ∧ FrM RTM FTM I1 I2)) : v2 = v1 ∧ Rel I2 J b := by
  rcases q1 with ⟨c1, hv, hI⟩ | ⟨c1, hv, hF⟩
  · rw [hI] at q2
    rcases q2 with ⟨d, hv2, hI2⟩ | ⟨d, -⟩
    · exact ⟨hv2.trans hv.symm, by rw [hI2]; exact h⟩
    · exact absurd ⟨d.1, d.2.imp id (fun z => (inM_iff h.1.1 x).mp z)⟩ c1
  · have s1 := Sm.fr hF (by decide)
    obtain ⟨en1, gl1, e6⟩ := rel_1 h s1
    rcases q2 with ⟨d, -⟩ | ⟨-, hv2, hF2⟩
    · exact absurd ⟨c1.1, c1.2.imp id (fun z => (inM_iff e6 x).mpr z)⟩ d
    · refine ⟨?_, h.sm (Sm.of hF hF2 (by decide) (by decide))⟩
      have e65 : I1 65 = I 2 := (s1.2.1 65 (by decide) (by decide)).trans h.1.2.1
      rw [hv2, hv, en1, e6, e65]
      exact hgM_eqv (en_ok (b := b) h.1.2.2.1).1 (bg_eqv gl1) (fun h0 => s_lt h (c1.2.resolve_left (fun e => by rw [e] at h0; exact absurd h0 (by decide)))) _ _ _
