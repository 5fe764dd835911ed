/-- what a straw has got is bounded by what stood above its reach -/
theorem got_le {e : EV} (he : EvOk e) {pt fr hc : Nat → Bool} {v0 : GV} (hv0 : VOk v0) {j : Nat} (hj : j < e.1) (hg : v0.2.2.2.2.1 j = 0) : ∀ n, 0 ≤ ((goF e pt fr hc n v0).2.2.2.2.1 j).toInt ∧ ((goF e pt fr hc n v0).2.2.2.2.1 j).toInt + (goF e pt fr hc n v0).1.toInt + (goF e pt fr hc n v0).2.1.toInt ≤ v0.1.toInt + v0.2.1.toInt ∧ ((goF e pt fr hc n v0).2.2.2.2.1 j).toInt ≤ max 0 (v0.1.toInt + v0.2.1.toInt - (e.2.1 (8 * j + 2)).toInt) := by
  intro n
  induction n with
  | zero =>
    have e0 : (goF e pt fr hc 0 v0) = v0 := rfl
    have z0 : (0 : Int32).toInt = 0 := rfl
    rw [e0, hg, z0]
    omega
  | succ n ih =>
    have hv := go_ok (pt := pt) (fr := fr) (hc := hc) he hv0 n
    have e0 : goF e pt fr hc (n + 1) v0 = secF e pt fr hc (goF e pt fr hc n v0) := rfl
    rw [e0]
    generalize goF e pt fr hc n v0 = v at ih hv
    obtain ⟨i1, i2, i3⟩ := ih
    obtain ⟨m, m0, m1, s1, s2, s3⟩ := sec_int he (pt := pt) (fr := fr) (hc := hc) hv
    have l1 := l1_int he (pt := pt) (fr := fr) (hc := hc) hv
    have g1 := gt_rng he (pt := pt) (fr := fr) (hc := hc) hv hj
    have w1 := wVF_rng he (pt := pt) (fr := fr) (hc := hc) hj hv
    have sm := smF_nn (f := gtF e pt fr hc v) he.1 (fun k hk => by
      have a1 := gt_rng he (pt := pt) (fr := fr) (hc := hc) hv hk
      have a2 := wVF_rng he (pt := pt) (fr := fr) (hc := hc) hk hv
      omega) e.1 (Nat.le_refl _)
    have sj := sm.2.2 j hj
    have eg : (secF e pt fr hc v).2.2.2.2.1 j = v.2.2.2.2.1 j + gtF e pt fr hc v j := if_pos hj
    have hvr := hv
    unfold VOk at hvr hv0
    have eg2 : ((secF e pt fr hc v).2.2.2.2.1 j).toInt = (v.2.2.2.2.1 j).toInt + (gtF e pt fr hc v j).toInt := by rw [eg, tI_add (by omega) (by omega)]
    have hr := (he.2.1 j hj).1
    rw [eg2, s1, s2]
    omega
theorem b1_eq : ∀ i : Nat, i < 3 → ∀ j : Nat, j < 3 → b1 i j = true → j = i := by decide
/-- alone at a glass: the class's run, that ends early, and the reference's -/
theorem al_gf {I I1 : Is} {J : Js} {b : Bool} (h : Rel I J b) (s : Sm I I1) {j x : Nat} (hj : (j : Int) < (I 1 1).toInt) (hx : x ≤ 999) : alM I1 j (nI x) = gfF I b j (nI x) ∧ 0 ≤ (alM I1 j (nI x)).toInt ∧ (alM I1 j (nI x)).toInt ≤ max 0 ((x : Int) - (I 2 (8 * j + 2)).toInt) := by
  obtain ⟨en1, gl1, e6⟩ := rel_1 h s
  have he := en_ok (b := b) h.1.2.2.1
  have h3 := h.1.2.2.1.2.1
  have h0 := h.1.2.2.1.1
  have hj3 : j < 3 := by omega
  have hje : j < (en I b).1 := by
    show j < ix (I 1 1)
    have := ix_nn h0
    omega
  have inx : (nI x).toInt = (x : Int) := nIint (by omega)
  have z0 : (0 : Int32).toInt = 0 := rfl
  have hv0 : VOk (nI x, 0, (gv I 16).2.2.1, (gv I 16).2.2.2.1, fun _ => 0, fun _ => 0, fun _ => 0) := ⟨(by show 0 ≤ (nI x).toInt ∧ (nI x).toInt ≤ 999; omega), (by show 0 ≤ (0 : Int32).toInt ∧ (0 : Int32).toInt ≤ 99; omega)⟩
  have hq : EqV (nI x, 0, (bgF (gvT I1)).2.2) (nI x, 0, (gv I 16).2.2.1, (gv I 16).2.2.2.1, fun _ => 0, fun _ => 0, fun _ => 0) := ⟨rfl, rfl, gl1.2.2.1, gl1.2.2.2.1, fun _ _ => rfl, fun _ _ => rfl, fun _ _ => rfl⟩
  have hA : alM I1 j (nI x) = (goF (en I b) (b1 j) (b1 j) (bit 0) 60 (nI x, 0, (gv I 16).2.2.1, (gv I 16).2.2.2.1, fun _ => 0, fun _ => 0, fun _ => 0)).2.2.2.2.1 j := by
    unfold alM
    rw [en1, go_free]
    exact (go_eqv he.1 hq 60).2.2.2.2.1 j hj3
  have hw := wh_go (tst := abT (I 2 (8 * j + 2))) (pt := b1 j) (fr := b1 j) (hc := bit 0) he (fun v => v.2.1 = 0) (fun v hv _ => by
    have hm : ∀ l, mlF (en I b) v.2.1 l = 0 := fun l => by
      unfold mlF
      rw [hv, if_neg (by decide)]
    show v.2.1 - mlF (en I b) v.2.1 _ = 0
    rw [hm, Int32.sub_zero]
    exact hv) (fun v hv _ ht => by
    refine ⟨by rw [hv]; decide, fun k hk hp => ?_⟩
    have hk3 : k < 3 := Nat.lt_of_lt_of_le hk he.1
    rw [b1_eq j hj3 k hk3 hp]
    exact Int.not_lt.mp (of_decide_eq_false ht)) 60 _ rfl hv0
  have hl := got_le he (pt := b1 j) (fr := b1 j) (hc := bit 0) hv0 hje rfl 60
  have e1 : ((nI x, 0, (gv I 16).2.2.1, (gv I 16).2.2.2.1, fun _ => 0, fun _ => 0, fun _ => 0) : GV).1 = nI x := rfl
  have e2 : ((nI x, 0, (gv I 16).2.2.1, (gv I 16).2.2.2.1, fun _ => 0, fun _ => 0, fun _ => 0) : GV).2.1 = 0 := rfl
  have e3 : (en I b).2.1 = I 2 := rfl
  rw [e1, e2, e3, inx, z0] at hl
  refine ⟨?_, ?_, ?_⟩
  · rw [hA]
    exact (hw.1 j).symm
  · rw [hA]; exact hl.1
  · rw [hA]
    have := hl.2.2
    omega
theorem ha_cg {A B A' B' : Nat → Int32} {W : Nat} (hA : ∀ x, x ≤ W → A x = A' x) (hB : ∀ x, x ≤ W → B x = B' x) : ∀ n, n ≤ W + 1 → haF A B W n = haF A' B' W n := by
  intro n
  induction n with
  | zero => intro _; rfl
  | succ n ih =>
    intro hn
    show (if (haF A B W n).2.1.toInt < (if (B (W - n)).toInt ≤ (B n).toInt then A (W - n) else A n).toInt then (n, (if (B (W - n)).toInt ≤ (B n).toInt then A (W - n) else A n), (if (B (W - n)).toInt ≤ (B n).toInt then B n else B (W - n))) else haF A B W n) = (if (haF A' B' W n).2.1.toInt < (if (B' (W - n)).toInt ≤ (B' n).toInt then A' (W - n) else A' n).toInt then (n, (if (B' (W - n)).toInt ≤ (B' n).toInt then A' (W - n) else A' n), (if (B' (W - n)).toInt ≤ (B' n).toInt then B' n else B' (W - n))) else haF A' B' W n)
    rw [ih (by omega), hA n (by omega), hB n (by omega), hA (W - n) (by omega), hB (W - n) (by omega)]
theorem hl_ha {A B : Nat → Int32} {W : Nat} {r : Int32} (h : ∀ x, x ≤ W → 0 ≤ (A x).toInt ∧ (A x).toInt ≤ (imax 0 (nI x - r)).toInt) : ∀ m n, m + n = W + 1 → hlF A B W r m n (haF A B W n).1 (haF A B W n).2.1 = ((haF A B W (W + 1)).1, (haF A B W (W + 1)).2.1) := by
  intro m
  induction m with
  | zero => intro n hn; rw [show n = W + 1 by omega]; rfl
  | succ m ih =>
    intro n hn
    have h2 := ih (n + 1) (by omega)
    have hl : (if (B (W - n)).toInt ≤ (B n).toInt then A (W - n) else A n) = A (leftF B W n) := by
      unfold leftF
      by_cases c : (B n).toInt < (B (W - n)).toInt
      · rw [if_neg (by omega), if_pos c]
      · rw [if_pos (by omega), if_neg c]
    have hle : leftF B W n ≤ W := by unfold leftF; split <;> omega
    have hb := h _ hle
    have hs : haF A B W (n + 1) = if (haF A B W n).2.1.toInt < (if (B (W - n)).toInt ≤ (B n).toInt then A (W - n) else A n).toInt then (n, (if (B (W - n)).toInt ≤ (B n).toInt then A (W - n) else A n), (if (B (W - n)).toInt ≤ (B n).toInt then B n else B (W - n))) else haF A B W n := rfl
    have hs2 : ∀ fi mo, hlF A B W r (m + 1) n fi mo = if mo.toInt < (imax 0 (nI (leftF B W n) - r)).toInt ∧ mo.toInt < (A (leftF B W n)).toInt then hlF A B W r m (n + 1) n (A (leftF B W n)) else hlF A B W r m (n + 1) fi mo := fun _ _ => rfl
    rw [hs2]
    rw [hs, hl] at h2
    by_cases c : (haF A B W n).2.1.toInt < (A (leftF B W n)).toInt
    · rw [if_pos c] at h2
      rw [if_pos ⟨by omega, c⟩]
      exact h2
    · rw [if_neg c] at h2
      rw [if_neg (fun z => c z.2)]
      exact h2
theorem ha_3 {A B : Nat → Int32} {W : Nat} (h : ∀ x, x ≤ W → 0 ≤ (A x).toInt) : ∀ n, n ≤ W → (haF A B W (n + 1)).1 ≤ W ∧ (haF A B W (n + 1)).2.2 = imax (B (haF A B W (n + 1)).1) (B (W - (haF A B W (n + 1)).1)) := by
  have st : ∀ n, n ≤ W → (n = 0 ∨ ((haF A B W n).1 ≤ W ∧ (haF A B W n).2.2 = imax (B (haF A B W n).1) (B (W - (haF A B W n).1)))) → (haF A B W (n + 1)).1 ≤ W ∧ (haF A B W (n + 1)).2.2 = imax (B (haF A B W (n + 1)).1) (B (W - (haF A B W (n + 1)).1)) := by
    intro n hn hi
    have hs : haF A B W (n + 1) = if (haF A B W n).2.1.toInt < (if (B (W - n)).toInt ≤ (B n).toInt then A (W - n) else A n).toInt then (n, (if (B (W - n)).toInt ≤ (B n).toInt then A (W - n) else A n), (if (B (W - n)).toInt ≤ (B n).toInt then B n else B (W - n))) else haF A B W n := rfl
    rw [hs]
    by_cases c : (haF A B W n).2.1.toInt < (if (B (W - n)).toInt ≤ (B n).toInt then A (W - n) else A n).toInt
    · rw [if_pos c]
      refine ⟨hn, ?_⟩
      show (if (B (W - n)).toInt ≤ (B n).toInt then B n else B (W - n)) = imax (B n) (B (W - n))
      apply Int32.toInt_inj.mp
      rw [imax_int]
      by_cases d : (B (W - n)).toInt ≤ (B n).toInt
      · rw [if_pos d]; omega
      · rw [if_neg d]; omega
    · rw [if_neg c]
      rcases hi with hi | hi
      · exfalso
        apply c
        rw [hi]
        have z : (haF A B W 0).2.1.toInt = -1 := rfl
        rw [z]
        have a1 := h 0 (by omega)
        have a2 := h (W - 0) (by omega)
        split <;> omega
      · exact hi
  intro n
  induction n with
  | zero => intro hn; exact st 0 hn (Or.inl rfl)
  | succ n ih => intro hn; exact st (n + 1) hn (Or.inr (ih (by omega)))
theorem c_halves {I I1 I2 : Is} {J : Js} {b : Bool} {ab : Int32} {w : Int32} {v1 v2 : Int32} (h : Rel I J b) (q1 : (¬ (inP I ab ∧ inR w 2) ∧ v1 = -1 ∧ I1 = I) ∨ ((inP I ab ∧ inR w 2) ∧ v1 = (if w = 0 then nI (hlF (fun x => gfF I b (ix (ab / 10)) (nI x)) (fun x => gfF I b (ix (ab - ab / 10 * 10)) (nI x)) (ix (I 16 0)) (I 2 (8 * ix (ab / 10) + 2)) (ix (I 16 0) + 1) 0 0 (-1)).1 else if w = 1 then (hlF (fun x => gfF I b (ix (ab / 10)) (nI x)) (fun x => gfF I b (ix (ab - ab / 10 * 10)) (nI x)) (ix (I 16 0)) (I 2 (8 * ix (ab / 10) + 2)) (ix (I 16 0) + 1) 0 0 (-1)).2 else imax (gfF I b (ix (ab - ab / 10 * 10)) (nI (hlF (fun x => gfF I b (ix (ab / 10)) (nI x)) (fun x => gfF I b (ix (ab - ab / 10 * 10)) (nI x)) (ix (I 16 0)) (I 2 (8 * ix (ab / 10) + 2)) (ix (I 16 0) + 1) 0 0 (-1)).1)) (gfF I b (ix (ab - ab / 10 * 10)) (nI (ix (I 16 0) - (hlF (fun x => gfF I b (ix (ab / 10)) (nI x)) (fun x => gfF I b (ix (ab - ab / 10 * 10)) (nI x)) (ix (I 16 0)) (I 2 (8 * ix (ab / 10) + 2)) (ix (I 16 0) + 1) 0 0 (-1)).1)))) ∧ Fr (29 :: [32, 33, 34, 35, 36, 37, 14, 15]) I I1)) (q2 : (¬ (inPM I1 ab ∧ inR w 2) ∧ v2 = -1 ∧ I2 = I1) ∨ ((inPM I1 ab ∧ inR w 2) ∧ v2 = (if w = 0 then nI (haF (fun x => alM I1 (ix (ab / 10)) (nI x)) (fun x => alM I1 (ix (ab - ab / 10 * 10)) (nI x)) (ix (I1 64 7)) (ix (I1 64 7) + 1)).1 else if w = 1 then (haF (fun x => alM I1 (ix (ab / 10)) (nI x)) (fun x => alM I1 (ix (ab - ab / 10 * 10)) (nI x)) (ix (I1 64 7)) (ix (I1 64 7) + 1)).2.1 else (haF (fun x => alM I1 (ix (ab / 10)) (nI x)) (fun x => alM I1 (ix (ab - ab / 10 * 10)) (nI x)) (ix (I1 64 7)) (ix (I1 64 7) + 1)).2.2) ∧ FrM (77 :: 78 :: RTM) FTM I1 I2)) : v2 = v1 ∧ Rel I2 J b := by
  rcases q1 with ⟨c1, hv, hI⟩ | ⟨c1, hv, hF⟩
  · rw [hI] at q2
    unfold inPM at q2
    rw [h.1.1] at q2
    rcases q2 with ⟨d, hv2, hI2⟩ | ⟨d, -⟩
    · exact ⟨hv2.trans hv.symm, by rw [hI2]; exact h⟩
    · exact absurd d c1
  · have s1 := Sm.fr hF (by decide)
    obtain ⟨en1, gl1, e6⟩ := rel_1 h s1
    unfold inPM at q2
    rw [e6] at q2
    rcases q2 with ⟨d, -⟩ | ⟨d, hv2, hF2⟩
    · exact absurd c1 d
    refine ⟨?_, h.sm (Sm.of hF hF2 (by decide) (by decide))⟩
    obtain ⟨ja, hja⟩ : ∃ ja, ix (ab / 10) = ja := ⟨_, rfl⟩
    obtain ⟨jb, hjb⟩ : ∃ jb, ix (ab - ab / 10 * 10) = jb := ⟨_, rfl⟩
    have a1 := ix_nn d.1.2.1.1
    have a2 := ix_nn d.1.2.2.1.1
    have l1 : (ja : Int) < (I 1 1).toInt := by have := d.1.2.1.2; omega
    have l2 : (jb : Int) < (I 1 1).toInt := by have := d.1.2.2.1.2; omega
    have hl0 : I1 64 7 = I 16 0 := gl1.1
    have hvl : 0 ≤ (I 16 0).toInt ∧ (I 16 0).toInt ≤ 999 := h.2.1.2.2.2.1.1
    obtain ⟨W, hW⟩ : ∃ W, ix (I 16 0) = W := ⟨_, rfl⟩
    have hW9 : W ≤ 999 := by have := ix_nn hvl.1; omega
    rw [hja, hjb, hW] at hv
    rw [hja, hjb, hl0, hW] at hv2
    have kA := fun x (hx : x ≤ W) => al_gf h s1 (x := x) l1 (by omega)
    have kB := fun x (hx : x ≤ W) => al_gf h s1 (x := x) l2 (by omega)
    have hr := (h.1.2.2.1.2.2.1 ja l1).2.2.1
    have hrng : ∀ x, x ≤ W → 0 ≤ (gfF I b ja (nI x)).toInt ∧ (gfF I b ja (nI x)).toInt ≤ (imax 0 (nI x - I 2 (8 * ja + 2))).toInt := fun x hx => by
      obtain ⟨k1, k2, k3⟩ := kA x hx
      have inx : (nI x).toInt = (x : Int) := nIint (by omega)
      have z0 : (0 : Int32).toInt = 0 := rfl
      rw [← k1, imax_int, tI_sub (by omega) (by omega), inx, z0]
      exact ⟨k2, k3⟩
    have hcg := ha_cg (A := fun x => alM I1 ja (nI x)) (B := fun x => alM I1 jb (nI x)) (A' := fun x => gfF I b ja (nI x)) (B' := fun x => gfF I b jb (nI x)) (W := W) (fun x hx => (kA x hx).1) (fun x hx => (kB x hx).1) (W + 1) (Nat.le_refl _)
    rw [hcg] at hv2
    have hh := hl_ha (A := fun x => gfF I b ja (nI x)) (B := fun x => gfF I b jb (nI x)) hrng (W + 1) 0 rfl
    have e0 : (haF (fun x => gfF I b ja (nI x)) (fun x => gfF I b jb (nI x)) W 0).1 = 0 := rfl
    have e1 : (haF (fun x => gfF I b ja (nI x)) (fun x => gfF I b jb (nI x)) W 0).2.1 = -1 := rfl
    have h3 := ha_3 (A := fun x => gfF I b ja (nI x)) (B := fun x => gfF I b jb (nI x)) (fun x hx => (hrng x hx).1) W (Nat.le_refl _)
    rw [e0, e1] at hh
    rw [hh] at hv
    rw [hv, hv2]
    by_cases w0 : w = 0
    · rw [if_pos w0, if_pos w0]
    rw [if_neg w0, if_neg w0]
    by_cases w1 : w = 1
    · rw [if_pos w1, if_pos w1]
    · rw [if_neg w1, if_neg w1]; exact h3.2
