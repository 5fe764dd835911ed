theorem br_ge {val : Nat → Int32} : ∀ n x, x < n → (val x).toInt ≤ (brM val n).2.toInt := by
  intro n
  induction n with
  | zero => intro x hx; exact absurd hx (Nat.not_lt_zero x)
  | succ n ih =>
    intro x hx
    have hb : brM val (n + 1) = if (brM val n).2.toInt < (val n).toInt then (n, val n) else brM val n := rfl
    rw [hb]
    by_cases c : (brM val n).2.toInt < (val n).toInt
    · rw [if_pos c]
      by_cases e : x = n
      · rw [e]; exact Int.le_refl _
      · have := ih x (by omega)
        show (val x).toInt ≤ (val n).toInt
        omega
    · rw [if_neg c]
      by_cases e : x = n
      · rw [e]; omega
      · exact ih x (by omega)
theorem br_stay {val : Nat → Int32} {k : Nat} : ∀ m, (∀ x, k ≤ x → x < k + m → (val x).toInt ≤ (brM val k).2.toInt) → brM val (k + m) = brM val k := by
  intro m
  induction m with
  | zero => intro _; rfl
  | succ m ih =>
    intro h
    have i := ih (fun x h1 h2 => h x h1 (by omega))
    have hb : brM val (k + (m + 1)) = if (brM val (k + m)).2.toInt < (val (k + m)).toInt then (k + m, val (k + m)) else brM val (k + m) := rfl
    rw [hb, i, if_neg (by have := h (k + m) (by omega) (by omega); omega)]
/-- with a stop where no more can be had, the class's search is the reference's -/
theorem bn_br2 {val val' : Nat → Int32} {go : Nat → Int32 → Bool} {M : Nat → Int} {N T : Nat} (hTN : T ≤ N) (hgo : ∀ k g, k < N → (go k g = true ↔ g.toInt < M k)) (hM : ∀ x, x < N → (val' x).toInt ≤ M x) (hA : ∀ x y, x ≤ y → y < N → M y ≤ M x) (hE : ∀ x, T ≤ x → x < N → (val' x).toInt ≤ (brM val' T).2.toInt) (hv : ∀ x, x < N → val x = val' x) : ∀ m k, k + m = T → bnF val go m k (nI (brM val' k).1) (brM val' k).2 = (nI (brM val' N).1, (brM val' N).2) := by
  intro m
  induction m with
  | zero =>
    intro k hk
    have hk : k = T := by omega
    subst hk
    have e := br_stay (val := val') (k := k) (N - k) (fun x h1 h2 => hE x h1 (by omega))
    rw [show k + (N - k) = N by omega] at e
    rw [e]
    rfl
  | succ m ih =>
    intro k hk
    have hb : brM val' (k + 1) = if (brM val' k).2.toInt < (val' k).toInt then (k, val' k) else brM val' k := rfl
    show (if go k (brM val' k).2 = true then (if (brM val' k).2.toInt < (val k).toInt then bnF val go m (k + 1) (nI k) (val k) else bnF val go m (k + 1) (nI (brM val' k).1) (brM val' k).2) else (nI (brM val' k).1, (brM val' k).2)) = _
    by_cases g : go k (brM val' k).2 = true
    · rw [if_pos g, hv k (by omega)]
      have h2 := ih (k + 1) (by omega)
      rw [hb] at h2
      by_cases c : (brM val' k).2.toInt < (val' k).toInt
      · rw [if_pos c] at h2 ⊢; exact h2
      · rw [if_neg c] at h2 ⊢; exact h2
    · rw [if_neg g]
      have g2 : ¬ (brM val' k).2.toInt < M k := fun z => g ((hgo k _ (by omega)).mpr z)
      have e := br_stay (val := val') (k := k) (N - k) (fun x h1 h2 => by
        have a := hM x (by omega)
        have c := hA k x h1 (by omega)
        omega)
      rw [show k + (N - k) = N by omega] at e
      rw [e]
theorem go_sw {e : EV} {pt fr hc : Nat → Bool} {v0 : GV} {k : Nat} (hk : k < e.1) (h1 : v0.2.2.2.2.1 k = 0) (h2 : v0.2.2.2.2.2.1 k = 0) : ∀ n, (goF e pt fr hc n v0).2.2.2.2.2.1 k = (goF e pt fr hc n v0).2.2.2.2.1 k * swF e.2.1 k := by
  intro n
  induction n with
  | zero =>
    show v0.2.2.2.2.2.1 k = v0.2.2.2.2.1 k * swF e.2.1 k
    rw [h1, h2, Int32.zero_mul]
  | succ n ih =>
    show (if k < e.1 then (goF e pt fr hc n v0).2.2.2.2.2.1 k + shF (goF e pt fr hc n v0).1 (smF (wVF e pt fr hc (goF e pt fr hc n v0)) e.1) (wVF e pt fr hc (goF e pt fr hc n v0) k) * swF e.2.1 k else (goF e pt fr hc n v0).2.2.2.2.2.1 k) = (if k < e.1 then (goF e pt fr hc n v0).2.2.2.2.1 k + shF (goF e pt fr hc n v0).1 (smF (wVF e pt fr hc (goF e pt fr hc n v0)) e.1) (wVF e pt fr hc (goF e pt fr hc n v0) k) else (goF e pt fr hc n v0).2.2.2.2.1 k) * swF e.2.1 k
    rw [if_pos hk, if_pos hk, ih, Int32.add_mul]
theorem ma_int {T : Nat → Int32} {lv ice : Int32} {x : Nat} {z : Int32} (hl : 0 ≤ lv.toInt ∧ lv.toInt ≤ 999) (hi : 0 ≤ ice.toInt ∧ ice.toInt ≤ 99) (hx : x ≤ 999) (hg : 0 ≤ (T 26).toInt ∧ (T 26).toInt ≤ 9) : (maF T lv ice (nI x) z).toInt = (max 0 (lv.toInt + ice.toInt - (x : Int))) * (if z = 0 then 1 else 1 + (T 26).toInt) := by
  have inx : (nI x).toInt = (x : Int) := nIint (by omega)
  have z0 : (0 : Int32).toInt = 0 := rfl
  have z1 : (1 : Int32).toInt = 1 := rfl
  have ea : (lv + ice).toInt = lv.toInt + ice.toInt := tI_add (by omega) (by omega)
  have es : (lv + ice - nI x).toInt = lv.toInt + ice.toInt - (x : Int) := by rw [tI_sub (by omega) (by omega), ea, inx]
  have e0 : (imax 0 (lv + ice - nI x)).toInt = max 0 (lv.toInt + ice.toInt - (x : Int)) := by rw [imax_int, es, z0]
  have e1 : (1 + T 26).toInt = 1 + (T 26).toInt := by rw [tI_add (by omega) (by omega), z1]
  unfold maF
  by_cases c : z = 0
  · rw [if_pos c, if_pos c, e0, Int.mul_one]
  · rw [if_neg c, if_neg c]
    obtain ⟨m, hm⟩ : ∃ m, max 0 (lv.toInt + ice.toInt - (x : Int)) = m := ⟨_, rfl⟩
    rw [hm] at e0 ⊢
    have hm1 : 0 ≤ m ∧ m ≤ 1098 := by omega
    have b1_ : m * (1 + (T 26).toInt) ≤ 1098 * 10 := Int.mul_le_mul hm1.2 (by omega) (by omega) (by omega)
    have b2_ : 0 ≤ m * (1 + (T 26).toInt) := Int.mul_nonneg hm1.1 (by omega)
    rw [tI_mul (by rw [e0, e1]; omega) (by rw [e0, e1]; omega), e0, e1]
/-- what a straw gets by a reach is bounded by what stands above it -/
theorem ga_rng {I I1 : Is} {J : Js} {b : Bool} (h : Rel I J b) (s : Sm I I1) {j : Nat} (hj : (j : Int) < (I 1 1).toInt) {x : Nat} (hx : x ≤ 999) (z : Int32) (n : Nat) : 0 ≤ (gsF z (gaM I1 (8 * j + 2) (nI x) n) j).toInt ∧ (gsF z (gaM I1 (8 * j + 2) (nI x) n) j).toInt ≤ (maF (I 2) (I 16 0) (I 16 1) (nI x) z).toInt := by
  obtain ⟨en1, gl1, e6⟩ := rel_1 h s
  have h3 := h.1.2.2.1.2.1
  have hj3 : j < 3 := by omega
  have inx : (nI x).toInt = (x : Int) := nIint (by omega)
  have hN : NW ((u2 I 2 (8 * j + 2) (nI x)) 1 1) ((u2 I 2 (8 * j + 2) (nI x)) 2) := by
    rw [u2_2, show u2 I 2 (8 * j + 2) (nI x) 1 1 = I 1 1 from congrFun (u2_row (by decide)) 1]
    exact NW_upd h.1.2.2.1 hj (Or.inr (Or.inl ⟨rfl, by omega, by omega⟩))
  have he := en_ok (b := b) hN
  have hje : j < (en (u2 I 2 (8 * j + 2) (nI x)) b).1 := by
    show j < ix ((u2 I 2 (8 * j + 2) (nI x)) 1 1)
    rw [show u2 I 2 (8 * j + 2) (nI x) 1 1 = I 1 1 from congrFun (u2_row (by decide)) 1]
    have := ix_nn h.1.2.2.1.1
    omega
  have hga : gaM I1 (8 * j + 2) (nI x) n = goF (en (u2 I 2 (8 * j + 2) (nI x)) b) (bit 7) (bit 0) (bit 0) n (bgF (gvT I1)) := by
    unfold gaM
    rw [en_up h s]
  have hv0 : VOk (bgF (gvT I1)) := bg_ok (VOk.eqv gl1 h.2.1.2.2.2.1)
  have hl := got_le he (pt := bit 7) (fr := bit 0) (hc := bit 0) hv0 hje rfl n
  have hsw := go_sw (e := en (u2 I 2 (8 * j + 2) (nI x)) b) (pt := bit 7) (fr := bit 0) (hc := bit 0) (v0 := bgF (gvT I1)) hje rfl rfl n
  have et : (en (u2 I 2 (8 * j + 2) (nI x)) b).2.1 = fun k => if k = 8 * j + 2 then nI x else I 2 k := u2_2 _ _ _
  rw [et] at hl hsw
  have hvl := h.2.1.2.2.2.1
  have el : (bgF (gvT I1)).1 = I 16 0 := gl1.1
  have ei : (bgF (gvT I1)).2.1 = I 16 1 := gl1.2.1
  have ert : (fun k => if k = 8 * j + 2 then nI x else I 2 k) (8 * j + 2) = nI x := if_pos rfl
  rw [el, ei, ert, inx] at hl
  have hl0 : 0 ≤ (I 16 0).toInt ∧ (I 16 0).toInt ≤ 999 := hvl.1
  have hi0 : 0 ≤ (I 16 1).toInt ∧ (I 16 1).toInt ≤ 99 := hvl.2
  have hg : 0 ≤ (I 2 26).toInt ∧ (I 2 26).toInt ≤ 9 := h.1.2.2.1.2.2.2.2.2.1
  rw [ma_int hl0 hi0 hx hg, hga]
  generalize goF (en (u2 I 2 (8 * j + 2) (nI x)) b) (bit 7) (bit 0) (bit 0) n (bgF (gvT I1)) = V at hl hsw
  obtain ⟨m, hm⟩ : ∃ m, max 0 ((I 16 0).toInt + (I 16 1).toInt - (x : Int)) = m := ⟨_, rfl⟩
  rw [hm] at hl ⊢
  have hm1 : 0 ≤ m ∧ m ≤ 1098 := by omega
  unfold gsF
  by_cases c : z = 0
  · rw [if_pos c, if_pos c, Int.mul_one]
    exact ⟨hl.1, hl.2.2⟩
  · rw [if_neg c, if_neg c, hsw]
    have z1 : (1 : Int32).toInt = 1 := rfl
    have hs : 1 ≤ (swF (fun k => if k = 8 * j + 2 then nI x else I 2 k) j).toInt ∧ (swF (fun k => if k = 8 * j + 2 then nI x else I 2 k) j).toInt ≤ 1 + (I 2 26).toInt := by
      unfold swF
      have e26 : (fun k => if k = 8 * j + 2 then nI x else I 2 k) 26 = I 2 26 := if_neg (by omega)
      rw [e26]
      split
      · rw [tI_add (by omega) (by omega), z1]; omega
      · rw [z1]; omega
    generalize swF (fun k => if k = 8 * j + 2 then nI x else I 2 k) j = W at hs
    have b1_ : (V.2.2.2.2.1 j).toInt * W.toInt ≤ m * (1 + (I 2 26).toInt) := Int.mul_le_mul hl.2.2 hs.2 (by omega) hm1.1
    have b2_ : m * (1 + (I 2 26).toInt) ≤ 1098 * 10 := Int.mul_le_mul hm1.2 (by omega) (by omega) (by omega)
    have b3_ : 0 ≤ (V.2.2.2.2.1 j).toInt * W.toInt := Int.mul_nonneg hl.1 (by omega)
    rw [tI_mul (by omega) (by omega)]
    exact ⟨b3_, b1_⟩
theorem c_reachFor {I I1 I2 : Is} {J : Js} {b : Bool} {k : Int32} {n : Int32} {w : Int32} {v1 v2 : Int32} (h : Rel I J b) (q1 : (¬ (inS I k ∧ inR n 60 ∧ inR w 3) ∧ v1 = -1 ∧ I1 = I) ∨ ((inS I k ∧ inR n 60 ∧ inR w 3) ∧ v1 = (if w - w / 2 * 2 = 0 then (bnF (fun x => gsF (if 2 ≤ w.toInt then 1 else 0) (drW I b (8 * ix k + 2) (nI x) (I 1 1).toInt.toNat (ix n)) (ix k)) (bnGo I 2 (if 2 ≤ w.toInt then 1 else 0)) (ix (imin 999 (I 16 0 + I 16 1)) + 1) 0 0 (-1)).1 else (bnF (fun x => gsF (if 2 ≤ w.toInt then 1 else 0) (drW I b (8 * ix k + 2) (nI x) (I 1 1).toInt.toNat (ix n)) (ix k)) (bnGo I 2 (if 2 ≤ w.toInt then 1 else 0)) (ix (imin 999 (I 16 0 + I 16 1)) + 1) 0 0 (-1)).2) ∧ Fr (28 :: [32, 33, 34, 35, 36, 37, 14, 15]) I I1)) (q2 : (¬ (inM I1 k ∧ inR n 60 ∧ inR w 3) ∧ v2 = -1 ∧ I2 = I1) ∨ ((inM I1 k ∧ inR n 60 ∧ inR w 3) ∧ v2 = (if w - w / 2 * 2 = 0 then nI (brM (fun x => gsF (if 2 ≤ w.toInt then 1 else 0) (gaM I1 (8 * ix k + 2) (nI x) (ix n)) (ix k)) 1000).1 else (brM (fun x => gsF (if 2 ≤ w.toInt then 1 else 0) (gaM I1 (8 * ix k + 2) (nI x) (ix n)) (ix k)) 1000).2) ∧ FrM RTM FTM I1 I2)) : v2 = v1 ∧ Rel I2 J b := by
  rcases q1 with ⟨c1, hv, hI⟩ | ⟨c1, hv, hF⟩
  · rw [hI] at q2
    rcases q2 with ⟨d, hv2, hI2⟩ | ⟨d, -⟩
    · exact ⟨hv2.trans hv.symm, by rw [hI2]; exact h⟩
    · exact absurd ⟨(inM_iff h.1.1 k).mp d.1, d.2⟩ c1
  · have s1 := Sm.fr hF (by decide)
    obtain ⟨en1, gl1, e6⟩ := rel_1 h s1
    rcases q2 with ⟨d, -⟩ | ⟨-, hv2, hF2⟩
    · exact absurd ⟨(inM_iff e6 k).mpr c1.1, c1.2⟩ d
    · refine ⟨?_, h.sm (Sm.of hF hF2 (by decide) (by decide))⟩
      have hk3 := s_lt h c1.1
      have hj : ((ix k : Nat) : Int) < (I 1 1).toInt := by rw [ix_nn c1.1.1]; exact c1.1.2
      obtain ⟨z, hz⟩ : ∃ z : Int32, (if 2 ≤ w.toInt then 1 else 0 : Int32) = z := ⟨_, rfl⟩
      obtain ⟨j, hjk⟩ : ∃ j, ix k = j := ⟨_, rfl⟩
      rw [hz, hjk] at hv hv2
      rw [hjk] at hk3 hj
      have hvl := h.2.1.2.2.2.1
      have hl0 : 0 ≤ (I 16 0).toInt ∧ (I 16 0).toInt ≤ 999 := hvl.1
      have hi0 : 0 ≤ (I 16 1).toInt ∧ (I 16 1).toInt ≤ 99 := hvl.2
      have hg : 0 ≤ (I 2 26).toInt ∧ (I 2 26).toInt ≤ 9 := h.1.2.2.1.2.2.2.2.2.1
      have n9 : (999 : Int32).toInt = 999 := rfl
      have ea : (I 16 0 + I 16 1).toInt = (I 16 0).toInt + (I 16 1).toInt := tI_add (by omega) (by omega)
      obtain ⟨T, hT⟩ : ∃ T, ix (imin 999 (I 16 0 + I 16 1)) = T := ⟨_, rfl⟩
      have hTi : (T : Int) = min 999 ((I 16 0).toInt + (I 16 1).toInt) := by
        rw [← hT, ix_nn (by rw [imin_int]; omega), imin_int, ea, n9]
      rw [hT] at hv
      have hr := fun x (hx : x < 1000) => ga_rng h s1 hj (x := x) (by omega) z (ix n)
      have hma := fun x (hx : x < 1000) => ma_int (T := I 2) (z := z) hl0 hi0 (x := x) (by omega) hg
      have hP : 1 ≤ (if z = 0 then 1 else 1 + (I 2 26).toInt : Int) := by split <;> omega
      have hb := bn_br2 (val := fun x => gsF z (drW I b (8 * j + 2) (nI x) (I 1 1).toInt.toNat (ix n)) j) (val' := fun x => gsF z (gaM I1 (8 * j + 2) (nI x) (ix n)) j) (go := bnGo I 2 z) (M := fun x => (maF (I 2) (I 16 0) (I 16 1) (nI x) z).toInt) (N := 1000) (T := T + 1) (by omega) (fun x g _ => by
        unfold bnGo
        rw [decide_eq_true_iff]
        exact ⟨fun q => q.resolve_left (fun q => q rfl), Or.inr⟩) (fun x hx => (hr x hx).2) (fun x y hxy hy => by
        show (maF (I 2) (I 16 0) (I 16 1) (nI y) z).toInt ≤ (maF (I 2) (I 16 0) (I 16 1) (nI x) z).toInt
        rw [hma x (by omega), hma y hy]
        exact Int.mul_le_mul_of_nonneg_right (by omega) (by omega)) (fun x hx1 hx2 => by
        have a1 := (hr x hx2).2
        rw [hma x hx2, show max 0 ((I 16 0).toInt + (I 16 1).toInt - (x : Int)) = 0 by omega, Int.zero_mul] at a1
        have a2 := (hr 0 (by omega)).1
        have a3 := br_ge (val := fun x => gsF z (gaM I1 (8 * j + 2) (nI x) (ix n)) j) (T + 1) 0 (by omega)
        have a3 : (gsF z (gaM I1 (8 * j + 2) (nI 0) (ix n)) j).toInt ≤ _ := a3
        show (gsF z (gaM I1 (8 * j + 2) (nI x) (ix n)) j).toInt ≤ _
        omega) (fun x hx => by
        have q := dr_ga h s1 hj (w := 2) (v := nI x) (Or.inr (Or.inl ⟨rfl, by rw [nIint (by omega)]; omega, by rw [nIint (by omega)]; omega⟩)) (ix n)
        show gsF z (drW I b (8 * j + 2) (nI x) (I 1 1).toInt.toNat (ix n)) j = gsF z (gaM I1 (8 * j + 2) (nI x) (ix n)) j
        unfold gsF
        rw [q.1 j hk3, q.2 j hk3]) (T + 1) 0 (by omega)
      have hb : bnF (fun x => gsF z (drW I b (8 * j + 2) (nI x) (I 1 1).toInt.toNat (ix n)) j) (bnGo I 2 z) (T + 1) 0 0 (-1) = _ := hb
      rw [hb] at hv
      rw [hv, hv2]
