theorem tI_div {x y : Int32} (h : 0 ≤ x.toInt) (hy : 0 < y.toInt) : (x / y).toInt = x.toInt / y.toInt := by
  rw [Int32.toInt_div_of_ne_left x y (fun e => by rw [e] at h; exact absurd h (by decide)), Int.tdiv_eq_ediv_of_nonneg h]
theorem held_rng (x : Int32) : 0 ≤ (imax 0 (imin 99 x)).toInt ∧ (imax 0 (imin 99 x)).toInt ≤ 99 := by
  rw [imax_int, imin_int]
  have e0 : (0 : Int32).toInt = 0 := rfl
  have e9 : (99 : Int32).toInt = 99 := rfl
  omega
theorem prF_rng (nm code ends asks : Nat → Int32) : ∀ (n k p : Nat) (c : Bool), 0 ≤ (prF nm code ends asks n k p c).toInt ∧ (prF nm code ends asks n k p c).toInt ≤ 99 := by
  intro n
  induction n with
  | zero => intro k p c; exact ⟨(by show (0 : Int) ≤ (0 : Int32).toInt; decide), (by show (0 : Int32).toInt ≤ 99; decide)⟩
  | succ n ih =>
    intro k p c
    show 0 ≤ (if ¬ asks k = 0 then _ else if c = true then _ else _ : Int32).toInt ∧ (if ¬ asks k = 0 then _ else if c = true then _ else _ : Int32).toInt ≤ 99
    by_cases h : ¬ asks k = 0
    · rw [if_pos h]; exact ih _ _ _
    · rw [if_neg h]
      by_cases hc : c = true
      · rw [if_pos hc]; exact held_rng _
      · rw [if_neg hc]; exact ih _ _ _
theorem wantF_rng (I : Is) (b : Bool) (j : Nat) (l t : Int32) : 0 ≤ (wantF I b j l t).toInt ∧ (wantF I b j l t).toInt ≤ 99 := by
  unfold wantF
  by_cases h : I (tbL b) 4 = 0
  · rw [if_pos h]; exact held_rng _
  · rw [if_neg h]; exact prF_rng _ _ _ _ _ _ _ _
/-- what a glass goes by is in its ranges -/
def EvOk (e : EV) : Prop := e.1 ≤ 3 ∧ (∀ k, k < e.1 → (0 ≤ (e.2.1 (8 * k + 2)).toInt ∧ (e.2.1 (8 * k + 2)).toInt ≤ 999) ∧ (1 ≤ (e.2.1 (8 * k + 4)).toInt ∧ (e.2.1 (8 * k + 4)).toInt ≤ 60) ∧ (0 ≤ (e.2.1 (8 * k + 5)).toInt ∧ (e.2.1 (8 * k + 5)).toInt ≤ 60)) ∧ (0 ≤ (e.2.1 24).toInt ∧ (e.2.1 24).toInt ≤ 9) ∧ (0 ≤ (e.2.1 26).toInt ∧ (e.2.1 26).toInt ≤ 9) ∧ ∀ j l t, 0 ≤ (e.2.2 j l t).toInt ∧ (e.2.2 j l t).toInt ≤ 99
theorem en_ok {I : Is} {b : Bool} (h : NW (I 1 1) (I 2)) : EvOk (en I b) := by
  obtain ⟨h0, h3, hs, hm, -, hg, -⟩ := h
  have e : ((ix (I 1 1) : Nat) : Int) = (I 1 1).toInt := ix_nn h0
  refine ⟨by show ix (I 1 1) ≤ 3; omega, fun k hk => ?_, hm, hg, wantF_rng I b⟩
  have hk : k < ix (I 1 1) := hk
  have := hs k (by omega)
  exact ⟨this.2.2.1, this.2.2.2.2.1, this.2.2.2.2.2.1⟩
/-- level and ice are in their ranges -/
def VOk (v : GV) : Prop := (0 ≤ v.1.toInt ∧ v.1.toInt ≤ 999) ∧ (0 ≤ v.2.1.toInt ∧ v.2.1.toInt ≤ 99)
theorem hv_rng {lv hole w : Int32} (h : 0 ≤ w.toInt ∧ w.toInt ≤ 99) : 0 ≤ (hvF lv hole w).toInt ∧ (hvF lv hole w).toInt ≤ 99 := by
  unfold hvF
  by_cases hh : lv.toInt < hole.toInt
  · rw [if_pos hh, tI_div h.1 (by decide)]
    have e2 : (2 : Int32).toInt = 2 := rfl
    rw [e2]
    omega
  · rw [if_neg hh]; exact h
theorem trF_rng {e : EV} (he : EvOk e) {hc : Bool} {lv tr : Int32} {j : Nat} (hj : j < e.1) (hl : 0 ≤ lv.toInt ∧ lv.toInt ≤ 999) : (0 ≤ (trF e hc lv tr j).toInt ∧ (trF e hc lv tr j).toInt ≤ 99) ∧ (trF e hc lv tr j).toInt ≤ max 0 (lv.toInt - (e.2.1 (8 * j + 2)).toInt) := by
  have e0 : (0 : Int32).toInt = 0 := rfl
  have hr := (he.2.1 j hj).1
  unfold trF
  by_cases h1 : hc = true
  · rw [if_pos h1]; omega
  · rw [if_neg h1]
    by_cases h2 : (lv - e.2.1 (8 * j + 2)).toInt ≤ 0
    · rw [if_pos h2]; omega
    · rw [if_neg h2, imin_int]
      have es : (lv - e.2.1 (8 * j + 2)).toInt = lv.toInt - (e.2.1 (8 * j + 2)).toInt := tI_sub (by omega) (by omega)
      have hv := hv_rng (lv := lv) (hole := e.2.1 (8 * j + 6)) (he.2.2.2.2 j lv tr)
      omega
theorem wVF_rng {e : EV} (he : EvOk e) {pt fr hc : Nat → Bool} {v : GV} {j : Nat} (hj : j < e.1) (hv : VOk v) : (0 ≤ (wVF e pt fr hc v j).toInt ∧ (wVF e pt fr hc v j).toInt ≤ 99) ∧ (wVF e pt fr hc v j).toInt ≤ max 0 (v.1.toInt - (e.2.1 (8 * j + 2)).toInt) := by
  unfold wVF
  by_cases h : pdF e pt fr v j = true
  · rw [if_pos h]; exact trF_rng he hj hv.1
  · rw [if_neg h]
    have e0 : (0 : Int32).toInt = 0 := rfl
    omega
/-- shares: none below 0, none above the want, all together no more than the level -/
theorem sh_rng {lv all w : Int32} (hl : 0 ≤ lv.toInt ∧ lv.toInt ≤ 999) (hw : 0 ≤ w.toInt ∧ w.toInt ≤ 99) (ha : w.toInt ≤ all.toInt) : 0 ≤ (shF lv all w).toInt ∧ (shF lv all w).toInt ≤ w.toInt ∧ (lv.toInt < all.toInt → all.toInt * (shF lv all w).toInt ≤ w.toInt * lv.toInt) := by
  unfold shF
  by_cases h : lv.toInt < all.toInt
  · rw [if_pos h]
    have hm0 : 0 ≤ w.toInt * lv.toInt := Int.mul_nonneg hw.1 hl.1
    have hm9 : w.toInt * lv.toInt ≤ 99 * 999 := Int.mul_le_mul hw.2 hl.2 hl.1 (by omega)
    have em : (w * lv).toInt = w.toInt * lv.toInt := tI_mul (by omega) (by omega)
    have hap : 0 < all.toInt := by omega
    rw [tI_div (by rw [em]; exact hm0) hap, em]
    refine ⟨Int.ediv_nonneg hm0 (by omega), ?_, fun _ => Int.mul_ediv_self_le (by omega)⟩
    have h1 : w.toInt * lv.toInt ≤ w.toInt * all.toInt := Int.mul_le_mul_of_nonneg_left (by omega) hw.1
    have h2 := Int.ediv_le_ediv hap h1
    rw [Int.mul_ediv_cancel _ (by omega)] at h2
    exact h2
  · rw [if_neg h]
    exact ⟨hw.1, Int.le_refl _, fun z => absurd z h⟩
theorem sb_int {l : Int32} {f : Nat → Int32} (hl : 0 ≤ l.toInt ∧ l.toInt ≤ 999) : ∀ n, n ≤ 3 → (∀ k, k < n → 0 ≤ (f k).toInt ∧ (f k).toInt ≤ 99) → (sbF l f n).toInt = l.toInt - (smF f n).toInt ∧ 0 ≤ (smF f n).toInt ∧ (smF f n).toInt ≤ 99 * n := by
  intro n
  induction n with
  | zero =>
    intro _ _
    have e0 : (smF f 0).toInt = 0 := rfl
    have e1 : sbF l f 0 = l := rfl
    rw [e1, e0]
    omega
  | succ n ih =>
    intro hn hf
    obtain ⟨a, b, c⟩ := ih (by omega) (fun k hk => hf k (by omega))
    have hfn := hf n (by omega)
    have e1 : sbF l f (n + 1) = sbF l f n - f n := rfl
    have e2 : smF f (n + 1) = smF f n + f n := rfl
    have e3 : (smF f n + f n).toInt = (smF f n).toInt + (f n).toInt := tI_add (by omega) (by omega)
    rw [e1, e2, e3, tI_sub (by omega) (by omega)]
    omega
theorem shares_le {lv all : Int32} {w : Nat → Int32} {n : Nat} (hn : n ≤ 3) (hl : 0 ≤ lv.toInt ∧ lv.toInt ≤ 999) (hw : ∀ k, k < n → 0 ≤ (w k).toInt ∧ (w k).toInt ≤ 99) (ha : all = smF w n) : (smF (fun k => shF lv all (w k)) n).toInt ≤ lv.toInt := by
  have hsm := smF_nn (f := w) hn (fun k hk => by have := hw k hk; omega)
  have hal : ∀ k, k < n → (w k).toInt ≤ all.toInt := fun k hk => by rw [ha]; exact (hsm n (Nat.le_refl _)).2.2 k hk
  have hsh : ∀ k, k < n → 0 ≤ (shF lv all (w k)).toInt ∧ (shF lv all (w k)).toInt ≤ 99 := fun k hk => by
    have := sh_rng hl (hw k hk) (hal k hk)
    have := hw k hk
    omega
  by_cases h : lv.toInt < all.toInt
  · have key : ∀ m, m ≤ n → all.toInt * (smF (fun k => shF lv all (w k)) m).toInt ≤ (smF w m).toInt * lv.toInt := by
      intro m
      induction m with
      | zero => intro _; show all.toInt * (0 : Int32).toInt ≤ (0 : Int32).toInt * lv.toInt; rw [show (0 : Int32).toInt = 0 from rfl]; omega
      | succ m ih =>
        intro hm
        have h1 := (sb_int (l := lv) (f := fun k => shF lv all (w k)) hl m (by omega) (fun k hk => hsh k (by omega))).2
        have h2 := hsm m (by omega)
        have e1 : (smF (fun k => shF lv all (w k)) (m + 1)).toInt = (smF (fun k => shF lv all (w k)) m).toInt + (shF lv all (w m)).toInt := tI_add (x := smF (fun k => shF lv all (w k)) m) (y := shF lv all (w m)) (by have := hsh m (by omega); omega) (by have := hsh m (by omega); omega)
        have e2 : (smF w (m + 1)).toInt = (smF w m).toInt + (w m).toInt := tI_add (by have := hw m (by omega); omega) (by have := hw m (by omega); omega)
        rw [e1, e2, Int.mul_add, Int.add_mul]
        have h3 := (sh_rng hl (hw m (by omega)) (hal m (by omega))).2.2 h
        have h4 := ih (by omega)
        omega
    have h5 := key n (Nat.le_refl _)
    rw [← ha] at h5
    exact Int.le_of_mul_le_mul_left h5 (by omega)
  · have e : smF (fun k => shF lv all (w k)) n = smF w n := smF_congr n (fun k hk => by unfold shF; rw [if_neg h])
    rw [e, ← ha]
    omega
theorem ml_rng {e : EV} (he : EvOk e) {ice l1 : Int32} (hi : 0 ≤ ice.toInt ∧ ice.toInt ≤ 99) (hl : 0 ≤ l1.toInt ∧ l1.toInt ≤ 999) : 0 ≤ (mlF e ice l1).toInt ∧ (mlF e ice l1).toInt ≤ ice.toInt ∧ (mlF e ice l1).toInt ≤ 999 - l1.toInt := by
  unfold mlF
  have e0 : (0 : Int32).toInt = 0 := rfl
  have e9 : (999 : Int32).toInt = 999 := rfl
  by_cases h : 0 < ice.toInt
  · rw [if_pos h, imin_int, imin_int]
    have hm := he.2.2.1
    have es : (999 - l1).toInt = 999 - l1.toInt := by rw [tI_sub (by omega) (by omega), e9]
    omega
  · rw [if_neg h]
    omega
/-- the level behind the draws -/
def l1F (e : EV) (pt fr hc : Nat → Bool) (v : GV) : Int32 := sbF v.1 (fun j => shF v.1 (smF (wVF e pt fr hc v) e.1) (wVF e pt fr hc v j)) e.1
/-- what straw k gets in a second -/
def gtF (e : EV) (pt fr hc : Nat → Bool) (v : GV) (k : Nat) : Int32 := shF v.1 (smF (wVF e pt fr hc v) e.1) (wVF e pt fr hc v k)
theorem gt_rng {e : EV} (he : EvOk e) {pt fr hc : Nat → Bool} {v : GV} (hv : VOk v) {k : Nat} (hk : k < e.1) : 0 ≤ (gtF e pt fr hc v k).toInt ∧ (gtF e pt fr hc v k).toInt ≤ (wVF e pt fr hc v k).toInt := by
  have hw := (wVF_rng he (pt := pt) (fr := fr) (hc := hc) hk hv).1
  have hsm := smF_nn (f := wVF e pt fr hc v) he.1 (fun k hk => by have := (wVF_rng he (pt := pt) (fr := fr) (hc := hc) hk hv).1; omega)
  have := sh_rng hv.1 hw ((hsm e.1 (Nat.le_refl _)).2.2 k hk)
  exact ⟨this.1, this.2.1⟩
theorem l1_int {e : EV} (he : EvOk e) {pt fr hc : Nat → Bool} {v : GV} (hv : VOk v) : (l1F e pt fr hc v).toInt = v.1.toInt - (smF (gtF e pt fr hc v) e.1).toInt ∧ 0 ≤ (smF (gtF e pt fr hc v) e.1).toInt ∧ (smF (gtF e pt fr hc v) e.1).toInt ≤ v.1.toInt := by
  have hg : ∀ k, k < e.1 → 0 ≤ (gtF e pt fr hc v k).toInt ∧ (gtF e pt fr hc v k).toInt ≤ 99 := fun k hk => by
    have := gt_rng he (pt := pt) (fr := fr) (hc := hc) hv hk
    have := (wVF_rng he (pt := pt) (fr := fr) (hc := hc) hk hv).1
    omega
  have h1 := sb_int (l := v.1) (f := gtF e pt fr hc v) hv.1 e.1 he.1 hg
  have h2 := shares_le (lv := v.1) (w := wVF e pt fr hc v) he.1 hv.1 (fun k hk => (wVF_rng he (pt := pt) (fr := fr) (hc := hc) hk hv).1) rfl
  exact ⟨h1.1, h1.2.1, h2⟩
/-- level and ice of a second, in integers -/
theorem sec_int {e : EV} (he : EvOk e) {pt fr hc : Nat → Bool} {v : GV} (hv : VOk v) : ∃ m : Int, 0 ≤ m ∧ m ≤ v.2.1.toInt ∧ (secF e pt fr hc v).1.toInt = v.1.toInt - (smF (gtF e pt fr hc v) e.1).toInt + m ∧ (secF e pt fr hc v).2.1.toInt = v.2.1.toInt - m ∧ (secF e pt fr hc v).1.toInt ≤ 999 := by
  obtain ⟨a, b, c⟩ := l1_int he (pt := pt) (fr := fr) (hc := hc) hv
  have hm := ml_rng he (ice := v.2.1) (l1 := l1F e pt fr hc v) hv.2 (by have := hv.1; omega)
  have h1 : (secF e pt fr hc v).1 = l1F e pt fr hc v + mlF e v.2.1 (l1F e pt fr hc v) := rfl
  have h2 : (secF e pt fr hc v).2.1 = v.2.1 - mlF e v.2.1 (l1F e pt fr hc v) := rfl
  have hv1 := hv.1
  have hv2 := hv.2
  refine ⟨(mlF e v.2.1 (l1F e pt fr hc v)).toInt, hm.1, hm.2.1, ?_, ?_, ?_⟩
  · rw [h1, tI_add (by omega) (by omega), a]
  · rw [h2, tI_sub (by omega) (by omega)]
  · rw [h1, tI_add (by omega) (by omega)]; omega
theorem sec_ok {e : EV} (he : EvOk e) {pt fr hc : Nat → Bool} {v : GV} (hv : VOk v) : VOk (secF e pt fr hc v) := by
  obtain ⟨m, h0, h1, h2, h3, h4⟩ := sec_int he (pt := pt) (fr := fr) (hc := hc) hv
  have := l1_int he (pt := pt) (fr := fr) (hc := hc) hv
  have hv1 := hv.1
  have hv2 := hv.2
  exact ⟨⟨by omega, h4⟩, by omega, by omega⟩
/-- n seconds -/
def goF (e : EV) (pt fr hc : Nat → Bool) : Nat → GV → GV
  | 0, v => v
  | n + 1, v => secF e pt fr hc (goF e pt fr hc n v)
theorem go_ok {e : EV} (he : EvOk e) {pt fr hc : Nat → Bool} {v : GV} (hv : VOk v) : ∀ n, VOk (goF e pt fr hc n v) := by
  intro n
  induction n with
  | zero => exact hv
  | succ n ih => exact sec_ok he ih
theorem go_eqv {e : EV} (he : e.1 ≤ 3) {pt fr hc : Nat → Bool} {v w : GV} (h : EqV v w) : ∀ n, EqV (goF e pt fr hc n v) (goF e pt fr hc n w) := by
  intro n
  induction n with
  | zero => exact h
  | succ n ih => exact secF_eqv he ih
theorem VOk.eqv {v w : GV} (h : EqV v w) (hw : VOk w) : VOk v := by
  unfold VOk
  rw [h.1, h.2.1]
  exact hw
