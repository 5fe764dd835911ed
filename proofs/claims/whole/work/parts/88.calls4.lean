theorem smF_0 : ∀ n, smF (fun _ => (0 : Int32)) n = 0 := by
  intro n
  induction n with
  | zero => rfl
  | succ n ih => show smF (fun _ => (0 : Int32)) n + 0 = 0; rw [ih]; rfl
theorem sbF_0 (l : Int32) : ∀ n, sbF l (fun _ => (0 : Int32)) n = l := by
  intro n
  induction n with
  | zero => rfl
  | succ n ih => show sbF l (fun _ => (0 : Int32)) n - 0 = l; rw [ih, Int32.sub_zero]
/-- nobody who draws can get more -/
def FzC (e : EV) (pt : Nat → Bool) (v : GV) : Prop := v.2.1.toInt ≤ 0 ∧ ∀ k, k < e.1 → pt k = true → v.1.toInt ≤ (e.2.1 (8 * k + 2)).toInt
theorem fz_sec {e : EV} {pt fr hc : Nat → Bool} {v : GV} (he : EvOk e) (hv : VOk v) (hz : FzC e pt v) : (secF e pt fr hc v).1 = v.1 ∧ (secF e pt fr hc v).2.1 = v.2.1 ∧ (∀ k, (secF e pt fr hc v).2.2.2.2.1 k = v.2.2.2.2.1 k) ∧ ∀ k, (secF e pt fr hc v).2.2.2.2.2.1 k = v.2.2.2.2.2.1 k := by
  obtain ⟨h0, hr⟩ := hz
  have hw : ∀ k, k < e.1 → wVF e pt fr hc v k = 0 := fun k hk => by
    unfold wVF
    by_cases c : pdF e pt fr v k = true
    · rw [if_pos c]
      have hp : pt k = true := by
        unfold pdF at c
        rw [Bool.and_eq_true] at c
        exact c.1
      unfold trF
      by_cases d : hc k = true
      · rw [if_pos d]
      · rw [if_neg d]
        have h1 := hr k hk hp
        have h2 := (he.2.1 k hk).1
        have h3 := hv.1
        rw [if_pos (by rw [tI_sub (by omega) (by omega)]; omega)]
    · rw [if_neg c]
  have hall : smF (wVF e pt fr hc v) e.1 = 0 := (smF_congr (h := fun _ => 0) _ hw).trans (smF_0 _)
  have hl := hv.1
  have hs : ∀ k, k < e.1 → shF v.1 (smF (wVF e pt fr hc v) e.1) (wVF e pt fr hc v k) = 0 := fun k hk => by
    rw [hall, hw k hk]
    unfold shF
    rw [if_neg (by rw [show (0 : Int32).toInt = 0 from rfl]; omega)]
  have hsb : sbF v.1 (fun j => shF v.1 (smF (wVF e pt fr hc v) e.1) (wVF e pt fr hc v j)) e.1 = v.1 := (sbF_congr (h := fun _ => 0) _ hs).trans (sbF_0 _ _)
  have hm : ∀ l, mlF e v.2.1 l = 0 := fun l => by
    unfold mlF
    rw [if_neg (by omega)]
  refine ⟨?_, ?_, fun k => ?_, fun k => ?_⟩
  · show sbF v.1 _ e.1 + mlF e v.2.1 _ = v.1
    rw [hsb, hm, Int32.add_zero]
  · show v.2.1 - mlF e v.2.1 _ = v.2.1
    rw [hm, Int32.sub_zero]
  · show (if k < e.1 then _ + shF v.1 (smF (wVF e pt fr hc v) e.1) (wVF e pt fr hc v k) else _) = _
    by_cases c : k < e.1
    · rw [if_pos c, hs k c, Int32.add_zero]
    · rw [if_neg c]
  · show (if k < e.1 then _ + shF v.1 (smF (wVF e pt fr hc v) e.1) (wVF e pt fr hc v k) * swF e.2.1 k else _) = _
    by_cases c : k < e.1
    · rw [if_pos c, hs k c, Int32.zero_mul, Int32.add_zero]
    · rw [if_neg c]
theorem fz_go {e : EV} {pt fr hc : Nat → Bool} {v : GV} (he : EvOk e) (hv : VOk v) (hz : FzC e pt v) : ∀ n, (goF e pt fr hc n v).1 = v.1 ∧ (goF e pt fr hc n v).2.1 = v.2.1 ∧ (∀ k, (goF e pt fr hc n v).2.2.2.2.1 k = v.2.2.2.2.1 k) ∧ ∀ k, (goF e pt fr hc n v).2.2.2.2.2.1 k = v.2.2.2.2.2.1 k := by
  intro n
  induction n with
  | zero => exact ⟨rfl, rfl, fun _ => rfl, fun _ => rfl⟩
  | succ n ih =>
    obtain ⟨a, c, d, f⟩ := ih
    have hz2 : FzC e pt (goF e pt fr hc n v) := by unfold FzC; rw [a, c]; exact hz
    obtain ⟨a2, c2, d2, f2⟩ := fz_sec (fr := fr) (hc := hc) he (go_ok he hv n) hz2
    exact ⟨a2.trans a, c2.trans c, fun k => (d2 k).trans (d k), fun k => (f2 k).trans (f k)⟩
theorem go_fr {e : EV} {pt fr hc : Nat → Bool} {v : GV} : ∀ n, goF e pt fr hc (n + 1) v = goF e pt fr hc n (secF e pt fr hc v) := by
  intro n
  induction n with
  | zero => rfl
  | succ n ih => show secF e pt fr hc (goF e pt fr hc (n + 1) v) = secF e pt fr hc (goF e pt fr hc n (secF e pt fr hc v)); rw [ih]
/-- a run that stops when nobody can get more got what the whole run gets -/
theorem wh_go {tst : GV → Bool} {e : EV} {pt fr hc : Nat → Bool} (he : EvOk e) (Q : GV → Prop) (hQ : ∀ v, Q v → VOk v → Q (secF e pt fr hc v)) (ht : ∀ v, Q v → VOk v → tst v = false → FzC e pt v) : ∀ (n : Nat) (v : GV), Q v → VOk v → (∀ k, (whF tst e pt fr hc n v).2.2.2.2.1 k = (goF e pt fr hc n v).2.2.2.2.1 k) ∧ ∀ k, (whF tst e pt fr hc n v).2.2.2.2.2.1 k = (goF e pt fr hc n v).2.2.2.2.2.1 k := by
  intro n
  induction n with
  | zero => intro v _ _; exact ⟨fun _ => rfl, fun _ => rfl⟩
  | succ n ih =>
    intro v hq hv
    have hW : whF tst e pt fr hc (n + 1) v = if tst v = true then whF tst e pt fr hc n (secF e pt fr hc v) else v := rfl
    rw [hW]
    by_cases c : tst v = true
    · rw [if_pos c, go_fr]
      exact ih _ (hQ v hq hv) (sec_ok he hv)
    · rw [if_neg c]
      obtain ⟨-, -, d, f⟩ := fz_go (fr := fr) (hc := hc) he hv (ht v hq hv (Bool.eq_false_iff.mpr c)) (n + 1)
      exact ⟨fun k => (d k).symm, fun k => (f k).symm⟩
theorem lr_le (T : Nat → Int32) : ∀ s k, k < s → (lrF T s).toInt ≤ (T (8 * k + 2)).toInt := by
  intro s
  induction s with
  | zero => intro k hk; exact absurd hk (Nat.not_lt_zero k)
  | succ s ih =>
    intro k hk
    show (imin (lrF T s) (T (8 * s + 2))).toInt ≤ _
    rw [imin_int]
    by_cases c : k = s
    · rw [c]; omega
    · have := ih k (by omega); omega
theorem dr_go {e : EV} {pt fr hc : Nat → Bool} (he : EvOk e) {s : Nat} (hs : e.1 = s) (n : Nat) {v : GV} (hv : VOk v) : (∀ k, (whF (drT (lrF e.2.1 s)) e pt fr hc n v).2.2.2.2.1 k = (goF e pt fr hc n v).2.2.2.2.1 k) ∧ ∀ k, (whF (drT (lrF e.2.1 s)) e pt fr hc n v).2.2.2.2.2.1 k = (goF e pt fr hc n v).2.2.2.2.2.1 k := by
  refine wh_go he (fun _ => True) (fun _ _ _ => trivial) (fun w _ _ ht => ?_) n v trivial hv
  have h := of_decide_eq_false ht
  refine ⟨by omega, fun k hk _ => ?_⟩
  have := lr_le e.2.1 s k (by omega)
  omega
/-- a drink in thought with one number told otherwise: the class's and the reference's -/
theorem dr_ga {I I1 : Is} {J : Js} {b : Bool} (h : Rel I J b) (s : Sm I I1) {j w : Nat} {v : Int32} (hj : (j : Int) < (I 1 1).toInt) (hw : rgW w v) (n : Nat) : (∀ k, k < 3 → (drW I b (8 * j + w) v (I 1 1).toInt.toNat n).2.2.2.2.1 k = (gaM I1 (8 * j + w) v n).2.2.2.2.1 k) ∧ ∀ k, k < 3 → (drW I b (8 * j + w) v (I 1 1).toInt.toNat n).2.2.2.2.2.1 k = (gaM I1 (8 * j + w) v n).2.2.2.2.2.1 k := by
  obtain ⟨en1, gl1, e6⟩ := rel_1 h s
  have hN : NW ((u2 I 2 (8 * j + w) v) 1 1) ((u2 I 2 (8 * j + w) v) 2) := by
    rw [u2_2, show u2 I 2 (8 * j + w) v 1 1 = I 1 1 from congrFun (u2_row (by decide)) 1]
    exact NW_upd h.1.2.2.1 hj hw
  have he := en_ok (b := b) hN
  have hs : (en (u2 I 2 (8 * j + w) v) b).1 = (I 1 1).toInt.toNat := rfl
  obtain ⟨a, c⟩ := dr_go (pt := bit 7) (fr := bit 0) (hc := bit 0) he hs n (v := bgF (gv I 16)) h.2.1.2.2.2.1
  have hg := go_eqv (pt := bit 7) (fr := bit 0) (hc := bit 0) he.1 (bg_eqv gl1) n
  have hga : gaM I1 (8 * j + w) v n = goF (en (u2 I 2 (8 * j + w) v) b) (bit 7) (bit 0) (bit 0) n (bgF (gvT I1)) := by
    unfold gaM
    rw [en_up h s]
  rw [hga]
  exact ⟨fun k hk => (a k).trans (hg.2.2.2.2.1 k hk).symm, fun k hk => (c k).trans (hg.2.2.2.2.2.1 k hk).symm⟩
/-- without a stop the class's search is the reference's -/
theorem bn_br {val val' : Nat → Int32} {go : Nat → Int32 → Bool} (hgo : ∀ k g, go k g = true) : ∀ (m k : Nat), (∀ x, x < k + m → val x = val' x) → bnF val go m k (nI (brM val' k).1) (brM val' k).2 = (nI (brM val' (k + m)).1, (brM val' (k + m)).2) := by
  intro m
  induction m with
  | zero => intro k _; rfl
  | succ m ih =>
    intro k h
    have hb : brM val' (k + 1) = if (brM val' k).2.toInt < (val' k).toInt then (k, val' k) else brM val' k := rfl
    show (if go k (brM val' k).2 = true then (if (brM val' k).2.toInt < (val k).toInt then bnF val go m (k + 1) (nI k) (val k) else bnF val go m (k + 1) (nI (brM val' k).1) (brM val' k).2) else _) = _
    rw [if_pos (hgo _ _), h k (by omega)]
    have h2 := ih (k + 1) (fun x hx => h x (by omega))
    rw [hb, show k + 1 + m = k + (m + 1) by omega] at h2
    by_cases c : (brM val' k).2.toInt < (val' k).toInt
    · rw [if_pos c] at h2 ⊢; exact h2
    · rw [if_neg c] at h2 ⊢; exact h2
theorem c_slow {I I1 I2 : Is} {J : Js} {b : Bool} {k : Int32} {n : Int32} {v1 v2 : Int32} (h : Rel I J b) (q1 : (¬ (inS I k ∧ inR n 60) ∧ v1 = -1 ∧ I1 = I) ∨ ((inS I k ∧ inR n 60) ∧ v1 = (bnF (fun x => gsF 0 (drW I b (8 * ix k + 0) (nI x) (I 1 1).toInt.toNat (ix n)) (ix k)) (bnGo I 0 0) (ix (I 2 (8 * ix k + 0)) + 1) 0 0 (-1)).1 ∧ I1 28 0 = (bnF (fun x => gsF 0 (drW I b (8 * ix k + 0) (nI x) (I 1 1).toInt.toNat (ix n)) (ix k)) (bnGo I 0 0) (ix (I 2 (8 * ix k + 0)) + 1) 0 0 (-1)).2 ∧ Fr (28 :: [32, 33, 34, 35, 36, 37, 14, 15]) I I1)) (q2 : (¬ (inM I1 k ∧ inR n 60) ∧ v2 = -1 ∧ I2 = I1) ∨ ((inM I1 k ∧ inR n 60) ∧ v2 = nI (brM (fun x => gsF 0 (gaM I1 (8 * ix k + 0) (nI x) (ix n)) (ix k)) (ix (I1 65 (8 * ix k + 0)) + 1)).1 ∧ FrM RTM FTM I1 I2)) : v2 = v1 ∧ Rel I2 J b := by
  rcases q1 with ⟨c1, hv, hI⟩ | ⟨c1, hv, -, hF⟩
  · rw [hI] at q2
    rcases q2 with ⟨d, hv2, hI2⟩ | ⟨d, -⟩
    · exact ⟨hv2.trans hv.symm, by rw [hI2]; exact h⟩
    · exact absurd ⟨(inM_iff h.1.1 k).mp d.1, d.2⟩ c1
  · have s1 := Sm.fr hF (by decide)
    obtain ⟨en1, gl1, e6⟩ := rel_1 h s1
    rcases q2 with ⟨d, -⟩ | ⟨-, hv2, hF2⟩
    · exact absurd ⟨(inM_iff e6 k).mpr c1.1, c1.2⟩ d
    · refine ⟨?_, h.sm (Sm.of hF hF2 (by decide) (by decide))⟩
      have hk3 := s_lt h c1.1
      have e65 : I1 65 = I 2 := (s1.2.1 65 (by decide) (by decide)).trans h.1.2.1
      have hj : ((ix k : Nat) : Int) < (I 1 1).toInt := by rw [ix_nn c1.1.1]; exact c1.1.2
      have hr := (h.1.2.2.1.2.2.1 (ix k) hj).1
      rw [hv2, hv, e65]
      have hb := bn_br (val := fun x => gsF 0 (drW I b (8 * ix k + 0) (nI x) (I 1 1).toInt.toNat (ix n)) (ix k)) (val' := fun x => gsF 0 (gaM I1 (8 * ix k + 0) (nI x) (ix n)) (ix k)) (go := bnGo I 0 0) (fun _ _ => decide_eq_true (Or.inl (by decide))) (ix (I 2 (8 * ix k + 0)) + 1) 0 (fun x hx => by
        have hxr := ix_nn hr.1
        exact (dr_ga h s1 hj (Or.inl ⟨rfl, by rw [nIint (by omega)]; omega, by rw [nIint (by omega)]; omega⟩) (ix n)).1 (ix k) hk3)
      rw [Nat.zero_add] at hb
      exact (congrArg Prod.fst hb).symm
