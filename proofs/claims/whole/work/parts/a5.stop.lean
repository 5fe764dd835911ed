theorem go_pt {e : EV} {pt fr fr' hc : Nat → Bool} {v : GV} (h : ∀ k, k < e.1 → pt k = true → fr k = fr' k) : ∀ n, goF e pt fr hc n v = goF e pt fr' hc n v := by
  intro n
  induction n with
  | zero => rfl
  | succ n ih =>
    show secF e pt fr hc (goF e pt fr hc n v) = secF e pt fr' hc (goF e pt fr' hc n v)
    rw [ih]
    exact secF_pt _ (fun k hk => ⟨rfl, h k hk, rfl⟩)
/-- the last place behind which P grew -/
def lstF (P : Nat → Int) : Nat → Nat
  | 0 => 0
  | n + 1 => if P n < P (n + 1) then n + 1 else lstF P n
theorem lst_p {P : Nat → Int} (hm : ∀ n, P n ≤ P (n + 1)) : ∀ n, lstF P n ≤ n ∧ P (lstF P n) = P n ∧ (∀ c, c < lstF P n → P c < P n) ∧ ∀ c, c ≤ n → P c ≤ P n := by
  intro n
  induction n with
  | zero => exact ⟨Nat.le_refl _, rfl, fun c hc => absurd hc (Nat.not_lt_zero c), fun c hc => by rw [Nat.le_zero.mp hc]; exact Int.le_refl _⟩
  | succ n ih =>
    obtain ⟨a, e, l, m⟩ := ih
    have h1 := hm n
    have hs : lstF P (n + 1) = if P n < P (n + 1) then n + 1 else lstF P n := rfl
    rw [hs]
    have hmo : ∀ c, c ≤ n + 1 → P c ≤ P (n + 1) := fun c hc => by
      by_cases z : c = n + 1
      · rw [z]; exact Int.le_refl _
      · have := m c (by omega); omega
    by_cases c : P n < P (n + 1)
    · rw [if_pos c]
      exact ⟨Nat.le_refl _, rfl, fun x hx => by have := m x (by omega); omega, hmo⟩
    · rw [if_neg c]
      have e2 : P (n + 1) = P n := by omega
      rw [e2]
      exact ⟨by omega, e, l, fun x hx => by have := hmo x hx; omega⟩
def sOfF (F : Nat → GV) (n : Nat) : Int32 := if n = 0 then 0 else (F n).2.2.1
theorem lg_lst {e : EV} {pt fr hc : Nat → Bool} {j : Nat} {F : Nat → GV} (hF : ∀ i, F (i + 1) = secF e pt fr hc (F i)) : ∀ m i, lgF e pt fr hc j m (F i) (sOfF F (lstF (fun i => ((F i).2.2.2.2.1 j).toInt) i)) = sOfF F (lstF (fun i => ((F i).2.2.2.2.1 j).toInt) (i + m)) := by
  intro m
  induction m with
  | zero => intro i; rfl
  | succ m ih =>
    intro i
    have h := ih (i + 1)
    rw [show i + 1 + m = i + (m + 1) by omega] at h
    rw [← h]
    have hs : lstF (fun i => ((F i).2.2.2.2.1 j).toInt) (i + 1) = if ((F i).2.2.2.2.1 j).toInt < ((F (i + 1)).2.2.2.2.1 j).toInt then i + 1 else lstF (fun i => ((F i).2.2.2.2.1 j).toInt) i := rfl
    have hl : ∀ last, lgF e pt fr hc j (m + 1) (F i) last = lgF e pt fr hc j m (secF e pt fr hc (F i)) (if ((F i).2.2.2.2.1 j).toInt < ((secF e pt fr hc (F i)).2.2.2.2.1 j).toInt then (secF e pt fr hc (F i)).2.2.1 else last) := fun _ => rfl
    rw [hl, ← hF, hs]
    by_cases c : ((F i).2.2.2.2.1 j).toInt < ((F (i + 1)).2.2.2.2.1 j).toInt
    · rw [if_pos c, if_pos c]
      rfl
    · rw [if_neg c, if_neg c]
theorem stM_step (gS : Int32 → Int32) (al ps : Int32) (n : Nat) (s : Int32) : stM' gS al ps (n + 1) s = if (gS s).toInt < al.toInt then stM' gS al ps n (if s.toInt < ps.toInt then ps else s + 1) else s := rfl
theorem st_run {gS : Int32 → Int32} {al ps : Int32} {P : Nat → Int} {L : Nat} (hp : 0 ≤ ps.toInt ∧ ps.toInt ≤ 999) (hL : L ≤ 99) (hg : ∀ (s : Int32) (c : Nat), c ≤ 99 → s.toInt = ps.toInt + c → (gS s).toInt = P c) (hal : al.toInt = P L) (hlt : ∀ c, c < L → P c < P L) : ∀ (d c m : Nat) (s : Int32), c + d = L → s.toInt = ps.toInt + c → d ≤ m → (stM' gS al ps m s).toInt = ps.toInt + L := by
  intro d
  induction d with
  | zero =>
    intro c m s hc hs _
    have hc : c = L := by omega
    subst hc
    rw [stM_stop (by rw [hg s c hL hs, hal]; exact Int.lt_irrefl _) m]
    exact hs
  | succ d ih =>
    intro c m s hc hs hm
    obtain ⟨m', rfl⟩ : ∃ m', m = m' + 1 := ⟨m - 1, by omega⟩
    have h1 := hlt c (by omega)
    rw [stM_step, if_pos (by rw [hg s c (by omega) hs, hal]; exact h1), if_neg (by omega)]
    refine ih (c + 1) m' (s + 1) (by omega) ?_ (by omega)
    rw [tI_add (by rw [one_int]; omega) (by rw [one_int]; omega), one_int, hs]
    omega
theorem st_zero {gS : Int32 → Int32} {al ps : Int32} {P : Nat → Int} {L : Nat} (hp : 0 ≤ ps.toInt ∧ ps.toInt ≤ 999) (hL : L ≤ 99) (hg : ∀ (s : Int32) (c : Nat), c ≤ 99 → s.toInt = ps.toInt + c → (gS s).toInt = P c) (hg0 : (gS 0).toInt = P 0) (hal : al.toInt = P L) (hlt : ∀ c, c < L → P c < P L) (m : Nat) (hm : L + 2 ≤ m) : (stM' gS al ps m 0).toInt = if L = 0 then 0 else ps.toInt + L := by
  have z0 : (0 : Int32).toInt = 0 := rfl
  by_cases c : L = 0
  · rw [if_pos c, stM_stop (by rw [hg0, hal, c]; exact Int.lt_irrefl _) m]
    rfl
  · rw [if_neg c]
    obtain ⟨m', rfl⟩ : ∃ m', m = m' + 1 := ⟨m - 1, by omega⟩
    have h1 := hlt 0 (by omega)
    rw [stM_step, if_pos (by rw [hg0, hal]; exact h1)]
    by_cases e : (0 : Int32).toInt < ps.toInt
    · rw [if_pos e]
      exact st_run hp hL hg hal hlt L 0 m' ps (by omega) (by omega) (by omega)
    · rw [if_neg e]
      refine st_run hp hL hg hal hlt (L - 1) 1 m' (0 + 1) (by omega) ?_ (by omega)
      have : (0 + 1 : Int32).toInt = 1 := rfl
      omega
theorem b1_self : ∀ i : Nat, i < 3 → b1 i i = true := by decide
/-- stopping at x: what is got till then -/
theorem gt_P {I1 : Is} {E : EV} (hE : enM I1 = E) (hE3 : E.1 ≤ 3) {j : Nat} (hj : j < 3) {v0 : GV} (hq : EqV (bgF (gvT I1)) v0) {ps : Int} (hps : v0.2.2.1.toInt = ps) (hp : 0 ≤ ps ∧ ps ≤ 999) (h0 : v0.2.2.2.2.1 j = 0) (x : Int32) (c : Nat) (hc : c ≤ 99) (hx : x.toInt = ps + c ∨ (x.toInt ≤ ps ∧ c = 0) ∨ (ps + 99 ≤ x.toInt ∧ c = 99)) : gtM I1 j x = (goF E (bit 7) (b1 j) (bit 0) c v0).2.2.2.2.1 j := by
  subst hps
  have hf1 : ∀ n, goF E (bit 7) (b1 j) (bit 0) n v0 = goF E (bit 7) (fun k => decide (k = j)) (bit 0) n v0 := fun n => go_pt (fun k hk _ => by
    by_cases e : k = j
    · rw [e, b1_self j hj]; exact (decide_eq_true rfl).symm
    · rw [b1_no j hj k (by omega) (fun z => e z.symm)]; exact (decide_eq_false e).symm) n
  have e1 : (enM (u2 I1 65 (8 * j + 7) x)).1 = E.1 := by rw [← hE]; rfl
  have hf2 : ∀ n, goF (enM (u2 I1 65 (8 * j + 7) x)) (bit 7) (bit 0) (bit 0) n v0 = goF (enM (u2 I1 65 (8 * j + 7) x)) (bit 7) (fun _ => false) (bit 0) n v0 := fun n => go_pt (fun k hk _ => by
    rw [← no_fr (show k < 3 by omega)]; rfl) n
  have hA : ∀ n : Nat, n ≤ 99 → v0.2.2.1.toInt + n ≤ x.toInt → goF (enM (u2 I1 65 (8 * j + 7) x)) (bit 7) (fun _ => false) (bit 0) n v0 = goF E (bit 7) (fun k => decide (k = j)) (bit 0) n v0 := by
    intro n
    induction n with
    | zero => intro _ _; rfl
    | succ n ih =>
      intro hn hxn
      show secF _ _ _ _ (goF _ _ _ _ n _) = secF _ _ _ _ (goF _ _ _ _ n _)
      rw [ih (by omega) (by omega)]
      have hs := goM_s (e := E) (pt := bit 7) (fr := fun k => decide (k = j)) (hc := bit 0) (v := v0) hp n (by omega)
      refine secF_e e1 (by rw [← hE]; exact wtM_7 I1 j x) (fun q hq => ?_) (fun k => ?_)
      · rw [← hE]
        show (u2 I1 65 (8 * j + 7) x) 65 q = I1 65 q
        rw [u2_65]
        exact if_neg (hq j)
      · rw [← hE]
        show (_ ∨ _ < ((u2 I1 65 (8 * j + 7) x) 65 (8 * k + 7)).toInt) ↔ (_ ∨ _ < (I1 65 (8 * k + 7)).toInt)
        rw [u2_65, hE]
        show (_ ∨ _ < (if 8 * k + 7 = 8 * j + 7 then x else I1 65 (8 * k + 7)).toInt) ↔ (_ ∨ _ < (I1 65 (8 * k + 7)).toInt)
        by_cases e : k = j
        · rw [if_pos (by omega)]
          exact ⟨fun _ => Or.inl (decide_eq_true e), fun _ => Or.inr (by omega)⟩
        · rw [if_neg (by omega)]
          exact or_congr (iff_of_false (by simp) (by simp [e])) Iff.rfl
  have hB : ∀ d : Nat, x.toInt ≤ v0.2.2.1.toInt + c → c + d ≤ 99 → (goF (enM (u2 I1 65 (8 * j + 7) x)) (bit 7) (fun _ => false) (bit 0) (c + d) v0).2.2.2.2.1 j = (goF (enM (u2 I1 65 (8 * j + 7) x)) (bit 7) (fun _ => false) (bit 0) c v0).2.2.2.2.1 j := by
    intro d
    induction d with
    | zero => intro _ _; rfl
    | succ d ih =>
      intro hxc hd
      have hs := goM_s (e := enM (u2 I1 65 (8 * j + 7) x)) (pt := bit 7) (fr := fun _ => false) (hc := bit 0) (v := v0) hp (c + d) (by omega)
      rw [← ih hxc (by omega)]
      show (secF _ _ _ _ (goF _ _ _ _ (c + d) _)).2.2.2.2.1 j = _
      generalize goF (enM (u2 I1 65 (8 * j + 7) x)) (bit 7) (fun _ => false) (bit 0) (c + d) v0 = V at hs
      have hw : wVF (enM (u2 I1 65 (8 * j + 7) x)) (bit 7) (fun _ => false) (bit 0) V j = 0 := by
        have et : (enM (u2 I1 65 (8 * j + 7) x)).2.1 (8 * j + 7) = x := u2_same I1 65 (8 * j + 7) x
        have hpd : pdF (enM (u2 I1 65 (8 * j + 7) x)) (bit 7) (fun _ => false) V j = false := by
          unfold pdF
          rw [et, decide_eq_false (fun z => z.1.elim (fun y => Bool.noConfusion y) (fun y => by omega)), Bool.and_false]
        unfold wVF
        rw [hpd]
        rfl
      show (if j < _ then V.2.2.2.2.1 j + shF V.1 (smF (wVF (enM (u2 I1 65 (8 * j + 7) x)) (bit 7) (fun _ => false) (bit 0) V) (enM (u2 I1 65 (8 * j + 7) x)).1) (wVF (enM (u2 I1 65 (8 * j + 7) x)) (bit 7) (fun _ => false) (bit 0) V j) else V.2.2.2.2.1 j) = _
      rw [hw, sh_0, Int32.add_zero]
      split <;> rfl
  have hg : gtM I1 j x = (goF (enM (u2 I1 65 (8 * j + 7) x)) (bit 7) (fun _ => false) (bit 0) 99 v0).2.2.2.2.1 j := by
    rw [← hf2]
    show (gaM I1 (8 * j + 7) x 99).2.2.2.2.1 j = _
    unfold gaM
    exact (go_eqv (by rw [e1]; exact hE3) hq 99).2.2.2.2.1 j hj
  rw [hg, hf1]
  rcases hx with hx | ⟨hx, c0⟩ | ⟨hx, c9⟩
  · have b := hB (99 - c) (by omega) (by omega)
    rw [show c + (99 - c) = 99 by omega] at b
    rw [b, hA c hc (by omega)]
  · have b := hB (99 - c) (by omega) (by omega)
    rw [show c + (99 - c) = 99 by omega] at b
    rw [b, c0]
    rfl
  · rw [← c9, hA c hc (by omega)]
theorem c_stopFor {I I1 I2 : Is} {J : Js} {b : Bool} {k : Int32} {v1 v2 : Int32} (h : Rel I J b) (q1 : (¬ inS I k ∧ v1 = -1 ∧ I1 = I) ∨ (inS I k ∧ v1 = lgF (en I b) (bit 7) (bit (1 <<< (k &&& 31))) (bit 0) (ix k) 99 (bgF (gv I 16)) 0 ∧ Fr [32, 33, 34, 35, 36, 37, 14, 15] I I1)) (q2 : (¬ inM I1 k ∧ v2 = -1 ∧ I2 = I1) ∨ (inM I1 k ∧ v2 = stM' (gtM I1 (ix k)) (gtM I1 (ix k) 5000) (I1 64 9) 101 0 ∧ FrM RTM FTM I1 I2)) : v2 = v1 ∧ Rel I2 J b := by
  rcases q1 with ⟨c1, hv, hI⟩ | ⟨c1, hv, hF⟩
  · rw [hI] at q2
    rcases q2 with ⟨d, hv2, hI2⟩ | ⟨d, -⟩
    · exact ⟨hv2.trans hv.symm, by rw [hI2]; exact h⟩
    · exact absurd ((inM_iff h.1.1 k).mp d) c1
  · have s1 := Sm.fr hF (by decide)
    obtain ⟨en1, gl1, e6⟩ := rel_1 h s1
    rcases q2 with ⟨d, -⟩ | ⟨-, hv2, hF2⟩
    · exact absurd ((inM_iff e6 k).mpr c1) d
    · refine ⟨?_, h.sm (Sm.of hF hF2 (by decide) (by decide))⟩
      have hk3 := s_lt h c1
      obtain ⟨j, hkj, hji⟩ := nat_of c1.1
      have hjx : ix k = j := ix_of hji.symm
      rw [hjx] at hv hv2 hk3
      rw [hkj] at hv
      have he := en_ok (b := b) h.1.2.2.1
      have hje : j < (en I b).1 := by
        show j < ix (I 1 1)
        have := ix_nn h.1.2.2.1.1
        have := c1.2
        omega
      obtain ⟨v0, hv0⟩ : ∃ v0, bgF (gv I 16) = v0 := ⟨_, rfl⟩
      have hq : EqV (bgF (gvT I1)) v0 := by rw [← hv0]; exact bg_eqv gl1
      have hok : VOk v0 := by rw [← hv0]; exact bg_ok h.2.1.2.2.2.1
      have h0 : v0.2.2.2.2.1 j = 0 := by rw [← hv0]; rfl
      have hs0 : v0.2.2.1 = I 16 2 := by rw [← hv0]; rfl
      have e9 : I1 64 9 = I 16 2 := gl1.2.2.1
      have hp : 0 ≤ (I 16 2).toInt ∧ (I 16 2).toInt ≤ 999 := h.2.1.2.2.2.2.1
      rw [hv0] at hv
      rw [e9] at hv2
      have hvr := hok
      unfold VOk at hvr
      obtain ⟨F, hFd⟩ : ∃ F : Nat → GV, F = fun i => goF (en I b) (bit 7) (b1 j) (bit 0) i v0 := ⟨_, rfl⟩
      have hFs : ∀ i, F (i + 1) = secF (en I b) (bit 7) (b1 j) (bit 0) (F i) := fun i => by rw [hFd]; rfl
      have hF0 : F 0 = v0 := by rw [hFd]; rfl
      have hmo : ∀ n, ((F n).2.2.2.2.1 j).toInt ≤ ((F (n + 1)).2.2.2.2.1 j).toInt := fun n => by
        rw [hFs]
        have g1 : VOk (F n) := by rw [hFd]; exact go_ok he hok n
        have l : 0 ≤ ((F n).2.2.2.2.1 j).toInt ∧ ((F n).2.2.2.2.1 j).toInt + (F n).1.toInt + (F n).2.1.toInt ≤ v0.1.toInt + v0.2.1.toInt := by
          rw [hFd]
          have := got_le he (pt := bit 7) (fr := b1 j) (hc := bit 0) hok hje h0 n
          exact ⟨this.1, this.2.1⟩
        have r1 := gt_rng he (pt := bit 7) (fr := b1 j) (hc := bit 0) g1 hje
        have r2 := wVF_rng he (pt := bit 7) (fr := b1 j) (hc := bit 0) hje g1
        unfold VOk at g1
        have eg : (secF (en I b) (bit 7) (b1 j) (bit 0) (F n)).2.2.2.2.1 j = (F n).2.2.2.2.1 j + gtF (en I b) (bit 7) (b1 j) (bit 0) (F n) j := if_pos hje
        rw [eg, tI_add (by omega) (by omega)]
        omega
      have hl := lst_p (P := fun i => ((F i).2.2.2.2.1 j).toInt) hmo 99
      have hlg := lg_lst (j := j) hFs 99 0
      rw [hF0] at hlg
      have hs00 : sOfF F (lstF (fun i => ((F i).2.2.2.2.1 j).toInt) 0) = 0 := rfl
      rw [hs00, Nat.zero_add, ← hv] at hlg
      have hgt := fun (x : Int32) (c : Nat) (hc : c ≤ 99) hx => (gt_P en1 he.1 hk3 hq (by rw [hs0]) hp h0 x c hc hx : gtM I1 j x = (goF (en I b) (bit 7) (b1 j) (bit 0) c v0).2.2.2.2.1 j)
      have hgF : ∀ (x : Int32) (c : Nat), c ≤ 99 → (x.toInt = (I 16 2).toInt + c ∨ (x.toInt ≤ (I 16 2).toInt ∧ c = 0) ∨ ((I 16 2).toInt + 99 ≤ x.toInt ∧ c = 99)) → (gtM I1 j x).toInt = ((F c).2.2.2.2.1 j).toInt := fun x c hc hx => by
        rw [hgt x c hc hx, hFd]
      have hsF : ∀ n : Nat, n ≤ 99 → (F n).2.2.1.toInt = (I 16 2).toInt + n := fun n hn => by
        rw [hFd, ← hs0]
        exact goM_s (by rw [hs0]; exact hp) n (by omega)
      obtain ⟨L, hL⟩ : ∃ L, lstF (fun i => ((F i).2.2.2.2.1 j).toInt) 99 = L := ⟨_, rfl⟩
      rw [hL] at hl hlg
      obtain ⟨l1, l2, l3, -⟩ := hl
      have l2 : ((F L).2.2.2.2.1 j).toInt = ((F 99).2.2.2.2.1 j).toInt := l2
      have n5 : (5000 : Int32).toInt = 5000 := rfl
      have n0 : (0 : Int32).toInt = 0 := rfl
      have hz := st_zero (gS := gtM I1 j) (al := gtM I1 j 5000) (ps := I 16 2) (P := fun i => ((F i).2.2.2.2.1 j).toInt) (L := L) hp l1 (fun s c hc hs => hgF s c hc (Or.inl hs)) (hgF 0 0 (by omega) (Or.inr (Or.inl ⟨by omega, rfl⟩))) ((hgF 5000 99 (by omega) (Or.inr (Or.inr ⟨by omega, rfl⟩))).trans l2.symm) (fun c hc => by
        have := l3 c hc
        show ((F c).2.2.2.2.1 j).toInt < ((F L).2.2.2.2.1 j).toInt
        rw [l2]
        exact this) 101 (by omega)
      rw [← hv2] at hz
      apply Int32.toInt_inj.mp
      rw [hz, hlg]
      unfold sOfF
      by_cases c : L = 0
      · rw [if_pos c, if_pos c]; rfl
      · rw [if_neg c, if_neg c, hsF L l1]
