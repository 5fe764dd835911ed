theorem rd_sim {u : Nat} (hu : u = 5 ∨ u = 10) {T : Int32 → Int32} {nm : Nat → Int32} {f : PS → Int32 × PS}
    (hls : ∀ (I : Is) (p : PS), InvL u T I → p.1 = I 3 3 → p.2.1.toInt < 0 → p.2.2 = 0 →
      ((lineF u I).1 = true ∧ (linM T f p).2.2.1 = (lineF u I).2 3 3 ∧ (linM T f p).2.2.2 = p.2 ∧ InvL u T (lineF u I).2 ∧ XL u I (lineF u I).2 ∧ PRO u nm I (lineF u I).2 (linM T f p).1 (linM T f p).2.1) ∨
      ((lineF u I).1 = false ∧ (linM T f p).2.2.2.1 = (lineF u I).2 3 3 ∧ 0 ≤ ((lineF u I).2 3 3).toInt)) (E : Int32) :
    ∀ (n : Nat) (I : Is) (p : PS) (g : Bool) (gs : Int32), InvL u T I → I 3 1 = E → p.1 = I 3 3 → p.2.1.toInt < 0 → p.2.2 = 0 → 121 ≤ (n : Int) + (I 3 3).toInt →
      ((rdF u n I).1 = -1 ∧ (finM E (lnM T f n g gs p)).2.2.1.toInt < 0 ∧ InvL u T (rdF u n I).2 ∧ XL u I (rdF u n I).2 ∧ (g = true → (finM E (lnM T f n g gs p)).1 = gs) ∧ ((I u 4).toInt + 1 ≤ ((rdF u n I).2 u 4).toInt ∧ (EB u I → EB u (rdF u n I).2)) ∧ (g = false → gs = 0 → ∀ c e a : Nat → Int32, (∀ k : Nat, (k : Int) < ((rdF u n I).2 u 3).toInt → c k = (rdF u n I).2 (u + 1) k) → (∀ k : Nat, (k : Int) < ((rdF u n I).2 u 4).toInt → e k = (rdF u n I).2 (u + 2) k ∧ a k = (rdF u n I).2 (u + 3) k) → prF nm c e a (ix ((rdF u n I).2 u 4) - ix (I u 4)) (ix (I u 4)) (ix (I u 3)) true = imax 0 (imin 99 (finM E (lnM T f n g gs p)).1))) ∨
      (0 ≤ (rdF u n I).1.toInt ∧ (finM E (lnM T f n g gs p)).2.2.1 = (rdF u n I).1) := by
  intro n
  induction n with
  | zero =>
    intro I p g gs hi hE hp hf ho hn
    exfalso
    have := hi.1.1
    omega
  | succ n ih =>
    intro I p g gs hi hE hp hf ho hn
    have hR : rdF u (n + 1) I = if (lineF u I).1 = true then (if ((lineF u I).2 3 1).toInt ≤ ((lineF u I).2 3 3).toInt then (-1, (lineF u I).2) else if nxF (lineF u I).2 = 59 then rdF u n (goP (lineF u I).2) else ((lineF u I).2 3 3, (lineF u I).2)) else ((lineF u I).2 3 3, (lineF u I).2) := rfl
    have hM : lnM T f (n + 1) g gs p = nxM T (lnM T f n) g gs (linM T f p) := rfl
    have hl := hls I p hi hp hf ho
    rw [hR, hM]
    clear hR hM
    generalize lineF u I = L at *
    generalize linM T f p = r at *
    unfold nxM
    rcases hl with ⟨hq, h1, h2, hi2, hX, hP⟩ | ⟨hq, h1, h2⟩
    · rw [if_pos hq]
      have hfr : r.2.2.2.1.toInt < 0 := by rw [h2]; exact hf
      have hE2 : L.2 3 1 = E := hX.1.1.trans hE
      have h0' := hi2.1.1
      have nI4 := ix_nn hi.2.1
      have nL4 := ix_nn hi2.2.1
      have hge : g = true → gsM g gs r = gs := fun hg => if_neg (fun z => by rw [hg] at z; exact absurd z.2.2 (by decide))
      by_cases c1 : (L.2 3 1).toInt ≤ (L.2 3 3).toInt
      · rw [if_pos c1]
        have hT0 : T (L.2 3 3) = 0 := by
          rcases nx_T hi2.1 with ⟨-, z⟩ | ⟨-, z, -⟩
          · omega
          · exact z
        rw [if_neg (fun z : tkQ T 59 r.2.2 => by have z2 := z.2; rw [h1, hT0] at z2; exact absurd z2 (by decide))]
        have hfin : finM E (gsM g gs r, r.2.2) = (gsM g gs r, r.2.2) := if_neg (fun z => by
          have z2 : r.2.2.1.toInt < E.toInt := z.2
          rw [h1] at z2
          rw [hE2] at c1
          omega)
        rw [hfin]
        refine Or.inl ⟨rfl, hfr, hi2, hX, hge, ⟨hP.1, hP.2.1⟩, fun hg hgs c e a hc hea => ?_⟩
        have h9 := hP.2.2 c e a 0 hc hea
        rw [Nat.add_zero] at h9
        refine h9.trans ?_
        by_cases hh : r.2.1 = true
        · rw [if_pos hh]
          show _ = imax 0 (imin 99 (gsM g gs r))
          rw [show gsM g gs r = r.1 from if_pos ⟨hfr, hh, hg⟩]
        · rw [if_neg hh]
          show (0 : Int32) = imax 0 (imin 99 (gsM g gs r))
          rw [show gsM g gs r = gs from if_neg (fun z => hh z.2.1), hgs]
          decide
      · rw [if_neg c1]
        by_cases c59 : T (L.2 3 3) = 59
        · rw [if_pos ((eq_T hi2.1 (by decide) (by decide)).mpr c59)]
          have htk : tkQ T 59 r.2.2 := ⟨hfr, by rw [h1]; exact c59⟩
          rw [if_pos htk]
          obtain ⟨hG, hg1, hg2, hg3⟩ := XT.go hu hi2.1 (by omega)
          have hgo : goP L.2 3 3 = L.2 3 3 + 1 := u2_same ..
          have hat := hX.2.1
          have h5 := ih (goP L.2) (r.2.2.1 + 1, r.2.2.2.1, r.2.2.2.2) (ggM g r) (gsM g gs r) (hG.invL hi2) (hG.1.1.trans hE2) (by show r.2.2.1 + 1 = _; rw [hgo, h1]) hfr (by show r.2.2.2.2 = 0; rw [h2]; exact ho) (by rw [hg1]; omega)
          generalize rdF u n (goP L.2) = R at *
          generalize finM E (lnM T f n (ggM g r) (gsM g gs r) (r.2.2.1 + 1, r.2.2.2.1, r.2.2.2.2)) = S at *
          rcases h5 with ⟨a1, a2, a3, a4, a5, a7, a6⟩ | ⟨a1, a2⟩
          · have hXR := hG.xl.tr a4
            refine Or.inl ⟨a1, a2, a3, hX.tr hXR, fun hg => ?_, ⟨by have := hP.1; have := hXR.2.2.2.1; omega, fun hE0 => a7.2 (hG.eb (hP.2.1 hE0))⟩, fun hg hgs c e a hc hea => ?_⟩
            · rw [a5 (ggM_t (Or.inl hg)), hge hg]
            · have k4 := hXR.2.2.2.1
              have k3 := hXR.2.2.1
              have nR4 := ix_nn a3.2.1
              have h9 := hP.2.2 c e a (ix (R.2 u 4) - ix (L.2 u 4)) (fun k hk => by rw [hc k (by omega)]; exact hXR.2.2.2.2.1 k hk) (fun k hk => by
                obtain ⟨y1, y2⟩ := hea k (by omega)
                obtain ⟨y3, y4⟩ := hXR.2.2.2.2.2 k hk
                exact ⟨y1.trans y3, y2.trans y4⟩)
              have hle := hX.2.2.2.1
              rw [show ix (L.2 u 4) - ix (I u 4) + (ix (R.2 u 4) - ix (L.2 u 4)) = ix (R.2 u 4) - ix (I u 4) by omega] at h9
              refine h9.trans ?_
              by_cases hh : r.2.1 = true
              · rw [if_pos hh, a5 (ggM_t (Or.inr ⟨hfr, hh⟩)), show gsM g gs r = r.1 from if_pos ⟨hfr, hh, hg⟩]
              · rw [if_neg hh]
                have h10 := a6 (by rw [ggM_f (fun z => hh z.2)]; exact hg) (by rw [show gsM g gs r = gs from if_neg (fun z => hh z.2.1)]; exact hgs) c e a hc hea
                rw [hg2] at h10
                exact h10
          · exact Or.inr ⟨a1, a2⟩
        · rw [if_neg (fun z => c59 ((eq_T hi2.1 (by decide) (by decide)).mp z))]
          rw [if_neg (fun z : tkQ T 59 r.2.2 => c59 (by have z2 := z.2; rw [h1] at z2; exact z2))]
          have hfin : finM E (gsM g gs r, r.2.2) = (0, wrP r.2.2) := if_pos ⟨hfr, by show r.2.2.1.toInt < _; rw [h1]; rw [hE2] at c1; omega⟩
          rw [hfin]
          refine Or.inr ⟨h0'.1, ?_⟩
          show (if r.2.2.2.1.toInt < 0 then r.2.2.1 else r.2.2.2.1) = L.2 3 3
          rw [if_pos hfr, h1]
    · rw [if_neg (by rw [hq]; exact Bool.false_ne_true)]
      have hnf : ¬ r.2.2.2.1.toInt < 0 := by rw [h1]; omega
      rw [if_neg (fun z : tkQ T 59 r.2.2 => hnf z.1)]
      have hfin : finM E (gsM g gs r, r.2.2) = (gsM g gs r, r.2.2) := if_neg (fun z => hnf z.1)
      rw [hfin]
      exact Or.inr ⟨h2, h1⟩
theorem hls_all {u : Nat} (hu : u = 5 ∨ u = 10) (T : Int32 → Int32) (nm : Nat → Int32) (I : Is) (p : PS) (hi : InvL u T I) (hp : p.1 = I 3 3) (hf : p.2.1.toInt < 0) (ho : p.2.2 = 0) :
      ((lineF u I).1 = true ∧ (linM T (jnM T (oneM T nm 6) 5) p).2.2.1 = (lineF u I).2 3 3 ∧ (linM T (jnM T (oneM T nm 6) 5) p).2.2.2 = p.2 ∧ InvL u T (lineF u I).2 ∧ XL u I (lineF u I).2 ∧ PRO u nm I (lineF u I).2 (linM T (jnM T (oneM T nm 6) 5) p).1 (linM T (jnM T (oneM T nm 6) 5) p).2.1) ∨
      ((lineF u I).1 = false ∧ (linM T (jnM T (oneM T nm 6) 5) p).2.2.2.1 = (lineF u I).2 3 3 ∧ 0 ≤ ((lineF u I).2 3 3).toInt) := by
  have h := line_simG hu (sim_5 hu T nm) hi hp hf ho
  rw [← lineF_G] at h
  exact h
/-- the tape read by the class and by the reference: refused at the same place, or told, and then the same wants -/
theorem law_sim {u : Nat} (hu : u = 5 ∨ u = 10) (I : Is) (h31 : 0 ≤ (I 3 1).toInt ∧ (I 3 1).toInt ≤ 120) (nm : Nat → Int32) :
    ((lawF u I).1 = -1 ∧ (woM (txR (I 4) (I 3 1)) nm (I 3 1)).2.2.1.toInt < 0 ∧ InvL u (txR (I 4) (I 3 1)) (lawF u I).2 ∧ 1 ≤ ((lawF u I).2 u 4).toInt ∧ EB u (lawF u I).2 ∧ (lawF u I).2 4 = I 4 ∧ (lawF u I).2 3 1 = I 3 1 ∧ prF nm ((lawF u I).2 (u + 1)) ((lawF u I).2 (u + 2)) ((lawF u I).2 (u + 3)) (ix ((lawF u I).2 u 4)) 0 0 true = imax 0 (imin 99 (woM (txR (I 4) (I 3 1)) nm (I 3 1)).1)) ∨
    (0 ≤ (lawF u I).1.toInt ∧ (woM (txR (I 4) (I 3 1)) nm (I 3 1)).2.2.1 = (lawF u I).1) := by
  have hI0 : InvL u (txR (I 4) (I 3 1)) (clrF u (u2 I 3 3 0)) ∧ clrF u (u2 I 3 3 0) 3 1 = I 3 1 ∧ clrF u (u2 I 3 3 0) 3 3 = 0 ∧ clrF u (u2 I 3 3 0) u 3 = 0 ∧ clrF u (u2 I 3 3 0) u 4 = 0 ∧ clrF u (u2 I 3 3 0) 4 = I 4 := by
    have e3 : clrF u (u2 I 3 3 0) 3 = (u2 I 3 3 0) 3 := by unfold clrF; rw [u2_row (by omega), u2_row (by omega)]
    have e31 : clrF u (u2 I 3 3 0) 3 1 = I 3 1 := by rw [e3, u2_ne _ _ _ _ (Or.inr (by decide))]
    have e33 : clrF u (u2 I 3 3 0) 3 3 = 0 := by rw [e3, u2_same]
    have eu3 : clrF u (u2 I 3 3 0) u 3 = 0 := by unfold clrF; rw [u2_ne _ _ _ _ (Or.inr (by decide)), u2_same]
    have eu4 : clrF u (u2 I 3 3 0) u 4 = 0 := by unfold clrF; rw [u2_same]
    have e4 : clrF u (u2 I 3 3 0) 4 = I 4 := by unfold clrF; rw [u2_row (by omega), u2_row (by omega), u2_row (by decide)]
    have z : (0 : Int32).toInt = 0 := rfl
    refine ⟨⟨?_, by rw [eu4, z]; exact Int.le_refl _, by rw [eu4, e33]; exact Int.le_refl _⟩, e31, e33, eu3, eu4, e4⟩
    unfold InvT
    rw [e31, e33, eu3, e4, z]
    exact ⟨⟨by omega, by omega, h31.2⟩, ⟨by omega, by omega⟩, rfl⟩
  obtain ⟨hi0, e31, e33, eu3, eu4, e4⟩ := hI0
  have h := rd_sim hu (hls_all hu (txR (I 4) (I 3 1)) nm) (I 3 1) 121 (clrF u (u2 I 3 3 0)) (0, -1, 0) false 0 hi0 e31 e33.symm (by decide) rfl (by rw [e33]; decide)
  unfold lawF woM
  generalize clrF u (u2 I 3 3 0) = I0 at *
  generalize lnM (txR (I 4) (I 3 1)) (jnM (txR (I 4) (I 3 1)) (oneM (txR (I 4) (I 3 1)) nm 6) 5) 121 false 0 (0, -1, 0) = S at *
  generalize rdF u 121 I0 = R at *
  rcases h with ⟨a1, a2, a3, a4, a5, a7, a6⟩ | ⟨a1, a2⟩
  · refine Or.inl ⟨a1, a2, a3, by have := a7.1; rw [eu4] at this; exact this, a7.2 (fun k hk => by rw [eu4] at hk; exact absurd hk (by have z : (0 : Int32).toInt = 0 := rfl; omega)), a4.1.2.trans e4, a4.1.1.trans e31, ?_⟩
    have h9 := a6 rfl rfl (R.2 (u + 1)) (R.2 (u + 2)) (R.2 (u + 3)) (fun _ _ => rfl) (fun _ _ => ⟨rfl, rfl⟩)
    rw [eu4, eu3, show ix (0 : Int32) = 0 from rfl, Nat.sub_zero] at h9
    exact h9
  · exact Or.inr ⟨a1, a2⟩
