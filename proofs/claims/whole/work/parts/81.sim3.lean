/-- the class's reader with its parts -/
def InvL (u : Nat) (T : Int32 → Int32) (I : Is) : Prop := InvT u T I ∧ 0 ≤ (I u 4).toInt ∧ (I u 4).toInt ≤ (I 3 3).toInt
def XL (u : Nat) (I I2 : Is) : Prop := (I2 3 1 = I 3 1 ∧ I2 4 = I 4) ∧ (I 3 3).toInt ≤ (I2 3 3).toInt ∧ (I u 3).toInt ≤ (I2 u 3).toInt ∧ (I u 4).toInt ≤ (I2 u 4).toInt ∧ (∀ k : Nat, (k : Int) < (I u 3).toInt → I2 (u + 1) k = I (u + 1) k) ∧ ∀ k : Nat, (k : Int) < (I u 4).toInt → I2 (u + 2) k = I (u + 2) k ∧ I2 (u + 3) k = I (u + 3) k
theorem XL.tr {u : Nat} {I I1 I2 : Is} (h : XL u I I1) (g : XL u I1 I2) : XL u I I2 := by
  obtain ⟨⟨a1, a2⟩, b, c, d, e, f⟩ := h
  obtain ⟨⟨a1', a2'⟩, b', c', d', e', f'⟩ := g
  exact ⟨⟨a1'.trans a1, a2'.trans a2⟩, by omega, by omega, by omega, fun k hk => (e' k (by omega)).trans (e k hk), fun k hk => ⟨(f' k (by omega)).1.trans (f k hk).1, (f' k (by omega)).2.trans (f k hk).2⟩⟩
theorem XT.xl {u : Nat} {I I2 : Is} (h : XT u I I2) : XL u I I2 := by
  obtain ⟨⟨a1, a2⟩, ⟨b1, b2⟩, ⟨c1, c2⟩, d, e1, e2, e3⟩ := h
  exact ⟨⟨a1, a2⟩, b1, c1, by rw [e1]; exact Int.le_refl _, d, fun k _ => ⟨by rw [e2], by rw [e3]⟩⟩
theorem XT.invL {u : Nat} {T : Int32 → Int32} {I I2 : Is} (h : XT u I I2) (hi : InvL u T I) : InvL u T I2 := by
  refine ⟨h.inv hi.1, ?_⟩
  obtain ⟨-, ⟨b1, b2⟩, -, -, e1, -, -⟩ := h
  rw [e1]
  exact ⟨hi.2.1, by have := hi.2.2; omega⟩
/-- a part ended: where it ends, what it is -/
theorem endF_v {u : Nat} (hu : u = 5 ∨ u = 10) {T : Int32 → Int32} {I : Is} (hi : InvL u T I) (hlt : (I u 4).toInt < 120) (hle : (I u 4).toInt + 1 ≤ (I 3 3).toInt) (q : Int32) : InvL u T (endF u I q) ∧ XL u I (endF u I q) ∧ endF u I q 3 = I 3 ∧ endF u I q u 3 = I u 3 ∧ endF u I q (u + 1) = I (u + 1) ∧ (endF u I q u 4).toInt = (I u 4).toInt + 1 ∧ (∀ k : Nat, endF u I q (u + 2) k = if k = ix (I u 4) then I u 3 else I (u + 2) k) ∧ ∀ k : Nat, endF u I q (u + 3) k = if k = ix (I u 4) then q else I (u + 3) k := by
  have ed : endF u I q = u2 (u2 (u2 I (u + 2) (ix (I u 4)) (I u 3)) (u + 3) (ix (I u 4)) q) u 4 (I u 4 + 1) := if_pos hlt
  have h3 : endF u I q 3 = I 3 := by rw [ed, u2_row (by omega), u2_row (by omega), u2_row (by omega)]
  have h4 : endF u I q 4 = I 4 := by rw [ed, u2_row (by omega), u2_row (by omega), u2_row (by omega)]
  have hc : endF u I q (u + 1) = I (u + 1) := by rw [ed, u2_row (by omega), u2_row (by omega), u2_row (by omega)]
  have hl : endF u I q u 3 = I u 3 := by rw [ed, u2_ne _ _ _ _ (Or.inr (by decide)), u2_row (by omega), u2_row (by omega)]
  have h0 := hi.2.1
  have hp : (endF u I q u 4).toInt = (I u 4).toInt + 1 := by rw [ed, u2_same, tI_add (by rw [one_int]; omega) (by rw [one_int]; omega), one_int]
  have he : ∀ k : Nat, endF u I q (u + 2) k = if k = ix (I u 4) then I u 3 else I (u + 2) k := fun k => by
    rw [ed, u2_row (by omega), u2_row (by omega)]
    by_cases e : k = ix (I u 4)
    · rw [if_pos e, e, u2_same]
    · rw [if_neg e, u2_ne _ _ _ _ (Or.inr e)]
  have ha : ∀ k : Nat, endF u I q (u + 3) k = if k = ix (I u 4) then q else I (u + 3) k := fun k => by
    rw [ed, u2_row (by omega)]
    by_cases e : k = ix (I u 4)
    · rw [if_pos e, e, u2_same]
    · rw [if_neg e, u2_ne _ _ _ _ (Or.inr e), u2_row (by omega)]
  have n0 := ix_nn h0
  refine ⟨⟨?_, by omega, by rw [hp, h3]; omega⟩, ⟨⟨by rw [h3], h4⟩, by rw [h3]; exact Int.le_refl _, by rw [hl]; exact Int.le_refl _, by omega, fun k _ => by rw [hc], fun k hk => ⟨by rw [he, if_neg (by omega)], by rw [ha, if_neg (by omega)]⟩⟩, h3, hl, hc, hp, he, ha⟩
  unfold InvT
  rw [h3, h4, hl]
  exact hi.1
/-- where the parts end lies in the codes' row -/
def EB (u : Nat) (I : Is) : Prop := ∀ k : Nat, (k : Int) < (I u 4).toInt → 0 ≤ (I (u + 2) k).toInt ∧ (I (u + 2) k).toInt ≤ 120
theorem XT.eb {u : Nat} {I I2 : Is} (h : XT u I I2) (hE : EB u I) : EB u I2 := by
  unfold EB
  rw [h.2.2.2.2.1, h.2.2.2.2.2.1]
  exact hE
theorem endF_eb {u : Nat} (hu : u = 5 ∨ u = 10) {T : Int32 → Int32} {I : Is} (hi : InvL u T I) (hlt : (I u 4).toInt < 120) (hle : (I u 4).toInt + 1 ≤ (I 3 3).toInt) (q : Int32) (hE : EB u I) : EB u (endF u I q) := by
  obtain ⟨-, -, -, -, -, ap, ae, -⟩ := endF_v hu hi hlt hle q
  intro k hk
  rw [ap] at hk
  rw [ae]
  by_cases e : k = ix (I u 4)
  · rw [if_pos e]
    exact ⟨hi.1.2.1.1, by have := hi.1.2.1.2; have := hi.1.1; omega⟩
  · rw [if_neg e]
    exact hE k (by have := ix_nn hi.2.1; omega)
/-- what a line's parts make of the parts behind it -/
def PRO (u : Nat) (nm : Nat → Int32) (I I2 : Is) (v : Int32) (h : Bool) : Prop := (I u 4).toInt + 1 ≤ (I2 u 4).toInt ∧ (EB u I → EB u I2) ∧ ∀ (c e a : Nat → Int32) (n : Nat), (∀ k : Nat, (k : Int) < (I2 u 3).toInt → c k = I2 (u + 1) k) → (∀ k : Nat, (k : Int) < (I2 u 4).toInt → e k = I2 (u + 2) k ∧ a k = I2 (u + 3) k) →
  prF nm c e a ((ix (I2 u 4) - ix (I u 4)) + n) (ix (I u 4)) (ix (I u 3)) true = if h = true then imax 0 (imin 99 v) else prF nm c e a n (ix (I2 u 4)) (ix (I2 u 3)) true
theorem wk_of {nm c code : Nat → Int32} {a b : Nat} {v : Int32} (h : ∀ st, stkF nm code (b - a) a st = some (v :: st)) (hab : a ≤ b) (hc : ∀ k, k < b → c k = code k) : wkF nm c a b = v := by
  unfold wkF
  rw [stkF_cg (code' := code) _ _ _ (fun k h1 h2 => hc k (by omega)), h []]
  rfl
theorem stk_pos {nm code : Nat → Int32} {a b : Nat} {v : Int32} (h : ∀ st, stkF nm code (b - a) a st = some (v :: st)) : a < b := by
  by_cases c : a < b
  · exact c
  · have := h []
    rw [show b - a = 0 by omega] at this
    have e : some ([] : List Int32) = some [v] := this
    exact absurd e (by simp)
theorem prF_s (nm c e a : Nat → Int32) (n k p : Nat) (b : Bool) : prF nm c e a (n + 1) k p b = if ¬ a k = 0 then prF nm c e a n (k + 1) (ix (e k)) (decide (¬ wkF nm c p (ix (e k)) = 0)) else if b then imax 0 (imin 99 (wkF nm c p (ix (e k)))) else prF nm c e a n (k + 1) (ix (e k)) true := rfl
def lineG (u : Nat) (g : Is → Bool × Is) (I : Is) : Bool × Is :=
  if (g I).1 = true then
    (if nxF (g I).2 = 63 then (if (g (endF u (goP (g I).2) 1)).1 = true then (true, endF u (g (endF u (goP (g I).2) 1)).2 0) else (false, (g (endF u (goP (g I).2) 1)).2)) else (true, endF u (g I).2 0))
  else (false, (g I).2)
theorem line_simG {u : Nat} (hu : u = 5 ∨ u = 10) {T : Int32 → Int32} {nm : Nat → Int32} {g : Is → Bool × Is} {f : PS → Int32 × PS} (hs : SimF u T nm (6 : Nat) g f) {I : Is} {p : PS} (hi : InvL u T I) (hp : p.1 = I 3 3) (hf : p.2.1.toInt < 0) (ho : p.2.2 = 0) :
    ((lineG u g I).1 = true ∧ (linM T f p).2.2.1 = (lineG u g I).2 3 3 ∧ (linM T f p).2.2.2 = p.2 ∧ InvL u T (lineG u g I).2 ∧ XL u I (lineG u g I).2 ∧ PRO u nm I (lineG u g I).2 (linM T f p).1 (linM T f p).2.1) ∨
    ((lineG u g I).1 = false ∧ (linM T f p).2.2.2.1 = (lineG u g I).2 3 3 ∧ 0 ≤ ((lineG u g I).2 3 3).toInt) := by
  have ho6 : p.2.2.toInt + ((6 : Nat) : Int) = 6 := by rw [ho]; decide
  unfold lineG
  have h1 := hs I p hi.1 hp hf ho6
  unfold linM
  generalize g I = gr at *
  generalize f p = fr at *
  rcases h1 with ⟨hq, hX, hk1, hk2, hk3⟩ | ⟨hq, hk1, hk2⟩
  · rw [if_pos hq]
    have hi1 := hX.invL hi
    have l0 := hi.1.2.1.1
    have q0 := hi.2.1
    have m0 := ix_nn l0
    have m1 := ix_nn (show 0 ≤ (gr.2 u 3).toInt by have := hX.2.2.1.1; omega)
    have hpos := stk_pos hk3
    have hadv : (I 3 3).toInt + 1 ≤ (gr.2 3 3).toInt := by have := hX.2.2.1.2; omega
    have e4 : gr.2 u 4 = I u 4 := hX.2.2.2.2.1
    have n4 := ix_nn q0
    have hq1 := hi.2.2
    have hq3 := hi1.1.1
    by_cases c63 : T (gr.2 3 3) = 63
    · rw [if_pos ((eq_T hi1.1 (by decide) (by decide)).mpr c63)]
      have htk : tkQ T 63 fr.2 := ⟨by rw [hk2]; exact hf, by rw [hk1]; exact c63⟩
      rw [if_pos htk]
      have hl2 := (lt_T hi1.1 (by rw [c63]; decide)).2
      obtain ⟨hG, hg1, hg2, hg3⟩ := XT.go hu hi1.1 hl2
      have hi2 := hG.invL hi1
      have eg4 : goP gr.2 u 4 = I u 4 := (congrFun hg2 4).trans e4
      obtain ⟨hi3, hX3, a3, al, ac, ap, ae, aa⟩ := endF_v hu hi2 (by rw [eg4]; omega) (by rw [eg4, hg1]; omega) 1
      have hgo : goP gr.2 3 3 = gr.2 3 3 + 1 := u2_same ..
      have h2 := hs (endF u (goP gr.2) 1) (fr.2.1 + 1, fr.2.2.1, fr.2.2.2) hi3.1 (by show fr.2.1 + 1 = _; rw [a3, hgo, hk1]) (by show fr.2.2.1.toInt < 0; rw [hk2]; exact hf) (by show fr.2.2.2.toInt + _ = 6; rw [hk2]; exact ho6)
      have e3g : endF u (goP gr.2) 1 u 3 = gr.2 u 3 := al.trans (congrFun hg2 3)
      have e4g : (endF u (goP gr.2) 1 u 4).toInt = (I u 4).toInt + 1 := by rw [ap, eg4]
      generalize hE : endF u (goP gr.2) 1 = E at *
      generalize g E = hr at *
      generalize f (fr.2.1 + 1, fr.2.2.1, fr.2.2.2) = kr at *
      rcases h2 with ⟨hq2, hX4, hk4, hk5, hk6⟩ | ⟨hq2, hk4, hk5⟩
      · rw [if_pos hq2]
        have hi4 := hX4.invL hi3
        have hpos2 := stk_pos hk6
        have e44 : hr.2 u 4 = E u 4 := hX4.2.2.2.2.1
        have m2 := ix_nn (show 0 ≤ (hr.2 u 3).toInt by have := hX4.2.2.1.1; rw [e3g] at this; omega)
        have hadv2 : (E 3 3).toInt + 1 ≤ (hr.2 3 3).toInt := by have := hX4.2.2.1.2; rw [e3g] at this hpos2; omega
        have hE4 := hi3.2.2
        have hH := hi4.1.1
        obtain ⟨hi5, hX5, b3, bl, bc, bp, be, ba⟩ := endF_v hu hi4 (by rw [e44]; omega) (by rw [e44]; omega) 0
        dsimp only
        refine Or.inl ⟨rfl, by rw [b3]; exact hk4, ?_, hi5, ((hX.xl.tr (hG.xl)).tr hX3).tr (hX4.xl.tr hX5), ?_⟩
        · show kr.2.2 = p.2
          rw [hk5]
          exact hk2
        · refine ⟨by rw [bp, e44]; omega, fun hE0 => endF_eb hu hi4 (by rw [e44]; omega) (by rw [e44]; omega) 0 (hX4.eb (by rw [← hE]; exact endF_eb hu hi2 (by rw [eg4]; omega) (by rw [eg4, hg1]; omega) 1 (hG.eb (hX.eb hE0)))), ?_⟩
          intro c e a n hc hea
          have n5 := ix_nn hi5.2.1
          rw [bp, e44] at n5
          have z0 := hea (ix (I u 4)) (by rw [bp, e44]; omega)
          have z1 := hea (ix (I u 4) + 1) (by rw [bp, e44]; omega)
          have i44 : ix (hr.2 u 4) = ix (I u 4) + 1 := by
            rw [e44]
            have := ix_nn (show 0 ≤ (E u 4).toInt by omega)
            omega
          rw [be, ba, i44] at z0 z1
          rw [if_neg (by omega), if_neg (by omega)] at z0
          rw [if_pos rfl, if_pos rfl] at z1
          have y0 := congrFun hX4.2.2.2.2.2.1 (ix (I u 4))
          have y1 := congrFun hX4.2.2.2.2.2.2 (ix (I u 4))
          rw [y0, y1, ae, aa, eg4, if_pos rfl, if_pos rfl] at z0
          have eg3 : goP gr.2 u 3 = gr.2 u 3 := congrFun hg2 3
          rw [eg3] at z0
          have hcode : ∀ k : Nat, (k : Int) < (hr.2 u 3).toInt → c k = hr.2 (u + 1) k := fun k hk => by
            rw [hc k (by rw [bl]; exact hk), bc]
          have w1 : wkF nm c (ix (I u 3)) (ix (gr.2 u 3)) = fr.1 := wk_of hk3 (by omega) (fun k hk => by
            rw [hcode k (by have := hX4.2.2.1.1; rw [e3g] at this; omega), hX4.2.2.2.1 k (by rw [e3g]; omega), ac, hg3])
          have w2 : wkF nm c (ix (gr.2 u 3)) (ix (hr.2 u 3)) = kr.1 := by
            rw [e3g] at hk6 hpos2
            exact wk_of hk6 (by omega) (fun k hk => hcode k (by omega))
          rw [show ix (endF u hr.2 0 u 4) - ix (I u 4) + n = (n + 1) + 1 by omega, prF_s, z0.1, z0.2, if_pos (by decide), w1, prF_s, z1.1, z1.2, if_neg (by decide), w2]
          rw [show ix (endF u hr.2 0 u 4) = ix (I u 4) + 1 + 1 by omega, bl]
      · rw [if_neg (by rw [hq2]; exact Bool.false_ne_true)]
        exact Or.inr ⟨rfl, hk4, hk5⟩
    · rw [if_neg (fun z => c63 ((eq_T hi1.1 (by decide) (by decide)).mp z))]
      have htk : ¬ tkQ T 63 fr.2 := fun z => c63 (by have := z.2; rw [hk1] at this; exact this)
      rw [if_neg htk]
      obtain ⟨hi3, hX3, a3, al, ac, ap, ae, aa⟩ := endF_v hu hi1 (by rw [e4]; omega) (by rw [e4]; omega) 0
      dsimp only
      refine Or.inl ⟨rfl, by rw [a3]; exact hk1, hk2, hi3, hX.xl.tr hX3, ?_⟩
      refine ⟨by rw [ap, e4]; omega, fun hE0 => endF_eb hu hi1 (by rw [e4]; omega) (by rw [e4]; omega) 0 (hX.eb hE0), ?_⟩
      intro c e a n hc hea
      have n5 := ix_nn hi3.2.1
      rw [ap, e4] at n5
      have z0 := hea (ix (I u 4)) (by rw [ap, e4]; omega)
      rw [ae, aa, e4, if_pos rfl, if_pos rfl] at z0
      have w1 : wkF nm c (ix (I u 3)) (ix (gr.2 u 3)) = fr.1 := wk_of hk3 (by omega) (fun k hk => by rw [hc k (by rw [al]; omega), ac])
      rw [show ix (endF u gr.2 0 u 4) - ix (I u 4) + n = n + 1 by omega, prF_s, z0.1, z0.2, if_neg (by decide), w1]
      exact (if_pos rfl).trans (if_pos rfl).symm
  · rw [if_neg (by rw [hq]; exact Bool.false_ne_true)]
    have htk : ¬ tkQ T 63 fr.2 := fun z => by have := z.1; rw [hk1] at this; omega
    rw [if_neg htk]
    exact Or.inr ⟨rfl, hk1, hk2⟩
theorem lineF_G (u : Nat) (I : Is) : lineF u I = lineG u (jnF u (oneF u 6) 5) I := rfl
theorem sim_5 {u : Nat} (hu : u = 5 ∨ u = 10) (T : Int32 → Int32) (nm : Nat → Int32) : SimF u T nm (6 : Nat) (jnF u (oneF u 6) 5) (jnM T (oneM T nm 6) 5) := jn_sim hu (one_sim hu 6 (by decide)) 5
