/-! the class's parser and its codes against the reference's evaluator -/
theorem stkF_app {nm code : Nat → Int32} : ∀ (a b p : Nat) (st s : List Int32), stkF nm code a p st = some s → stkF nm code (a + b) p st = stkF nm code b (p + a) s := by
  intro a
  induction a with
  | zero =>
    intro b p st s h
    have e : some st = some s := h
    cases e
    rw [Nat.zero_add, Nat.add_zero]
  | succ a ih =>
    intro b p st s h
    rw [show a + 1 + b = (a + b) + 1 by omega]
    show (match stF nm (code p) st with | none => none | some st' => stkF nm code (a + b) (p + 1) st') = _
    have h2 : (match stF nm (code p) st with | none => none | some st' => stkF nm code a (p + 1) st') = some s := h
    cases hs : stF nm (code p) st with
    | none => rw [hs] at h2; exact absurd h2 (by simp)
    | some t =>
      rw [hs] at h2
      show stkF nm code (a + b) (p + 1) t = _
      rw [ih b (p + 1) t s h2, show p + 1 + a = p + (a + 1) by omega]
theorem stkF_cg {nm code code' : Nat → Int32} : ∀ (n p : Nat) (st : List Int32), (∀ k, p ≤ k → k < p + n → code k = code' k) → stkF nm code n p st = stkF nm code' n p st := by
  intro n
  induction n with
  | zero => intro p st _; rfl
  | succ n ih =>
    intro p st h
    show (match stF nm (code p) st with | none => none | some st' => stkF nm code n (p + 1) st') = match stF nm (code' p) st with | none => none | some st' => stkF nm code' n (p + 1) st'
    rw [h p (Nat.le_refl _) (by omega)]
    cases stF nm (code' p) st with
    | none => rfl
    | some t => exact ih (p + 1) t (fun k h1 h2 => h k (by omega) (by omega))
theorem stkF_1 {nm code : Nat → Int32} {p : Nat} {st s : List Int32} (h : stF nm (code p) st = some s) : stkF nm code 1 p st = some s := by
  show (match stF nm (code p) st with | none => none | some st' => stkF nm code 0 (p + 1) st') = some s
  rw [h]
  rfl
theorem jg_bin {s r : Int32} (h : ¬ jgF s r = 0) : (jgF s r).toInt ≤ -9 := by
  unfold jgF at h ⊢
  by_cases c0 : r = 0
  · rw [if_pos c0] at h ⊢
    by_cases e124 : s = 124
    · rw [if_pos e124]; decide
    rw [if_neg e124] at h ⊢
    exact absurd rfl h
  rw [if_neg c0] at h ⊢
  by_cases c1 : r = 1
  · rw [if_pos c1] at h ⊢
    by_cases e38 : s = 38
    · rw [if_pos e38]; decide
    rw [if_neg e38] at h ⊢
    exact absurd rfl h
  rw [if_neg c1] at h ⊢
  by_cases c2 : r = 2
  · rw [if_pos c2] at h ⊢
    by_cases e60 : s = 60
    · rw [if_pos e60]; decide
    rw [if_neg e60] at h ⊢
    by_cases e61 : s = 61
    · rw [if_pos e61]; decide
    rw [if_neg e61] at h ⊢
    by_cases e62 : s = 62
    · rw [if_pos e62]; decide
    rw [if_neg e62] at h ⊢
    exact absurd rfl h
  rw [if_neg c2] at h ⊢
  by_cases c3 : r = 3
  · rw [if_pos c3] at h ⊢
    by_cases e43 : s = 43
    · rw [if_pos e43]; decide
    rw [if_neg e43] at h ⊢
    by_cases e45 : s = 45
    · rw [if_pos e45]; decide
    rw [if_neg e45] at h ⊢
    exact absurd rfl h
  rw [if_neg c3] at h ⊢
  by_cases e42 : s = 42
  · rw [if_pos e42]; decide
  rw [if_neg e42] at h ⊢
  by_cases e47 : s = 47
  · rw [if_pos e47]; decide
  rw [if_neg e47] at h ⊢
  by_cases e37 : s = 37
  · rw [if_pos e37]; decide
  rw [if_neg e37] at h ⊢
  exact absurd rfl h
theorem stF_bin {nm : Nat → Int32} {op x y : Int32} {st : List Int32} (h : op.toInt ≤ -9) : stF nm op (y :: x :: st) = some (opF op x y :: st) := by
  unfold stF
  rw [if_neg (by omega), if_neg (by omega)]
theorem stF_num {nm : Nat → Int32} {op : Int32} {st : List Int32} (h : 0 ≤ op.toInt) : stF nm op st = some (op :: st) := by
  unfold stF
  rw [if_pos (by omega), if_pos h]
theorem stF_nam {nm : Nat → Int32} {k : Int32} {st : List Int32} (h0 : 0 ≤ k.toInt) (h5 : k.toInt ≤ 5) : stF nm (-1 - k) st = some (nm (ix k) :: st) := by
  have e1 : (-1 : Int32).toInt = -1 := rfl
  have e : (-1 - k : Int32).toInt = -1 - k.toInt := by rw [tI_sub (by rw [e1]; omega) (by rw [e1]; omega), e1]
  have e2 : (-1 - (-1 - k) : Int32) = k := Int32.toInt_inj.mp (by rw [tI_sub (by rw [e1]; omega) (by rw [e1]; omega), e, e1]; omega)
  unfold stF
  rw [if_pos (by omega), if_neg (by omega), e2]
theorem stF_neg {nm : Nat → Int32} {a : Int32} {st : List Int32} : stF nm (-7) (a :: st) = some (-a :: st) := by
  unfold stF
  rw [if_neg (by decide), if_pos (by decide)]
  rfl
theorem stF_not {nm : Nat → Int32} {a : Int32} {st : List Int32} : stF nm (-8) (a :: st) = some (bI (a = 0) :: st) := by
  unfold stF
  rw [if_neg (by decide), if_pos (by decide)]
  rfl
/-- where the class's reader stands: its places are in their ranges, T is its text -/
def InvT (u : Nat) (T : Int32 → Int32) (I : Is) : Prop := (0 ≤ (I 3 3).toInt ∧ (I 3 3).toInt ≤ (I 3 1).toInt ∧ (I 3 1).toInt ≤ 120) ∧ (0 ≤ (I u 3).toInt ∧ (I u 3).toInt ≤ (I 3 3).toInt) ∧ T = txR (I 4) (I 3 1)
/-- from I to I2: read on, codes put behind the codes -/
def XT (u : Nat) (I I2 : Is) : Prop := (I2 3 1 = I 3 1 ∧ I2 4 = I 4) ∧ ((I 3 3).toInt ≤ (I2 3 3).toInt ∧ (I2 3 3).toInt ≤ (I 3 1).toInt) ∧ ((I u 3).toInt ≤ (I2 u 3).toInt ∧ (I2 u 3).toInt - (I u 3).toInt ≤ (I2 3 3).toInt - (I 3 3).toInt) ∧ (∀ k : Nat, (k : Int) < (I u 3).toInt → I2 (u + 1) k = I (u + 1) k) ∧ (I2 u 4 = I u 4 ∧ I2 (u + 2) = I (u + 2) ∧ I2 (u + 3) = I (u + 3))
theorem XT.inv {u : Nat} {T : Int32 → Int32} {I I2 : Is} (h : XT u I I2) (hi : InvT u T I) : InvT u T I2 := by
  obtain ⟨⟨a1, a2⟩, ⟨b1, b2⟩, ⟨c1, c2⟩, -, -⟩ := h
  obtain ⟨⟨d1, d2, d3⟩, ⟨e1, e2⟩, f⟩ := hi
  unfold InvT
  rw [a1, a2]
  exact ⟨⟨by omega, b2, d3⟩, ⟨by omega, by omega⟩, f⟩
theorem XT.rf {u : Nat} {T : Int32 → Int32} {I : Is} (h : InvT u T I) : XT u I I := ⟨⟨rfl, rfl⟩, ⟨Int.le_refl _, h.1.2.1⟩, ⟨Int.le_refl _, by omega⟩, fun _ _ => rfl, rfl, rfl, rfl⟩
theorem XT.tr {u : Nat} {I I1 I2 : Is} (h : XT u I I1) (g : XT u I1 I2) : XT u I I2 := by
  obtain ⟨⟨a1, a2⟩, ⟨b1, b2⟩, ⟨c1, c2⟩, d, e1, e2, e3⟩ := h
  obtain ⟨⟨a1', a2'⟩, ⟨b1', b2'⟩, ⟨c1', c2'⟩, d', e1', e2', e3'⟩ := g
  rw [a1] at b2'
  exact ⟨⟨a1'.trans a1, a2'.trans a2⟩, ⟨by omega, b2'⟩, ⟨by omega, by omega⟩, fun k hk => (d' k (by omega)).trans (d k hk), e1'.trans e1, e2'.trans e2, e3'.trans e3⟩
theorem XT.go {u : Nat} (hu : u = 5 ∨ u = 10) {T : Int32 → Int32} {I : Is} (hi : InvT u T I) (hl : (I 3 3).toInt < (I 3 1).toInt) : XT u I (goP I) ∧ (goP I 3 3).toInt = (I 3 3).toInt + 1 ∧ goP I u = I u ∧ goP I (u + 1) = I (u + 1) := by
  have e1 : goP I 3 3 = I 3 3 + 1 := u2_same ..
  have e2 : goP I 3 1 = I 3 1 := u2_ne _ _ _ _ (Or.inr (by decide))
  have er : ∀ c, c ≠ 3 → goP I c = I c := fun c hc => u2_row hc
  have e4 : (goP I 3 3).toInt = (I 3 3).toInt + 1 := by
    have := hi.1
    rw [e1, tI_add (by rw [one_int]; omega) (by rw [one_int]; omega), one_int]
  refine ⟨⟨⟨e2, er 4 (by decide)⟩, ⟨by omega, by omega⟩, ⟨by rw [er u (by omega)]; omega, by rw [er u (by omega)]; omega⟩, fun k _ => congrFun (er (u + 1) (by omega)) k, by rw [er u (by omega)], er _ (by omega), er _ (by omega)⟩, e4, er _ (by omega), er _ (by omega)⟩
theorem nx_T {u : Nat} {T : Int32 → Int32} {I : Is} (hi : InvT u T I) : (nxF I = T (I 3 3) ∧ (I 3 3).toInt < (I 3 1).toInt) ∨ (nxF I = -1 ∧ T (I 3 3) = 0 ∧ ¬ (I 3 3).toInt < (I 3 1).toInt) := by
  rw [hi.2.2]
  unfold nxF txR
  by_cases c : (I 3 3).toInt < (I 3 1).toInt
  · rw [if_pos c, if_pos c]; exact Or.inl ⟨rfl, c⟩
  · rw [if_neg c, if_neg c]; exact Or.inr ⟨rfl, rfl, c⟩
theorem jg_m1 (r : Int32) : jgF (-1) r = 0 := Decidable.byContradiction (fun h => jg_ne h rfl)
theorem jg_T {u : Nat} {T : Int32 → Int32} {I : Is} (hi : InvT u T I) (r : Int32) : jgF (nxF I) r = jgF (T (I 3 3)) r := by
  rcases nx_T hi with ⟨a, -⟩ | ⟨a, c, -⟩
  · rw [a]
  · rw [a, c, jg_m1, jg0]
theorem eq_T {u : Nat} {T : Int32 → Int32} {I : Is} (hi : InvT u T I) {c : Int32} (h0 : ¬ c = 0) (h1 : ¬ c = -1) : nxF I = c ↔ T (I 3 3) = c := by
  rcases nx_T hi with ⟨a, -⟩ | ⟨a, e, -⟩
  · rw [a]
  · rw [a, e]
    exact ⟨fun z => absurd z.symm h1, fun z => absurd z.symm h0⟩
theorem lt_T {u : Nat} {T : Int32 → Int32} {I : Is} (hi : InvT u T I) (h : ¬ T (I 3 3) = 0) : nxF I = T (I 3 3) ∧ (I 3 3).toInt < (I 3 1).toInt := by
  rcases nx_T hi with a | ⟨-, e, -⟩
  · exact a
  · exact absurd e h
/-- the class's reader and the reference's agree: well read, its codes make the value; else the fault is at the same place -/
def LR (u : Nat) (T : Int32 → Int32) (nm : Nat → Int32) (I0 : Is) (p0 : PS) (q : Bool) (I : Is) (v : Int32) (p : PS) : Prop :=
  (q = true ∧ XT u I0 I ∧ p.1 = I 3 3 ∧ p.2 = p0.2 ∧ ∀ st, stkF nm (I (u + 1)) (ix (I u 3) - ix (I0 u 3)) (ix (I0 u 3)) st = some (v :: st)) ∨ (q = false ∧ p.2.1 = I 3 3 ∧ 0 ≤ (I 3 3).toInt)
def SimF (u : Nat) (T : Int32 → Int32) (nm : Nat → Int32) (m : Int) (g : Is → Bool × Is) (f : PS → Int32 × PS) : Prop := ∀ (I : Is) (p : PS), InvT u T I → p.1 = I 3 3 → p.2.1.toInt < 0 → p.2.2.toInt + m = 6 → LR u T nm I p (g I).1 (g I).2 (f p).1 (f p).2
theorem addF_3 {u : Nat} (hu : u = 5 ∨ u = 10) (I : Is) (op : Int32) : addF u I op 3 = I 3 := by
  unfold addF
  split
  · rw [u2_row (by omega), u2_row (by omega)]
  · rfl
/-- a code put behind: what it does to the stack goes on what was there -/
theorem XT.add {u : Nat} (hu : u = 5 ∨ u = 10) {T : Int32 → Int32} {I0 I : Is} (hi : InvT u T I0) (h : XT u I0 I) (hl : (I u 3).toInt - (I0 u 3).toInt + 1 ≤ (I 3 3).toInt - (I0 3 3).toInt) (op : Int32) : XT u I0 (addF u I op) ∧ (addF u I op u 3).toInt = (I u 3).toInt + 1 ∧ (∀ k : Nat, addF u I op (u + 1) k = if k = ix (I u 3) then op else I (u + 1) k) := by
  obtain ⟨⟨a1, a2⟩, ⟨b1, b2⟩, ⟨c1, c2⟩, d, e1, e2, e3⟩ := h
  obtain ⟨⟨d1, d2, d3⟩, ⟨g1, g2⟩, f⟩ := hi
  have hlt : (I u 3).toInt < 120 := by omega
  have ed : addF u I op = u2 (u2 I (u + 1) (ix (I u 3)) op) u 3 (I u 3 + 1) := if_pos hlt
  have h3 : addF u I op 3 = I 3 := addF_3 hu I op
  have hn : (addF u I op u 3) = I u 3 + 1 := by rw [ed]; exact u2_same ..
  have hn2 : (I u 3 + 1).toInt = (I u 3).toInt + 1 := by rw [tI_add (by rw [one_int]; omega) (by rw [one_int]; omega), one_int]
  have hr : ∀ c, c ≠ u → c ≠ u + 1 → addF u I op c = I c := fun c h1 h2 => by rw [ed, u2_row h1, u2_row h2]
  have hc : ∀ k : Nat, addF u I op (u + 1) k = if k = ix (I u 3) then op else I (u + 1) k := fun k => by
    rw [ed, u2_row (by omega)]
    by_cases e : k = ix (I u 3)
    · rw [if_pos e, e, u2_same]
    · rw [if_neg e, u2_ne _ _ _ _ (Or.inr e)]
  have h4 : addF u I op u 4 = I u 4 := by rw [ed, u2_ne _ _ _ _ (Or.inr (by decide))]; exact congrFun (u2_row (by omega)) 4
  refine ⟨⟨⟨by rw [h3]; exact a1, (hr 4 (by omega) (by omega)).trans a2⟩, ⟨by rw [h3]; exact b1, by rw [h3]; exact b2⟩, ⟨by rw [hn, hn2]; omega, by rw [hn, hn2, h3]; omega⟩, fun k hk => ?_, h4.trans e1, (hr (u + 2) (by omega) (by omega)).trans e2, (hr (u + 3) (by omega) (by omega)).trans e3⟩, by rw [hn, hn2], hc⟩
  rw [hc k, if_neg (fun e => by have := ix_nn (show 0 ≤ (I u 3).toInt by omega); omega)]
  exact d k hk
theorem lpF_no {u : Nat} {sub : Is → Bool × Is} {r : Int32} {n : Nat} {I : Is} : lpF u sub r n false I = (false, I) := by
  cases n with
  | zero => rfl
  | succ n => exact if_neg Bool.false_ne_true
theorem lp_sim {u : Nat} (hu : u = 5 ∨ u = 10) {T : Int32 → Int32} {nm : Nat → Int32} {m : Int} {g : Is → Bool × Is} {f : PS → Int32 × PS} (hs : SimF u T nm m g f) (r : Int32) {I0 : Is} {p0 : PS} (hi0 : InvT u T I0) (hf : p0.2.1.toInt < 0) (ho : p0.2.2.toInt + m = 6) :
    ∀ (n : Nat) (q : Bool) (I : Is) (v : Int32) (p : PS), LR u T nm I0 p0 q I v p → LR u T nm I0 p0 (lpF u g r n q I).1 (lpF u g r n q I).2 (lpM T f r n v p).1 (lpM T f r n v p).2 := by
  intro n
  induction n with
  | zero => intro q I v p h; exact h
  | succ n ih =>
    intro q I v p h
    rcases h with ⟨rfl, hX, hp1, hp2, hst⟩ | ⟨rfl, h1, h2⟩
    · have hi := hX.inv hi0
      have hjt := jg_T hi r
      have hL : lpF u g r (n + 1) true I = if jgF (nxF I) r = 0 then (true, I) else lpF u g r n (g (goP I)).1 (addF u (g (goP I)).2 (jgF (nxF I) r)) := if_pos rfl
      rw [hL]
      by_cases hj : jgF (nxF I) r = 0
      · rw [if_pos hj, lpM_stop (fun z => z.2 (by rw [hp1, ← hjt]; exact hj))]
        exact Or.inl ⟨rfl, hX, hp1, hp2, hst⟩
      · rw [if_neg hj]
        have hM : lpM T f r (n + 1) v p = lpM T f r n (opF (jgF (T p.1) r) v (f (p.1 + 1, p.2.1, p.2.2)).1) (f (p.1 + 1, p.2.1, p.2.2)).2 := if_pos ⟨by rw [hp2]; exact hf, by rw [hp1, ← hjt]; exact hj⟩
        rw [hM]
        have hlt := (lt_T hi (fun e => hj (by rw [hjt, e, jg0]))).2
        obtain ⟨hG, hg1, hg2, hg3⟩ := XT.go hu hi hlt
        have hgo : goP I 3 3 = I 3 3 + 1 := u2_same ..
        have hsub := hs (goP I) (p.1 + 1, p.2.1, p.2.2) (hG.inv hi) (by rw [hgo, hp1]) (by show p.2.1.toInt < 0; rw [hp2]; exact hf) (by show p.2.2.toInt + m = 6; rw [hp2]; exact ho)
        generalize g (goP I) = gr at *
        generalize f (p.1 + 1, p.2.1, p.2.2) = fr at *
        refine ih _ _ _ _ ?_
        rcases hsub with ⟨hq, hX2, hk1, hk2, hk3⟩ | ⟨hq, hk1, hk2⟩
        · have hX3 : XT u I gr.2 := hG.tr hX2
          have hlen : (gr.2 u 3).toInt - (I u 3).toInt + 1 ≤ (gr.2 3 3).toInt - (I 3 3).toInt := by
            have h9 := hX2.2.2.1.2
            rw [hg2, hg1] at h9
            omega
          have hX4 := hX.tr hX3
          obtain ⟨hXa, hn, hcd⟩ := XT.add hu hi0 hX4 (by have := hX.2.2.1.2; omega) (jgF (nxF I) r)
          refine Or.inl ⟨hq, hXa, hk1.trans (by rw [addF_3 hu]), hk2.trans hp2, fun st => ?_⟩
          have r0 : 0 ≤ (I0 u 3).toInt := hi0.2.1.1
          have r1 := hX.2.2.1.1
          have r2 := hX3.2.2.1.1
          have n0 := ix_nn r0
          have n1 := ix_nn (show 0 ≤ (I u 3).toInt by omega)
          have n2 := ix_nn (show 0 ≤ (gr.2 u 3).toInt by omega)
          have n3 := ix_nn (show 0 ≤ (addF u gr.2 (jgF (nxF I) r) u 3).toInt by omega)
          rw [show ix (addF u gr.2 (jgF (nxF I) r) u 3) - ix (I0 u 3) = (ix (I u 3) - ix (I0 u 3)) + ((ix (gr.2 u 3) - ix (I u 3)) + 1) by omega]
          have s1 : stkF nm (addF u gr.2 (jgF (nxF I) r) (u + 1)) (ix (I u 3) - ix (I0 u 3)) (ix (I0 u 3)) st = some (v :: st) := by
            rw [stkF_cg (code' := I (u + 1)) _ _ _ (fun k h1 h2 => by rw [hcd k, if_neg (by omega)]; exact hX3.2.2.2.1 k (by omega))]
            exact hst st
          rw [stkF_app _ _ _ _ _ s1]
          have s2 : stkF nm (addF u gr.2 (jgF (nxF I) r) (u + 1)) (ix (gr.2 u 3) - ix (I u 3)) (ix (I0 u 3) + (ix (I u 3) - ix (I0 u 3))) (v :: st) = some (fr.1 :: v :: st) := by
            rw [show ix (I0 u 3) + (ix (I u 3) - ix (I0 u 3)) = ix (I u 3) by omega]
            rw [stkF_cg (code' := gr.2 (u + 1)) _ _ _ (fun k h1 h2 => by rw [hcd k, if_neg (by omega)])]
            have h9 := hk3 (v :: st)
            rw [hg2] at h9
            exact h9
          rw [stkF_app _ _ _ _ _ s2]
          refine stkF_1 ?_
          rw [show ix (I0 u 3) + (ix (I u 3) - ix (I0 u 3)) + (ix (gr.2 u 3) - ix (I u 3)) = ix (gr.2 u 3) by omega, hcd, if_pos rfl, stF_bin (jg_bin hj), hjt, hp1]
        · exact Or.inr ⟨hq, by rw [addF_3 hu]; exact hk1, by rw [addF_3 hu]; exact hk2⟩
    · rw [lpF_no, lpM_stop (fun z => by have := z.1; rw [h1] at this; omega)]
      exact Or.inr ⟨rfl, h1, h2⟩
theorem jn_sim {u : Nat} (hu : u = 5 ∨ u = 10) {T : Int32 → Int32} {nm : Nat → Int32} {m : Int} {g : Is → Bool × Is} {f : PS → Int32 × PS} (hs : SimF u T nm m g f) : ∀ k, SimF u T nm m (jnF u g k) (jnM T f k) := by
  intro k
  induction k with
  | zero => exact hs
  | succ k ih =>
    intro I p hi hp hf ho
    exact lp_sim hu ih (nI (4 - k)) hi hf ho (if k = 2 then 1 else 120) _ _ _ _ (ih I p hi hp hf ho)
