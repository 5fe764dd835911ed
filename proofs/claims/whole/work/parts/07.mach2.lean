section RULES2
variable {X : Cx} {own : String} {cc : ByteArray} {nL d n1 : Nat} {pc : Nat} {L : List (Option Value)} {S : List Value} {σ : St} {n : Nat} {I : Nat → Nat → Int32} {J : Nat → Nat → Int64} {R : Nat → Nat → Option Nat}
/-- the place that an index names -/
abbrev ix (i : Int32) : Nat := i.toNatClampNeg
theorem cv_ref {g : Gb} {r : Nat} : cv g (.ref r) = .ref (ad g r) := rfl
theorem r_gets (C : Ok X own cc nL d n1) {idx j : Nat} (hj : Nat.blt j 5 = true) (hw : Cond.fieldLink own idx (sCn j) (sNm j) "[I" ∈ Wall) (hd : decode cc pc = .ok (.getstatic idx, 3)) (k : Aw X (pc + 3) L (.ref (1000 + j) :: S) σ) : Aw X pc L S σ := by
  intro H locs ls h1 h2 h3
  have hj5 : j < 5 := Nat.le_of_ble_eq_true hj
  have e : ad (x_g X) (1000 + j) = g_ro (x_g X) j := by
    unfold ad
    rw [if_neg (by omega), Nat.add_sub_cancel_left]
  have k' := k H locs ls h1 h2 h3
  have e2 : (Value.ref (1000 + j) :: S).map (cv (x_g X)) = .ref (g_ro (x_g X) j) :: S.map (cv (x_g X)) := by rw [List.map_cons, cv_ref, e]
  rw [e2] at k'
  exact va_gets (o_x C) (o_b C) ((o_Ro C).1 j hj5) h2 (o_own C) (o_ts C _ hw) (fun _ h => h) hd k'
theorem cv_lo {g : Gb} {t : Nat} (h : t < 1000) : cv g (.ref t) = .ref (g_b g + t) := by rw [cv_ref, ad_lo h]
theorem r_iald (C : Ok X own cc nL d n1) {t : Nat} {i : Int32} (hc : chk n t 20 = true) (hd : decode cc pc = .ok (.iaload, 1)) (hi : vp_in i (ln t)) (k : Aw X (pc + 1) L (.int (I t (ix i)) :: S) (n, I, J, R)) : Aw X pc L (.int i :: .ref t :: S) (n, I, J, R) := by
  intro H locs ls h1 h2 h3
  have hkd := chk_kd hc
  show W _ _ _ _ _ _ _ _ _ _ _ _ _ _ _ (F0 _ pc ls (.int i :: cv (x_g X) (.ref t) :: S.map (cv (x_g X))))
  rw [cv_lo (kd_lo hkd (by omega))]
  exact va_iald (D := g_D (x_g X)) (o_x C) (o_b C) (o_K C) (wd_P h1 (chk_lt hc) (cellOf_i hkd)) 0 0 rfl rfl hi hd (k H locs ls h1 h2 h3)
theorem r_zald (C : Ok X own cc nL d n1) {t : Nat} {i : Int32} (hc : chk n t 22 = true) (hd : decode cc pc = .ok (.baload, 1)) (hi : vp_in i (ln t)) (k : Aw X (pc + 1) L (.int (I t (ix i)) :: S) (n, I, J, R)) : Aw X pc L (.int i :: .ref t :: S) (n, I, J, R) := by
  intro H locs ls h1 h2 h3
  have hkd := chk_kd hc
  show W _ _ _ _ _ _ _ _ _ _ _ _ _ _ _ (F0 _ pc ls (.int i :: cv (x_g X) (.ref t) :: S.map (cv (x_g X))))
  rw [cv_lo (kd_lo hkd (by omega))]
  exact va_zald (D := g_D (x_g X)) (o_x C) (o_b C) (o_K C) (wd_P h1 (chk_lt hc) (cellOf_z hkd)) 0 2 rfl rfl hi hd (k H locs ls h1 h2 h3)
theorem r_lald (C : Ok X own cc nL d n1) {t : Nat} {i : Int32} (hc : chk n t 21 = true) (hd : decode cc pc = .ok (.laload, 1)) (hi : vp_in i (ln t)) (k : Aw X (pc + 1) L (.long (J t (ix i)) :: S) (n, I, J, R)) : Aw X pc L (.int i :: .ref t :: S) (n, I, J, R) := by
  intro H locs ls h1 h2 h3
  have hkd := chk_kd hc
  show W _ _ _ _ _ _ _ _ _ _ _ _ _ _ _ (F0 _ pc ls (.int i :: cv (x_g X) (.ref t) :: S.map (cv (x_g X))))
  rw [cv_lo (kd_lo hkd (by omega))]
  exact va_lald (D := g_D (x_g X)) (o_x C) (o_b C) (o_K C) (wd_P h1 (chk_lt hc) (cellOf_l hkd)) 0 1 rfl rfl hi hd (k H locs ls h1 h2 h3)
theorem r_qald (C : Ok X own cc nL d n1) {t r : Nat} {i : Int32} (hc : chk n t 23 = true) (hd : decode cc pc = .ok (.aaload, 1)) (hi : vp_in i (ln t)) (hr : R t (ix i) = some r) (k : Aw X (pc + 1) L (.ref r :: S) (n, I, J, R)) : Aw X pc L (.int i :: .ref t :: S) (n, I, J, R) := by
  intro H locs ls h1 h2 h3
  have hkd := chk_kd hc
  show W _ _ _ _ _ _ _ _ _ _ _ _ _ _ _ (F0 _ pc ls (.int i :: cv (x_g X) (.ref t) :: S.map (cv (x_g X))))
  rw [cv_lo (kd_lo hkd (by omega))]
  refine va_aldq (D := g_D (x_g X)) (C := "TwoStraws$Shelf") (o_x C) (o_b C) (o_K C) (wd_P h1 (chk_lt hc) (cellOf_q hkd)) 0 3 rfl rfl hi hd ?_
  have k' := k H locs ls h1 h2 h3
  rw [show va_rf ((R t (ix i)).map (ad (x_g X))) = cv (x_g X) (.ref r) by rw [hr]; rfl]
  exact k'
theorem r_iaro (C : Ok X own cc nL d n1) {j : Nat} {i : Int32} (hj : Nat.blt j 6 = true) (hd : decode cc pc = .ok (.iaload, 1)) (hi : vp_in i (roL (x_g X) j)) (k : Aw X (pc + 1) L (.int (roF (x_g X) j (ix i)) :: S) σ) : Aw X pc L (.int i :: .ref (1000 + j) :: S) σ := by
  intro H locs ls h1 h2 h3
  have hj6 : j < 6 := Nat.le_of_ble_eq_true hj
  have e : ad (x_g X) (1000 + j) = g_ro (x_g X) j := by
    unfold ad
    rw [if_neg (by omega), Nat.add_sub_cancel_left]
  obtain ⟨⟨scr, q1, q2, q3, q4, q5⟩, hlt⟩ := (o_Ro C).2.1 j hj6
  have hlt2 : i.toNatClampNeg < roL (x_g X) j := Nat.not_le.mp fun q => hi (Or.inr q)
  show W _ _ _ _ _ _ _ _ _ _ _ _ _ _ _ (F0 _ pc ls (.int i :: .ref (ad (x_g X) (1000 + j)) :: S.map (cv (x_g X))))
  rw [e]
  exact W.iald (v := .int (roF (x_g X) j i.toNatClampNeg)) (o_x C) (o_b C) (by rw [h2.2.1 _ (Nat.lt_of_lt_of_le hlt (o_sz C)) (Nat.not_le.mpr hlt)]; exact q1) q2 q3 (fun z => z.elim (fun z => hi (Or.inl z)) (fun z => hi (Or.inr (Nat.le_trans q4.1 z)))) (q5 _ hlt2) rfl rfl hd (k H locs ls h1 h2 h3)
theorem r_alro (C : Ok X own cc nL d n1) {j : Nat} (hj : Nat.blt j 6 = true) (hd : decode cc pc = .ok (.arraylength, 1)) (k : Aw X (pc + 1) L (.int (Int32.ofNat (roL (x_g X) j)) :: S) σ) : Aw X pc L (.ref (1000 + j) :: S) σ := by
  intro H locs ls h1 h2 h3
  have hj6 : j < 6 := Nat.le_of_ble_eq_true hj
  have e : ad (x_g X) (1000 + j) = g_ro (x_g X) j := by
    unfold ad
    rw [if_neg (by omega), Nat.add_sub_cancel_left]
  obtain ⟨⟨scr, q1, q2, q3, q4, q5⟩, hlt⟩ := (o_Ro C).2.1 j hj6
  show W _ _ _ _ _ _ _ _ _ _ _ _ _ _ _ (F0 _ pc ls (.ref (ad (x_g X) (1000 + j)) :: S.map (cv (x_g X))))
  rw [e]
  exact W.alen (n := Int32.ofNat (roL (x_g X) j)) (o_x C) (o_b C) (by rw [h2.2.1 _ (Nat.lt_of_lt_of_le hlt (o_sz C)) (Nat.not_le.mpr hlt)]; exact q1) q2 q4.2 rfl rfl hd (k H locs ls h1 h2 h3)
theorem r_alen (C : Ok X own cc nL d n1) {t : Nat} (hc : chk n t 20 = true) (hd : decode cc pc = .ok (.arraylength, 1)) (k : Aw X (pc + 1) L (.int (Int32.ofNat (ln t)) :: S) (n, I, J, R)) : Aw X pc L (.ref t :: S) (n, I, J, R) := by
  intro H locs ls h1 h2 h3
  have hkd := chk_kd hc
  show W _ _ _ _ _ _ _ _ _ _ _ _ _ _ _ (F0 _ pc ls (cv (x_g X) (.ref t) :: S.map (cv (x_g X))))
  rw [cv_lo (kd_lo hkd (by omega))]
  exact va_alen (D := g_D (x_g X)) (o_x C) (o_b C) (o_K C) (wd_P h1 (chk_lt hc) (cellOf_i hkd)) 0 0 rfl rfl rfl hd (k H locs ls h1 h2 h3)
theorem updV_u2 {α : Type} (mk : α → Value) (f : Nat → Nat → α) (t k : Nat) (v : α) : updV (fun j => mk (f t j)) k (mk v) = fun j => mk (u2 f t k v t j) := by
  funext j
  unfold updV u2
  rw [if_pos rfl]
  by_cases h : j = k
  · rw [if_pos h, if_pos h]
  · rw [if_neg h, if_neg h]
theorem r_iast (C : Ok X own cc nL d n1) {t : Nat} {i x : Int32} (hc : chk n t 20 = true) (hd : decode cc pc = .ok (.iastore, 1)) (hi : vp_in i (ln t)) (k : Aw X (pc + 1) L S (n, u2 I t (ix i) x, J, R)) : Aw X pc L (.int x :: .int i :: .ref t :: S) (n, I, J, R) := by
  intro H locs ls h1 h2 h3
  have hkd := chk_kd hc
  show W _ _ _ _ _ _ _ _ _ _ _ _ _ _ _ (F0 _ pc ls (.int x :: .int i :: cv (x_g X) (.ref t) :: S.map (cv (x_g X))))
  rw [cv_lo (kd_lo hkd (by omega))]
  have hP := wd_P h1 (chk_lt hc) (cellOf_i hkd)
  refine W.iast (o_x C) (o_b C) (hP 0 _ rfl) (((o_K C).2 0 _ rfl).1 (ln t) (fun j => .int (I t j))) (fun q => by cases q) (by show ¬ (i < 0 ∨ (arrV _ _ _).slots.size ≤ _); rw [arrV_size]; exact hi) rfl rfl hd fun H1 e z oq => ?_
  refine k H1 _ ls (h1.upd (σ' := (n, u2 I t (ix i) x, J, R)) rfl z oq ?_ (fun t' ht' => cellOf_congr (u2_row ht') rfl rfl)) (h2.put z oq (Nat.le_add_right _ _)) h3
  rw [cellOf_i hkd]
  show H1[_]? = some (vp_cell _ _)
  rw [e, vp_cell_i, vp_cell_i, arrV_store]
  exact congrArg (fun f => some (arrV _ _ f)) (updV_u2 Value.int I t (ix i) x)
theorem r_zast (C : Ok X own cc nL d n1) {t : Nat} {i x : Int32} (hc : chk n t 22 = true) (hd : decode cc pc = .ok (.bastore, 1)) (hi : vp_in i (ln t)) (hx : narrow .boolean (.int x) = .int x) (k : Aw X (pc + 1) L S (n, u2 I t (ix i) x, J, R)) : Aw X pc L (.int x :: .int i :: .ref t :: S) (n, I, J, R) := by
  intro H locs ls h1 h2 h3
  have hkd := chk_kd hc
  show W _ _ _ _ _ _ _ _ _ _ _ _ _ _ _ (F0 _ pc ls (.int x :: .int i :: cv (x_g X) (.ref t) :: S.map (cv (x_g X))))
  rw [cv_lo (kd_lo hkd (by omega))]
  have hP := wd_P h1 (chk_lt hc) (cellOf_z hkd)
  refine W.zast (o_x C) (o_b C) (hP 0 _ rfl) (((o_K C).2 2 _ rfl).1 (ln t) (fun j => .int (I t j))) (fun q => by cases q) (by show ¬ (i < 0 ∨ (arrV _ _ _).slots.size ≤ _); rw [arrV_size]; exact hi) rfl rfl hd fun H1 e z oq => ?_
  refine k H1 _ ls (h1.upd (σ' := (n, u2 I t (ix i) x, J, R)) rfl z oq ?_ (fun t' ht' => cellOf_congr (u2_row ht') rfl rfl)) (h2.put z oq (Nat.le_add_right _ _)) h3
  rw [cellOf_z hkd]
  show H1[_]? = some (vp_cell _ _)
  rw [e, hx, vp_cell_i, vp_cell_i, arrV_store]
  exact congrArg (fun f => some (arrV _ _ f)) (updV_u2 Value.int I t (ix i) x)
theorem r_last (C : Ok X own cc nL d n1) {t : Nat} {i : Int32} {x : Int64} (hc : chk n t 21 = true) (hd : decode cc pc = .ok (.lastore, 1)) (hi : vp_in i (ln t)) (k : Aw X (pc + 1) L S (n, I, u2 J t (ix i) x, R)) : Aw X pc L (.long x :: .int i :: .ref t :: S) (n, I, J, R) := by
  intro H locs ls h1 h2 h3
  have hkd := chk_kd hc
  show W _ _ _ _ _ _ _ _ _ _ _ _ _ _ _ (F0 _ pc ls (.long x :: .int i :: cv (x_g X) (.ref t) :: S.map (cv (x_g X))))
  rw [cv_lo (kd_lo hkd (by omega))]
  have hP := wd_P h1 (chk_lt hc) (cellOf_l hkd)
  refine W.last (o_x C) (o_b C) (hP 0 _ rfl) (((o_K C).2 1 _ rfl).1 (ln t) (fun j => .long (J t j))) (fun q => by cases q) (by show ¬ (i < 0 ∨ (arrV _ _ _).slots.size ≤ _); rw [arrV_size]; exact hi) rfl rfl hd fun H1 e z oq => ?_
  refine k H1 _ ls (h1.upd (σ' := (n, I, u2 J t (ix i) x, R)) rfl z oq ?_ (fun t' ht' => cellOf_congr rfl (u2_row ht') rfl)) (h2.put z oq (Nat.le_add_right _ _)) h3
  rw [cellOf_l hkd]
  show H1[_]? = some (vp_cell _ _)
  rw [e, vp_cell_l, vp_cell_l, arrV_store]
  exact congrArg (fun f => some (arrV _ _ f)) (updV_u2 Value.long J t (ix i) x)
theorem r_qast (C : Ok X own cc nL d n1) {t r : Nat} {i : Int32} (hc : chk n t 23 = true) (hr : chk n r 4 = true) (hd : decode cc pc = .ok (.aastore, 1)) (hi : vp_in i (ln t)) (k : Aw X (pc + 1) L S (n, I, J, u2 R t (ix i) (some r))) : Aw X pc L (.ref r :: .int i :: .ref t :: S) (n, I, J, R) := by
  intro H locs ls h1 h2 h3
  have hkd := chk_kd hc
  have hkr := chk_kd hr
  show W _ _ _ _ _ _ _ _ _ _ _ _ _ _ _ (F0 _ pc ls (cv (x_g X) (.ref r) :: .int i :: cv (x_g X) (.ref t) :: S.map (cv (x_g X))))
  rw [cv_lo (kd_lo hkd (by omega)), cv_lo (kd_lo hkr (by omega))]
  have hP := wd_P h1 (chk_lt hc) (cellOf_q hkd)
  have hPr := wd_P h1 (chk_lt hr) (cellOf_obj hkr (by omega))
  have hlt : ix i < ln t := Nat.not_le.mp fun q => hi (Or.inr q)
  have h0 : ¬ i < 0 := fun q => hi (Or.inl q)
  obtain ⟨r', hr', cellV, g1, g2, g3, -⟩ := hPr 0 _ rfl
  have hcls := ((o_K C).1 4 _ rfl).2
  obtain ⟨kA, comp, k1, k2, k3, -⟩ := ((o_K C).2 3 _ rfl).2
  have hcomp : comp = (g_D (x_g X)).1 4 := Option.some.inj (k3.symm.trans hcls.1)
  subst hcomp
  obtain ⟨kC, hkC, -⟩ := hcls.2
  refine W.aast (o_x C) (o_b C) (hP 0 _ rfl) (fun q h => by cases h) (fun h => by cases h) k1 k2 rfl hkC ⟨h0, by show _ < (arrV _ _ _).slots.size; rw [arrV_size]; exact hlt⟩ g1 (fun q h => by rw [g3] at h; cases h) (by rw [g2]; exact hkC) (by rw [g2]; exact va_assign hcls) rfl rfl hd fun H1 e z oq => ?_
  refine k H1 _ ls (h1.upd (σ' := (n, I, J, u2 R t (ix i) (some r))) rfl z oq ?_ (fun t' ht' => cellOf_congr rfl rfl (u2_row ht'))) (h2.put z oq (Nat.le_add_right _ _)) h3
  rw [cellOf_q hkd]
  show H1[_]? = some (vp_cell _ _)
  rw [e, vp_cell_q, vp_cell_q, arrV_store]
  have e9 := updV_u2 (fun o => va_rf (o.map (ad (x_g X)))) R t (ix i) (some r)
  have e8 : va_rf ((some r).map (ad (x_g X))) = .ref (g_b (x_g X) + r) := by
    show Value.ref (ad (x_g X) r) = _
    rw [ad_lo (kd_lo hkr (by omega))]
  rw [e8] at e9
  exact congrArg (fun f => some (arrV _ _ f)) e9
/-! making cells -/
theorem ss_step (t : Nat) (h : t < 91) : ss (t + 1) = ss t + szc (KD.getD t (99, 0)) := by
  have hl : t < KD.length := h
  unfold ss
  rw [List.take_add_one, List.getElem?_eq_getElem hl, List.map_append, List.sum_append, List.getD_eq_getElem?_getD, List.getElem?_eq_getElem hl]
  simp only [Option.toList_some, List.map_cons, List.map_nil, List.sum_cons, List.sum_nil, Option.getD_some, Nat.add_zero]
theorem ss_mono {a b : Nat} (h : a ≤ b) (hb : b ≤ 91) : ss a ≤ ss b := by
  induction b with
  | zero => rw [Nat.le_zero.mp h]; exact Nat.le_refl _
  | succ b ih =>
    by_cases e : a = b + 1
    · rw [e]; exact Nat.le_refl _
    · have := ih (by omega) (by omega)
      rw [ss_step b (by omega)]
      omega
theorem defv : ∀ c, c < 11 → ∀ j, j < nfOf c → defaultValue (tyOf c j) = (if isI (tyOf c j) = true then .int 0 else .null) := by decide +kernel
theorem Wd.push {g : Gb} {n : Nat} {I : Nat → Nat → Int32} {J : Nat → Nat → Int64} {R : Nat → Nat → Option Nat} {H H1 : Heap} (h : Wd g (n, I, J, R) H) (hn : n < 91) (hz : H1.size = g_b g + n + 1) (ho : ∀ q : Nat, q < g_b g + n → H1[q]? = H[q]?) (hc : va_at (g_D g) vwCl (g_b g + n, cellOf g (n, I, J, R) n) H1) : Wd g (n + 1, I, J, R) H1 := by
  refine ⟨fun _ => hz, fun t ht => ?_⟩
  have e : ∀ t, cellOf g (n + 1, I, J, R) t = cellOf g (n, I, J, R) t := fun t => cellOf_congr rfl rfl rfl
  rw [e]
  by_cases hlt : t < n
  · exact (h.2 t hlt).kept (ho _ (show g_b g + t < g_b g + n by omega))
  · have ht' : t < n + 1 := ht
    have : t = n := by omega
    subst this
    exact hc
theorem va_S.grow {A : Nat → Prop} {H0 H H1 : Heap} {locs : List Loc} (h : va_S A H0 H locs) (z : H.size ≤ H1.size) (o1 : ∀ q : Nat, q < H.size → H1[q]? = H[q]?) : va_S A H0 H1 locs :=
  ⟨Nat.le_trans h.1 z, fun x g1 g2 => (o1 x (Nat.lt_of_lt_of_le g1 h.1)).trans (h.2.1 x g1 g2), h.2.2⟩
theorem r_new (C : Ok X own cc nL d n1) {idx c : Nat} (hc : c < 11) (hk : kd n = c) (h0 : x_n X ≤ n) (hn : n < n1) (hn1 : n1 ≤ 91) (w1 : Cond.classLink own idx (nmOf c) ∈ Wall) (w2 : Cond.instantiable (nmOf c) (nfOf c) ∈ Wall) (w3 : Cond.initialized (nmOf c) ∈ Wall) (hd : decode cc pc = .ok (.new idx, 3))
    (hI : ∀ k, I n k = 0) (hR : ∀ k, R n k = none) (k : Aw X (pc + 3) L (.ref n :: S) (n + 1, I, J, R)) : Aw X pc L S (n, I, J, R) := by
  intro H locs ls h1 h2 h3
  have hKn := (o_K C).1 c _ (cl_of c hc)
  have hz : H.size = g_b (x_g X) + n := h1.1 (show n < 91 by omega)
  have hs : ss (n + 1) = ss n + nfOf c := by
    rw [ss_step n (by omega)]
    have e : (KD.getD n (99, 0)).1 = c := hk
    unfold szc
    rw [e, if_pos (by omega)]
  have m1 : ss (x_n X) ≤ ss n := ss_mono h0 (by omega)
  have m2 : ss (n + 1) ≤ ss n1 := ss_mono hn hn1
  obtain ⟨-, -, r3, r4⟩ := o_rm C
  refine W.newcK (o_x C) (o_b C) (o_own C) (o_ts C _ w1) (o_ts C _ w2) (o_ts C _ w3) rfl hd (by show n - x_n X + 1 ≤ _; omega) (by show ss n - ss (x_n X) + _ ≤ _; omega) hKn.2.1 hz fun H1 kC hkC e1 z1 o1 => ?_
  have hcell : va_at (g_D (x_g X)) vwCl (g_b (x_g X) + n, cellOf (x_g X) (n, I, J, R) n) H1 := by
    rw [cellOf_obj hk hc]
    refine ⟨_, cl_of c hc, (u_born (tyOf c) (o_ts C) (fw_all c hc) hKn hkC e1 (ty_ok c hc)).to (fun j hj => ?_)⟩
    show _ = (fvs (x_g X) (n, I, J, R) c n).getD j .null
    rw [List.getD_eq_getElem?_getD, fvs_at hj, defv c hc j hj]
    show _ = fv (x_g X) (n, I, J, R) c n j
    unfold fv
    show _ = if isI (tyOf c j) = true then Value.int (I n j) else match R n j with | none => .null | some r => .ref (ad (x_g X) r)
    rw [hI j, hR j]
  have k' := k H1 locs ls (h1.push (by omega) z1 (fun q hq => o1 q hq) hcell) (h2.grow (by omega) (fun q hq => o1 q (by omega))) h3
  have e4 : (n + 1, I, J, R).1 - x_n X = n - x_n X + 1 := by show n + 1 - x_n X = _; omega
  have e5 : ss (n + 1, I, J, R).1 - ss (x_n X) = ss n - ss (x_n X) + nfOf c := by show ss (n + 1) - _ = _; omega
  rw [e4, e5] at k'
  have hlo : n < 1000 := by omega
  have e6 : (Value.ref n :: S).map (cv (x_g X)) = .ref (g_b (x_g X) + n) :: S.map (cv (x_g X)) := by rw [List.map_cons, cv_lo hlo]
  rw [e6] at k'
  exact k'
theorem newarr_core (C : Ok X own cc nL d n1) {atype : ArrayType} {m : Int32} {N tj : Nat} {cj : ClassId} (htj : (tysG (x_g X))[tj]? = some (cj, newarray.typeOf atype)) (hnm : va_RA (x_s X) cj (newarray.typeOf atype) → (x_s X).vm.findClass ("[" ++ (newarray.typeOf atype).toString) = some cj) (hln : ln n = N) (hkd : 20 ≤ kd n) (hm0 : ¬ m < 0) (hmN : m.toNatClampNeg = N) (hbytes : N * componentBytes (newarray.typeOf atype) ≤ 536870912) (h0 : x_n X ≤ n) (hn : n < n1) (hn1 : n1 ≤ 91) (w1 : Cond.arrayClass (newarray.typeOf atype) ∈ Wall) (hd : decode cc pc = .ok (.newarray atype, 2))
    (hcell : ∀ H1 : Heap, H1[g_b (x_g X) + n]? = some (arrV cj N (fun _ => defaultValue (newarray.typeOf atype))) → va_at (g_D (x_g X)) vwCl (g_b (x_g X) + n, cellOf (x_g X) (n, I, J, R) n) H1) (k : Aw X (pc + 2) L (.ref n :: S) (n + 1, I, J, R)) : Aw X pc L (.int m :: S) (n, I, J, R) := by
  intro H locs ls h1 h2 h3
  have hz : H.size = g_b (x_g X) + n := h1.1 (show n < 91 by omega)
  have hs : ss (n + 1) = ss n + N := by
    rw [ss_step n (by omega)]
    have e : ¬ (KD.getD n (99, 0)).1 < 20 := Nat.not_lt.mpr hkd
    unfold szc
    rw [if_neg e]
    exact congrArg (ss n + ·) hln
  have m1 : ss (x_n X) ≤ ss n := ss_mono h0 (by omega)
  have m2 : ss (n + 1) ≤ ss n1 := ss_mono hn hn1
  obtain ⟨-, -, r3, r4⟩ := o_rm C
  refine va_newaK (o_x C) (o_b C) (o_ts C _ w1) rfl hd rfl hm0 hmN hbytes (by show n - x_n X + 1 ≤ _; omega) (by show ss n - ss (x_n X) + _ ≤ _; omega) hz fun H1 cA e1 z1 o1 hAr hNm => ?_
  have hcA : cA = cj := Option.some.inj (hNm.symm.trans (hnm ((o_K C).2 tj _ htj).2))
  subst hcA
  have k' := k H1 locs ls (h1.push (by omega) z1 (fun q hq => o1 q hq) (hcell H1 e1)) (h2.grow (by omega) (fun q hq => o1 q (by omega))) h3
  have e4 : (n + 1, I, J, R).1 - x_n X = n - x_n X + 1 := by show n + 1 - x_n X = _; omega
  have e5 : ss (n + 1, I, J, R).1 - ss (x_n X) = ss n - ss (x_n X) + N := by show ss (n + 1) - _ = _; omega
  rw [e4, e5] at k'
  have hlo : n < 1000 := by omega
  have e6 : (Value.ref n :: S).map (cv (x_g X)) = .ref (g_b (x_g X) + n) :: S.map (cv (x_g X)) := by rw [List.map_cons, cv_lo hlo]
  rw [e6] at k'
  exact k'
theorem arrV_congr {c : ClassId} {N : Nat} {f g : Nat → Value} (h : ∀ j, f j = g j) : arrV c N f = arrV c N g := congrArg (arrV c N) (funext h)
theorem r_newi (C : Ok X own cc nL d n1) {m : Int32} {N : Nat} (hkd : kd n = 20) (hln : ln n = N) (hm0 : ¬ m < 0) (hmN : m.toNatClampNeg = N) (hb : N * 4 ≤ 536870912) (h0 : x_n X ≤ n) (hn : n < n1) (hn1 : n1 ≤ 91) (w1 : Cond.arrayClass .int ∈ Wall) (hd : decode cc pc = .ok (.newarray .int, 2)) (hI : ∀ k, I n k = 0) (k : Aw X (pc + 2) L (.ref n :: S) (n + 1, I, J, R)) : Aw X pc L (.int m :: S) (n, I, J, R) := by
  refine newarr_core C (atype := .int) (tj := 0) rfl (fun h => h) hln (by omega) hm0 hmN hb h0 hn hn1 w1 hd (fun H1 e1 => ?_) k
  rw [cellOf_i hkd, hln]
  show H1[_]? = some (vp_cell _ _)
  rw [e1, vp_cell_i]
  exact congrArg some (arrV_congr fun j => by show Value.int 0 = Value.int (I n j); rw [hI j])
theorem r_newl (C : Ok X own cc nL d n1) {m : Int32} {N : Nat} (hkd : kd n = 21) (hln : ln n = N) (hm0 : ¬ m < 0) (hmN : m.toNatClampNeg = N) (hb : N * 8 ≤ 536870912) (h0 : x_n X ≤ n) (hn : n < n1) (hn1 : n1 ≤ 91) (w1 : Cond.arrayClass .long ∈ Wall) (hd : decode cc pc = .ok (.newarray .long, 2)) (hI : ∀ k, J n k = 0) (k : Aw X (pc + 2) L (.ref n :: S) (n + 1, I, J, R)) : Aw X pc L (.int m :: S) (n, I, J, R) := by
  refine newarr_core C (atype := .long) (tj := 1) rfl (fun h => h) hln (by omega) hm0 hmN hb h0 hn hn1 w1 hd (fun H1 e1 => ?_) k
  rw [cellOf_l hkd, hln]
  show H1[_]? = some (vp_cell _ _)
  rw [e1, vp_cell_l]
  exact congrArg some (arrV_congr fun j => by show Value.long 0 = Value.long (J n j); rw [hI j])
theorem r_newz (C : Ok X own cc nL d n1) {m : Int32} {N : Nat} (hkd : kd n = 22) (hln : ln n = N) (hm0 : ¬ m < 0) (hmN : m.toNatClampNeg = N) (hb : N * 1 ≤ 536870912) (h0 : x_n X ≤ n) (hn : n < n1) (hn1 : n1 ≤ 91) (w1 : Cond.arrayClass .boolean ∈ Wall) (hd : decode cc pc = .ok (.newarray .boolean, 2)) (hI : ∀ k, I n k = 0) (k : Aw X (pc + 2) L (.ref n :: S) (n + 1, I, J, R)) : Aw X pc L (.int m :: S) (n, I, J, R) := by
  refine newarr_core C (atype := .boolean) (tj := 2) rfl (fun h => h) hln (by omega) hm0 hmN hb h0 hn hn1 w1 hd (fun H1 e1 => ?_) k
  rw [cellOf_z hkd, hln]
  show H1[_]? = some (vp_cell _ _)
  rw [e1, vp_cell_i]
  exact congrArg some (arrV_congr fun j => by show Value.int 0 = Value.int (I n j); rw [hI j])
theorem r_newq (C : Ok X own cc nL d n1) {idx : Nat} {m : Int32} {N : Nat} (hkd : kd n = 23) (hln : ln n = N) (hm0 : ¬ m < 0) (hmN : m.toNatClampNeg = N) (hb : N * 4 ≤ 536870912) (h0 : x_n X ≤ n) (hn : n < n1) (hn1 : n1 ≤ 91) (w1 : Cond.classLink own idx "TwoStraws$Shelf" ∈ Wall) (hd : decode cc pc = .ok (.anewarray idx, 3)) (hR : ∀ k, R n k = none) (k : Aw X (pc + 3) L (.ref n :: S) (n + 1, I, J, R)) : Aw X pc L (.int m :: S) (n, I, J, R) := by
  intro H locs ls h1 h2 h3
  have hz : H.size = g_b (x_g X) + n := h1.1 (show n < 91 by omega)
  have hs : ss (n + 1) = ss n + N := by
    rw [ss_step n (by omega)]
    have e1 : (KD.getD n (99, 0)).1 = 23 := hkd
    have e : ¬ (KD.getD n (99, 0)).1 < 20 := by rw [e1]; decide
    unfold szc
    rw [if_neg e]
    exact congrArg (ss n + ·) hln
  have m1 : ss (x_n X) ≤ ss n := ss_mono h0 (by omega)
  have m2 : ss (n + 1) ≤ ss n1 := ss_mono hn hn1
  obtain ⟨-, -, r3, r4⟩ := o_rm C
  subst hmN
  refine W.anew (o_x C) (o_b C) (o_own C) (o_ts C _ w1) (va_AO.use (o_Ro C).2.2) rfl hd rfl hm0 hb (by show n - x_n X + 1 ≤ _; omega) (by show ss n - ss (x_n X) + _ ≤ _; omega) fun cA kA comp f1 f2 f3 f4 => ?_
  have hcA : cA = g_cA (x_g X) 3 := by
    obtain ⟨kA', comp', _, _, _, q4⟩ := ((o_K C).2 3 _ rfl).2
    exact Option.some.inj (f1.symm.trans q4)
  subst hcA
  generalize hH1 : H.push ({ cls := g_cA (x_g X) 3, slots := Array.replicate m.toNatClampNeg .null, vm := .none } : Cell) = H1
  have z1 : H1.size = H.size + 1 := by rw [← hH1, Array.size_push]
  have e1 : H1[H.size]? = some (arrV (g_cA (x_g X) 3) m.toNatClampNeg (fun _ => .null)) := by rw [← hH1, Array.getElem?_push_size, ← arrV_new]
  have o1 : ∀ q : Nat, q < H.size → H1[q]? = H[q]? := fun q hq => by rw [← hH1, Array.getElem?_push, if_neg (Nat.ne_of_lt hq)]
  have hcell : va_at (g_D (x_g X)) vwCl (g_b (x_g X) + n, cellOf (x_g X) (n, I, J, R) n) H1 := by
    rw [cellOf_q hkd, hln]
    show H1[_]? = some (vp_cell _ _)
    rw [← hz, e1, vp_cell_q]
    refine congrArg some (arrV_congr fun j => ?_)
    show Value.null = va_rf ((R n j).map (ad (x_g X)))
    rw [hR j]
    rfl
  have k' := k H1 locs ls (h1.push (by omega) (by omega) (fun q hq => o1 q (by omega)) hcell) (h2.grow (by omega) o1) h3
  have e4 : (n + 1, I, J, R).1 - x_n X = n - x_n X + 1 := by show n + 1 - x_n X = _; omega
  have e5 : ss (n + 1, I, J, R).1 - ss (x_n X) = ss n - ss (x_n X) + m.toNatClampNeg := by show ss (n + 1) - _ = _; omega
  rw [e4, e5] at k'
  have hlo : n < 1000 := by omega
  have e6 : (Value.ref n :: S).map (cv (x_g X)) = .ref H.size :: S.map (cv (x_g X)) := by rw [List.map_cons, cv_lo hlo, hz]
  rw [e6] at k'
  exact k'
end RULES2
