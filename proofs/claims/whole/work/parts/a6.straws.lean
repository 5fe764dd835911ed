theorem l2i_s {x : Int64} (h0 : -128 ≤ x.toInt) (h1 : x.toInt ≤ 127) : x.toInt32.toInt = x.toInt := by
  rw [Int64.toInt_toInt32]
  exact Int.bmod_eq_of_le (by omega) (by omega)
/-- the class's straws, the reference's all else -/
def cbF (X Y : Is) : Is := fun c => if c = 1 ∨ c = 2 then X c else Y c
theorem cb_ne {X Y : Is} {c : Nat} (h : ¬ (c = 1 ∨ c = 2)) : cbF X Y c = Y c := if_neg h
theorem ap_fr {J : Js} {t : Nat} {p v : Int32} {I I' : Is} (h : apF J t p I v I') : Fr [1, 2] I I' := by
  rcases h with ⟨-, -, e⟩ | ⟨-, q, ⟨-, -, e⟩ | ⟨-, -, -, -, hF⟩, -⟩
  · rw [e]; exact fun _ _ => rfl
  · rw [e]; exact fun _ _ => rfl
  · exact hF
theorem sr_fr {J : Js} {t : Nat} : ∀ (m : Nat) (c p : Int32) (X : Is) (v : Int32) (X1 : Is), srF J t m c p X v X1 → Fr [1, 2] X X1 := by
  intro m
  induction m with
  | zero => intro c p X v X1 h; rw [h.2]; exact fun _ _ => rfl
  | succ m ih =>
    intro c p X v X1 h
    have h : if 0 ≤ p.toInt ∧ 0 ≤ (3 : Int32).toInt ∧ p.toInt + (3 : Int32).toInt ≤ (X t 1).toInt then ∃ q I1, apF J t p X q I1 ∧ (if q = 0 then v = c ∧ X1 = I1 else srF J t m (c + 1) (p + 3) I1 v X1) else v = c ∧ X1 = X := h
    split at h
    · obtain ⟨q, I1, ha, h⟩ := h
      have f := ap_fr ha
      split at h
      · rw [h.2]; exact f
      · exact fun x hx => (ih _ _ _ _ _ h x hx).trans (f x hx)
    · rw [h.2]; exact fun _ _ => rfl
theorem sM_fr {J : Js} {k i N : Int32} : ∀ (m c : Nat) (Y : Is) (v : Int32) (Y2 : Is), srM J k i N m c Y v Y2 → Y2 1 = Y 1 ∧ Y2 2 = Y 2 := by
  intro m
  induction m with
  | zero => intro c Y v Y2 h; rw [h.2]; exact ⟨rfl, rfl⟩
  | succ m ih =>
    intro c Y v Y2 h
    rcases h with ⟨-, -, Y1, ha, h⟩ | ⟨-, -, e⟩
    · have f := ha.2.2
      have g := ih _ _ _ _ h
      exact ⟨g.1.trans (f.1 1 (by decide) (by decide)), g.2.trans (f.1 2 (by decide) (by decide))⟩
    · rw [e]; exact ⟨rfl, rfl⟩
theorem sr_rel {J : Js} {b : Bool} {t : Nat} {k i N : Int32} (hN : N.toInt ≤ 60) (hT : t ≠ 1 ∧ t ≠ 2) (hrow : ∀ q, q < 60 → J 89 (60 * ix k + q) = J (t + 1) q ∧ -128 ≤ (J (t + 1) q).toInt ∧ (J (t + 1) q).toInt ≤ 127) : ∀ (m c : Nat) (p : Int32) (X : Is) (v1 : Int32) (X1 Y : Is) (v2 : Int32) (Y2 : Is), c + m ≤ 3 → p.toInt = i.toInt + 3 * c → (0 ≤ i.toInt ∨ c = 0) → X t 1 = N → srF J t m (nI c) p X v1 X1 → srM J k i N m c Y v2 Y2 → Rel (cbF X Y) J b → v2 = v1 ∧ Rel (cbF X1 Y2) J b := by
  intro m
  induction m with
  | zero =>
    intro c p X v1 X1 Y v2 Y2 _ _ _ _ h1 h2 hR
    have h1 : v1 = nI c ∧ X1 = X := h1
    have h2 : v2 = nI c ∧ Y2 = Y := h2
    rw [h1.1, h1.2, h2.1, h2.2]
    exact ⟨rfl, hR⟩
  | succ m ih =>
    intro c p X v1 X1 Y v2 Y2 hcm hp hi0 hX h1 h2 hR
    have h1 : if 0 ≤ p.toInt ∧ 0 ≤ (3 : Int32).toInt ∧ p.toInt + (3 : Int32).toInt ≤ (X t 1).toInt then ∃ q I1, apF J t p X q I1 ∧ (if q = 0 then v1 = nI c ∧ X1 = I1 else srF J t m (nI c + 1) (p + 3) I1 v1 X1) else v1 = nI c ∧ X1 = X := h1
    have h2 : ((0 ≤ i.toInt ∧ i.toInt + 3 * c + 3 ≤ N.toInt ∧ (Y 64 6).toInt < 3) ∧ onP (J 89 (60 * ix k + (ix i + 3 * c))) (J 89 (60 * ix k + (ix i + 3 * c + 1))) (J 89 (60 * ix k + (ix i + 3 * c + 2))) ∧ ∃ I1 : Is, adM (J 89 (60 * ix k + (ix i + 3 * c))).toInt32 (J 89 (60 * ix k + (ix i + 3 * c + 1))).toInt32 (J 89 (60 * ix k + (ix i + 3 * c + 2))).toInt32 Y I1 ∧ srM J k i N m (c + 1) I1 v2 Y2) ∨
     (¬ ((0 ≤ i.toInt ∧ i.toInt + 3 * c + 3 ≤ N.toInt ∧ (Y 64 6).toInt < 3) ∧ onP (J 89 (60 * ix k + (ix i + 3 * c))) (J 89 (60 * ix k + (ix i + 3 * c + 1))) (J 89 (60 * ix k + (ix i + 3 * c + 2)))) ∧ v2 = nI c ∧ Y2 = Y) := h2
    have z3 : (3 : Int32).toInt = 3 := rfl
    have z1 : (1 : Int32).toInt = 1 := rfl
    have z2 : (2 : Int32).toInt = 2 := rfl
    rw [hX, z3] at h1
    have e6 : Y 64 6 = X 1 1 := hR.1.1
    rw [e6] at h2
    have n0 : 0 ≤ (X 1 1).toInt := hR.1.2.2.1.1
    by_cases hA : 0 ≤ i.toInt ∧ i.toInt + 3 * c + 3 ≤ N.toInt
    · rw [if_pos (by omega)] at h1
      have hi := ix_nn hA.1
      have hip : ix p = ix i + 3 * c := ix_of (by omega)
      have hip1 : ix (p + 1) = ix i + 3 * c + 1 := ix_of (by rw [tI_add (by omega) (by omega)]; omega)
      have hip2 : ix (p + 2) = ix i + 3 * c + 2 := ix_of (by rw [tI_add (by omega) (by omega)]; omega)
      obtain ⟨r0, a0, b0_⟩ := hrow (ix i + 3 * c) (by omega)
      obtain ⟨r1, a1, b1_⟩ := hrow (ix i + 3 * c + 1) (by omega)
      obtain ⟨r2, a2, b2_⟩ := hrow (ix i + 3 * c + 2) (by omega)
      rw [r0, r1, r2] at h2
      obtain ⟨q, I1, ha, h1⟩ := h1
      unfold apF at ha
      rw [hip, hip1, hip2, ← mb_0, ← mb_1, ← mb_2] at ha
      have l0 := l2i_s a0 b0_
      have l1 := l2i_s a1 b1_
      have l2 := l2i_s a2 b2_
      rw [l0, l1, l2] at ha
      rcases ha with ⟨hn, hq, hI⟩ | ⟨hy, q', ha, hq⟩
      · rw [if_pos hq] at h1
        rcases h2 with ⟨-, d, -⟩ | ⟨-, hv2, hY⟩
        · exact absurd d hn
        · rw [h1.1, h1.2, hI, hv2, hY]
          exact ⟨rfl, hR⟩
      · rcases ha with ⟨h3, hq', hI⟩ | ⟨h3, hq', e1, e2, hF⟩
        · have hq0 : q = 0 := by rw [hq, hq']; rfl
          rw [if_pos hq0] at h1
          rcases h2 with ⟨d, -⟩ | ⟨-, hv2, hY⟩
          · exact absurd d.2.2 (by omega)
          · rw [h1.1, h1.2, hI, hv2, hY]
            exact ⟨rfl, hR⟩
        · have eq' : q' = X 1 1 := by rw [hq']; exact Int32.add_sub_cancel _ _
          have hq1 : ¬ q = 0 := by
            rw [hq, eq', if_neg (by omega)]
            decide
          rw [if_neg hq1, nI_s] at h1
          rcases h2 with ⟨-, -, Y1, ⟨y1, y2, y3⟩, h2⟩ | ⟨d, -⟩
          · refine ih (c + 1) (p + 3) I1 v1 X1 Y1 v2 Y2 (by omega) ?_ (Or.inl hA.1) ?_ h1 h2 ?_
            · rw [tI_add (by omega) (by omega)]; omega
            · rw [hF t (by simp [hT.1, hT.2])]; exact hX
            · refine add_rel (I := cbF X Y) hR h3 (by rw [l0]; exact hy.1) (by rw [l1]; exact hy.2.1) (by rw [l2]; exact hy.2.2) e1 e2 ?_ ?_ ⟨fun x hx1 hx2 => ?_, fun x hx => ?_⟩
              · show Y1 64 6 = X 1 1 + 1
                rw [y1, e6]
              · intro x
                show Y1 65 x = if 8 * ix (X 1 1) ≤ x ∧ x < 8 * ix (X 1 1) + 8 then _ else Y 65 x
                rw [y2 x, e6]
                rfl
              · have hx3 : ¬ (x = 1 ∨ x = 2) := fun z => hx2 (by simp; omega)
                rw [cb_ne hx3, cb_ne hx3]
                exact y3.1 x hx1 (fun z => hx2 (by simp at z; simp [z]))
              · exact y3.2 x hx
          · exact absurd ⟨⟨hA.1, hA.2, h3⟩, hy⟩ d
    · rw [if_neg (by omega)] at h1
      rcases h2 with ⟨d, -⟩ | ⟨-, hv2, hY⟩
      · exact absurd ⟨d.1, d.2.1⟩ hA
      · rw [h1.1, h1.2, hv2, hY]
        exact ⟨rfl, hR⟩
theorem c_straws {I I1 I2 : Is} {J : Js} {b : Bool} {k : Int32} {i : Int32} {n : Int32} {v1 v2 : Int32} (h : Rel I J b) (q1 : (¬ (inR k 5 ∧ 1 ≤ n.toInt ∧ n.toInt ≤ 3) ∧ v1 = -1 ∧ I1 = I) ∨ ((inR k 5 ∧ 1 ≤ n.toInt ∧ n.toInt ≤ 3) ∧ I (shT k) 0 = -2 ∧ v1 = 0 ∧ I1 = I) ∨ ((inR k 5 ∧ 1 ≤ n.toInt ∧ n.toInt ≤ 3) ∧ ¬ I (shT k) 0 = -2 ∧ ¬ I (shT k) 0 = 0 ∧ v1 = -12 ∧ I1 = I) ∨ ((inR k 5 ∧ 1 ≤ n.toInt ∧ n.toInt ≤ 3) ∧ ¬ I (shT k) 0 = -2 ∧ I (shT k) 0 = 0 ∧ srF J (shT k) n.toInt.toNat 0 i I v1 I1)) (q2 : ((¬ (inR k 5 ∧ 1 ≤ n.toInt ∧ n.toInt ≤ 3) ∧ v2 = -1 ∧ I2 = I1) ∨ ((inR k 5 ∧ 1 ≤ n.toInt ∧ n.toInt ≤ 3) ∧ (I1 87 (ix k)).toInt < 0 ∧ v2 = 0 ∧ I2 = I1) ∨ ((inR k 5 ∧ 1 ≤ n.toInt ∧ n.toInt ≤ 3) ∧ 0 ≤ (I1 87 (ix k)).toInt ∧ ¬ I1 87 (ix k) = 50 ∧ v2 = -12 ∧ I2 = I1) ∨ ((inR k 5 ∧ 1 ≤ n.toInt ∧ n.toInt ≤ 3) ∧ I1 87 (ix k) = 50 ∧ srM J k i (I1 88 (ix k)) n.toInt.toNat 0 I1 v2 I2))) : v2 = v1 ∧ Rel I2 J b := by
  by_cases hc : inR k 5 ∧ 1 ≤ n.toInt ∧ n.toInt ≤ 3
  · have hk := hc.1
    have st := sh_st h hk
    obtain ⟨f1, f2, f3, f4⟩ := h.2.2.2.2.2 (ix k) (sh_d hk)
    have z5 : (50 : Int32).toInt = 50 := rfl
    have z0 : (0 : Int32).toInt = 0 := rfl
    have i50 : ∀ x : Int32, x = 50 ↔ x.toInt = 50 := fun x => ⟨fun h => by rw [h]; rfl, fun h => Int32.toInt_inj.mp h⟩
    have i0 : ∀ x : Int32, x = 0 ↔ x.toInt = 0 := fun x => ⟨fun h => by rw [h]; rfl, fun h => Int32.toInt_inj.mp h⟩
    simp only [i50] at q2
    simp only [i_m2, i0 (I (shT k) 0)] at q1
    rcases q1 with ⟨c, -⟩ | ⟨-, c, hv, hI⟩ | ⟨-, c, c2, hv, hI⟩ | ⟨-, c, c2, hs⟩
    · exact absurd hc c
    · rw [hI] at q2
      rcases q2 with ⟨d, -⟩ | ⟨-, d, hv2, hI2⟩ | ⟨-, d, d2, hv2, hI2⟩ | ⟨-, d, -⟩
      · exact absurd hc d
      · exact ⟨hv2.trans hv.symm, by rw [hI2]; exact h⟩
      · exfalso; omega
      · exfalso; omega
    · rw [hI] at q2
      rcases q2 with ⟨d, -⟩ | ⟨-, d, hv2, hI2⟩ | ⟨-, d, d2, hv2, hI2⟩ | ⟨-, d, -⟩
      · exact absurd hc d
      · exfalso; omega
      · exact ⟨hv2.trans hv.symm, by rw [hI2]; exact h⟩
      · exfalso; omega
    · have hF := sr_fr _ _ _ _ _ _ hs
      have e87 : I1 87 = I 87 := hF 87 (by decide)
      have e88 : I1 88 = I 88 := hF 88 (by decide)
      rw [e87, e88] at q2
      rcases q2 with ⟨d, -⟩ | ⟨-, d, -⟩ | ⟨-, d, d2, -⟩ | ⟨-, d, hm⟩
      · exact absurd hc d
      · exfalso; omega
      · exfalso; omega
      · have hcb : cbF I I1 = I := by
          funext x
          by_cases e : x = 1 ∨ x = 2
          · exact if_pos e
          · rw [cb_ne e]; exact hF x (by simp; omega)
        have hrow : ∀ q, q < 60 → J 89 (60 * ix k + q) = J (shT k + 1) q ∧ -128 ≤ (J (shT k + 1) q).toInt ∧ (J (shT k + 1) q).toInt ≤ 127 := fun q hq => by
          have e : J 89 (60 * ix k + q) = J (shT k + 1) q := f3 q hq
          rcases f4 with ⟨-, g⟩ | ⟨-, g, -⟩ | ⟨-, -, g⟩
          · exact absurd ((i_m2 _).mp g) c
          · have : (I (shT k) 0).toInt = -1 := (i_m1 _).mp g
            exfalso; omega
          · have g := g ((i0 (I (shT k) 0)).mpr c2) q hq
            rw [e] at g
            exact ⟨e, g⟩
        have f1 : I 88 (ix k) = I (shT k) 1 := f1
        have z := sr_rel (b := b) (t := shT k) (k := k) (i := i) (N := I 88 (ix k)) f2.2 (by unfold shT; omega) hrow n.toInt.toNat 0 i I v1 I1 I1 v2 I2 (by omega) (by omega) (Or.inr rfl) f1.symm hs hm (by rw [hcb]; exact h)
        have hcb2 : cbF I1 I2 = I2 := by
          funext x
          have g := sM_fr _ _ _ _ _ hm
          by_cases e : x = 1 ∨ x = 2
          · rw [show cbF I1 I2 x = I1 x from if_pos e]
            rcases e with e | e
            · rw [e]; exact g.1.symm
            · rw [e]; exact g.2.symm
          · exact cb_ne e
        rw [hcb2] at z
        exact z
  · rcases q1 with ⟨-, hv, hI⟩ | ⟨d, -⟩ | ⟨d, -⟩ | ⟨d, -⟩
    · rw [hI] at q2
      rcases q2 with ⟨-, hv2, hI2⟩ | ⟨d, -⟩ | ⟨d, -⟩ | ⟨d, -⟩
      · exact ⟨hv2.trans hv.symm, by rw [hI2]; exact h⟩
      · exact absurd d hc
      · exact absurd d hc
      · exact absurd d hc
    · exact absurd d hc
    · exact absurd d hc
    · exact absurd d hc
