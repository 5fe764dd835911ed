/-! what the calls' contracts ask for, out of the relation -/
section PRE
variable {I I1 : Is} {J : Js} {b : Bool}
theorem pc_s0 (h : Rel I J b) : 0 ≤ (I 1 1).toInt := h.1.2.2.1.1
theorem pc_s3 (h : Rel I J b) : (I 1 1).toInt ≤ 3 := h.1.2.2.1.2.1
theorem pc_NW (h : Rel I J b) : NW (I 1 1) (I 2) := h.1.2.2.1
theorem pc_TW (h : Rel I J b) : TW I b := h.1.2.2.2.2.2.2.1
theorem pc_v (h : Rel I J b) : VOk (gv I 16) := h.2.1.2.2.2.1
theorem pc_lv (h : Rel I J b) : 0 ≤ (I 16 0).toInt ∧ (I 16 0).toInt ≤ 999 := h.2.1.2.2.2.1.1
theorem pc_sec (h : Rel I J b) : 0 ≤ (I 16 2).toInt ∧ (I 16 2).toInt ≤ 999 := h.2.1.2.2.2.2.1
theorem pc_st (h : Rel I J b) : ∀ j : Nat, (j : Int) < (I 1 1).toInt → 0 ≤ (I 2 (8 * j + 0)).toInt ∧ (I 2 (8 * j + 0)).toInt ≤ 20 := fun j hj => (h.1.2.2.1.2.2.1 j hj).1
theorem pc_ti (h : Rel I J b) : ∀ j : Nat, (j : Int) < (I 1 1).toInt → 1 ≤ (I 2 (8 * j + 3)).toInt := fun j hj => (h.1.2.2.1.2.2.1 j hj).2.2.2.1.1
theorem pc_sz (h : Rel I J b) : ∀ t, isSh t → 0 ≤ (I t 1).toInt ∧ (I t 1).toInt ≤ 60 := fun t ht => by
  have key : ∀ d, d < 6 → t = 52 + 2 * d → 0 ≤ (I t 1).toInt ∧ (I t 1).toInt ≤ 60 := fun d hd e => by
    obtain ⟨f1, f2, -⟩ := h.2.2.2.2.2 d hd
    rw [e, ← f1]
    exact f2
  rcases ht with e | e | e | e | e | e
  · exact key 0 (by decide) e
  · exact key 1 (by decide) e
  · exact key 2 (by decide) e
  · exact key 3 (by decide) e
  · exact key 4 (by decide) e
  · exact key 5 (by decide) e
theorem pc_d0 (h : Rel I J b) : 0 ≤ (I 44 1).toInt := h.2.2.2.1.2.2.1.1
theorem pc_d4 (h : Rel I J b) : (I 44 1).toInt ≤ 40 := by have := h.2.2.2.1.2.2.1; omega
theorem pc_m4 (h : Rel I J b) : (I 44 0).toInt ≤ 40 := h.2.2.2.1.2.2.1.2.2
theorem pc_pl (h : Rel I J b) {p : Int32} (h0 : 0 ≤ p.toInt) (hp : p.toInt < (I 44 0).toInt) : vp_in (I 45 (ix p)) 28 := by
  have e := ix_nn h0
  obtain ⟨⟨m, w, e1, e2, -⟩, -⟩ := h.2.2.2.1.2.2.2.2.2.2 (ix p) (by omega)
  rw [← e1]
  exact pl_in (pc_s3 h) (by rw [e1]; exact e2)
theorem pc_un (h : Rel I J b) : 0 < (I 44 1).toInt → vp_in (I 45 (ix (I 44 1 - 1))) 28 := fun h1 => by
  have h2 := h.2.2.2.1.2.2.1
  have e : (I 44 1 - 1).toInt = (I 44 1).toInt - 1 := by rw [tI_sub (by rw [one_int]; omega) (by rw [one_int]; omega), one_int]
  exact pc_pl h (by omega) (by omega)
theorem pc_re (h : Rel I J b) : (I 44 1).toInt < (I 44 0).toInt → vp_in (I 45 (ix (I 44 1))) 28 := fun h1 => pc_pl h (pc_d0 h) h1
theorem pc_t0 (h : Rel I J b) : 0 ≤ (I 3 1).toInt := h.1.2.2.2.2.1.1
theorem pc_tr (h : Rel I J b) : 0 ≤ (I 3 1).toInt ∧ (I 3 1).toInt ≤ 120 := h.1.2.2.2.2.1
theorem pc_b0 (h : Rel I J b) : 0 ≤ (I 48 0).toInt := h.2.2.2.2.1.2.1.1
theorem pc_b5 (h : Rel I J b) : (I 48 0).toInt ≤ 50 := h.2.2.2.2.1.2.1.2
theorem pc_r0 (h : Rel I J b) : 0 ≤ (I 48 1).toInt := h.2.2.2.2.1.2.2.2.2.2.1.1
/-- the reference's cells as they were -/
def HI (I I1 : Is) : Prop := ∀ c, 64 ≤ c → I1 c = I c
theorem HI.rf (e : I1 = I) : HI I I1 := by rw [e]; exact fun _ _ => rfl
theorem HI.fr {l : List Nat} (h : Fr l I I1) (hl : ∀ c ∈ l, c < 64) : HI I I1 := fun c hc => h c (fun z => by have := hl c z; omega)
theorem HI.tr {I2 : Is} (h : HI I I1) (g : HI I1 I2) : HI I I2 := fun c hc => (g c hc).trans (h c hc)
theorem HI.u2 {t k : Nat} {v : Int32} (ht : t < 64) : HI I (u2 I t k v) := fun c hc => u2_row (by omega)
theorem pm_s0 (h : Rel I J b) (hi : HI I I1) : 0 ≤ (I1 64 6).toInt := by rw [hi 64 (by decide), h.1.1]; exact pc_s0 h
theorem pm_s3 (h : Rel I J b) (hi : HI I I1) : (I1 64 6).toInt ≤ 3 := by rw [hi 64 (by decide), h.1.1]; exact pc_s3 h
theorem pm_NM (h : Rel I J b) (hi : HI I I1) : NM I1 := by
  have := rel_nm h.1
  unfold NM at this ⊢
  rw [hi 64 (by decide), hi 65 (by decide)]
  exact this
theorem pm_14 (h : Rel I J b) (hi : HI I I1) : (I1 64 14).toInt ≤ 120 := (pm_NM h hi).2
theorem pm_ti (h : Rel I J b) (hi : HI I I1) : ∀ j : Nat, (j : Int) < (I1 64 6).toInt → 1 ≤ (I1 65 (8 * j + 3)).toInt := fun j hj => ((pm_NM h hi).1.2.2.1 j hj).2.2.2.1.1
theorem pm_v (h : Rel I J b) (hi : HI I I1) : VOk (gvT I1) := by
  have := rel_vT h.2.1
  unfold gvT at this ⊢
  rw [hi 64 (by decide), hi 69 (by decide), hi 81 (by decide), hi 82 (by decide), hi 83 (by decide)]
  exact this
theorem pm_ps (h : Rel I J b) (hi : HI I I1) : 0 ≤ (I1 64 9).toInt ∧ (I1 64 9).toInt ≤ 999 := by
  have e : I 64 9 = I 16 2 := h.2.1.1.2.2.1
  rw [hi 64 (by decide), e]
  exact pc_sec h
theorem pm_sz (h : Rel I J b) (hi : HI I I1) : ∀ t : Nat, t < 6 → 0 ≤ (I1 88 t).toInt ∧ (I1 88 t).toInt ≤ 60 := fun t ht => by
  rw [hi 88 (by decide)]
  exact (h.2.2.2.2.2 t ht).2.1
theorem pm_t0 (h : Rel I J b) (hi : HI I I1) : 0 ≤ (I1 64 12).toInt := by rw [hi 64 (by decide), h.1.2.2.2.1]; exact pc_t0 h
theorem pm_t1 (h : Rel I J b) (hi : HI I I1) : (I1 64 12).toInt ≤ 120 := by rw [hi 64 (by decide), h.1.2.2.2.1]; exact (pc_tr h).2
theorem pm_d0 (h : Rel I J b) (hi : HI I I1) : 0 ≤ (I1 64 5).toInt := by rw [hi 64 (by decide), h.2.2.2.1.1]; exact pc_d0 h
theorem pm_d4 (h : Rel I J b) (hi : HI I I1) : (I1 64 5).toInt ≤ 40 := by rw [hi 64 (by decide), h.2.2.2.1.1]; exact pc_d4 h
theorem pm_un (h : Rel I J b) (hi : HI I I1) : ¬ I1 64 5 = 0 → vp_in (I1 66 (ix (I1 64 5 - 1))) 28 := by
  obtain ⟨d1, d2, d3, d6, -⟩ := h.2.2.2.1
  rw [hi 64 (by decide), hi 66 (by decide), d1, d6]
  intro hne
  refine pc_un h ?_
  have z0 : (0 : Int32).toInt = 0 := rfl
  have : ¬ (I 44 1).toInt = 0 := fun z => hne (Int32.toInt_inj.mp (by rw [z]; rfl))
  omega
theorem pm_rl (h : Rel I J b) (hi : HI I I1) : (I1 64 5).toInt < 40 ∨ I1 64 5 = I1 64 4 := by
  obtain ⟨d1, d2, d3, -⟩ := h.2.2.2.1
  rw [hi 64 (by decide), d1, d2]
  by_cases c : (I 44 1).toInt < 40
  · exact Or.inl c
  · exact Or.inr (Int32.toInt_inj.mp (by omega))
theorem pm_re (h : Rel I J b) (hi : HI I I1) : ¬ I1 64 5 = I1 64 4 → vp_in (I1 66 (ix (I1 64 5))) 28 := by
  obtain ⟨d1, d2, d3, d6, -⟩ := h.2.2.2.1
  rw [hi 64 (by decide), hi 66 (by decide), d1, d2, d6]
  intro hne
  refine pc_re h ?_
  have : ¬ (I 44 1).toInt = (I 44 0).toInt := fun z => hne (Int32.toInt_inj.mp z)
  omega
theorem pm_b0 (h : Rel I J b) (hi : HI I I1) : 0 ≤ (I1 64 43).toInt := by rw [hi 64 (by decide), h.2.2.2.2.1.1]; exact pc_b0 h
theorem pm_b5 (h : Rel I J b) (hi : HI I I1) : (I1 64 43).toInt ≤ 50 := by rw [hi 64 (by decide), h.2.2.2.2.1.1]; exact pc_b5 h
theorem pm_kd (h : Rel I J b) (hi : HI I I1) : ∀ q : Nat, q < 50 → (I1 85 q).toInt ≤ 7 := fun q _ => by
  obtain ⟨-, -, e3, e4, -⟩ := h.2.2.2.2.1
  rw [hi 85 (by decide), e3]
  exact (e4 q).2
end PRE
