def rL_64 : List (Nat × Nat × Nat) := [(64, 52, 90), (64, 51, 89), (64, 50, 88), (64, 49, 87), (64, 45, 86), (64, 44, 85), (64, 42, 84), (64, 37, 83), (64, 36, 82), (64, 35, 81), (64, 34, 80), (64, 33, 79), (64, 32, 78), (64, 31, 77), (64, 27, 76), (64, 26, 75), (64, 25, 74), (64, 24, 73), (64, 20, 72), (64, 13, 71), (64, 11, 70), (64, 10, 69), (64, 3, 68), (64, 2, 67), (64, 1, 66), (64, 0, 65), (51, 5, 62), (62, 3, 63), (51, 4, 60), (60, 3, 61), (51, 3, 58), (58, 3, 59), (51, 2, 56), (56, 3, 57), (51, 1, 54), (54, 3, 55), (51, 0, 52), (52, 3, 53), (0, 8, 51), (0, 7, 48), (48, 3, 50), (48, 2, 49), (0, 6, 44), (44, 4, 47), (44, 3, 46), (44, 2, 45), (0, 5, 28), (28, 4, 38), (38, 11, 9), (38, 10, 1), (38, 9, 43), (38, 8, 42), (38, 7, 41), (38, 6, 40), (38, 5, 39), (28, 3, 32), (32, 11, 9), (32, 10, 1), (32, 9, 37), (32, 8, 36), (32, 7, 35), (32, 6, 34), (32, 5, 33), (28, 2, 16), (28, 1, 1), (28, 7, 31), (28, 6, 30), (28, 5, 29), (0, 4, 22), (22, 11, 9), (22, 10, 1), (22, 9, 27), (22, 8, 26), (22, 7, 25), (22, 6, 24), (22, 5, 23), (0, 3, 16), (16, 11, 9), (16, 10, 1), (16, 9, 21), (16, 8, 20), (16, 7, 19), (16, 6, 18), (16, 5, 17), (0, 2, 9), (9, 1, 1), (9, 3, 15), (9, 2, 14), (9, 0, 10), (10, 2, 13), (10, 1, 12), (10, 0, 11), (0, 1, 3), (3, 2, 5), (5, 2, 8), (5, 1, 7), (5, 0, 6), (3, 0, 4), (0, 0, 1), (1, 0, 2)]
set_option maxRecDepth 100000 in
theorem rK_list : rK_64 = rL_64.foldr (fun e f => u2 f e.1 e.2.1 (some e.2.2)) r0_ := rfl
theorem fo_none {t k : Nat} (h : 91 ≤ t ∨ 60 ≤ k) : ∀ l : List (Nat × Nat × Nat), (∀ e ∈ l, e.1 < 91 ∧ e.2.1 < 60) → l.foldr (fun e f => u2 f e.1 e.2.1 (some e.2.2)) r0_ t k = none := by
  intro l
  induction l with
  | nil => intro _; rfl
  | cons e l ih =>
    intro hl
    have h1 := hl e List.mem_cons_self
    show u2 (l.foldr (fun e f => u2 f e.1 e.2.1 (some e.2.2)) r0_) e.1 e.2.1 (some e.2.2) t k = none
    rw [u2_ne _ _ _ _ (by omega)]
    exact ih (fun e he => hl e (List.mem_cons_of_mem _ he))
theorem rL_in : ∀ e ∈ rL_64, e.1 < 91 ∧ e.2.1 < 60 := by decide +kernel
theorem RLt_in : ∀ l ∈ RLt, l.length ≤ 53 := by decide +kernel
theorem RLt_none {t k : Nat} (h : 91 ≤ t ∨ 60 ≤ k) : (RLt.getD t []).getD k none = none := by
  by_cases ht : t < RLt.length
  · have hm : RLt.getD t [] ∈ RLt := by
      rw [List.getD_eq_getElem?_getD, List.getElem?_eq_getElem ht]
      exact List.getElem_mem ht
    have h1 := RLt_in _ hm
    have h9 : RLt.length = 91 := rfl
    rw [List.getD_eq_getElem?_getD, List.getElem?_eq_none (by omega)]
    rfl
  · have e : RLt.getD t [] = [] := by
      rw [List.getD_eq_getElem?_getD, List.getElem?_eq_none (by omega)]
      rfl
    rw [e]
    rfl
set_option maxRecDepth 100000 in
theorem rK_in : ∀ t, t < 91 → ∀ k, k < 60 → rK_64 t k = RR false t k := by decide +kernel
theorem rK_eq : rK_64 = RR false := by
  funext t k
  by_cases h : t < 91 ∧ k < 60
  · exact rK_in t h.1 k h.2
  · have h2 : 91 ≤ t ∨ 60 ≤ k := by omega
    rw [rK_list, fo_none h2 _ rL_in]
    unfold RR
    by_cases e3 : t = 3
    · rw [if_pos e3, if_neg (by omega)]
      have := RLt_none (t := 3) (k := k) (Or.inr (by omega))
      exact this.symm
    · rw [if_neg e3]
      by_cases e9 : t = 9
      · rw [if_pos e9, if_neg (by omega)]
        have := RLt_none (t := 9) (k := k) (Or.inr (by omega))
        exact this.symm
      · rw [if_neg e9]
        exact (RLt_none h2).symm
set_option maxRecDepth 100000 in
theorem rel_0 : Rel iK_64 j0_ false := by
  have z0 : (0 : Int32).toInt = 0 := rfl
  refine ⟨⟨rfl, ?_, ⟨by decide, by decide, fun j hj => ?_, by decide, by decide, by decide, by decide⟩, rfl, by decide, rfl, ⟨by decide, fun k hk => ?_⟩, Or.inl ⟨rfl, by decide⟩⟩, ⟨⟨rfl, rfl, rfl, fun _ _ => rfl, fun _ _ => rfl, fun _ _ => rfl, fun _ _ => rfl⟩, rfl, rfl, ⟨by decide, by decide⟩, by decide, fun _ _ _ => ⟨rfl, rfl, rfl, rfl⟩⟩, Or.inl ⟨rfl, rfl⟩, ⟨rfl, rfl, by decide, rfl, rfl, rfl, fun k hk => ?_⟩, ⟨rfl, by decide, rfl, fun q => ?_, rfl, by decide, rfl⟩, fun d hd => ?_⟩
  · funext k
    by_cases e4 : k = 24
    · rw [e4]; rfl
    by_cases e5 : k = 25
    · rw [e5]; rfl
    by_cases e6 : k = 26
    · rw [e6]; rfl
    by_cases e7 : k = 27
    · rw [e7]; rfl
    have h1 : iK_64 65 k = 0 := by
      show (if k = 26 then 1 else if k = 24 then 1 else 0 : Int32) = 0
      rw [if_neg e6, if_neg e4]
    have h2 : iK_64 2 k = 0 := by
      show (if k = 27 then 0 else if k = 26 then 1 else if k = 25 then 0 else if k = 24 then 1 else 0 : Int32) = 0
      rw [if_neg e7, if_neg e6, if_neg e5, if_neg e4]
    rw [h1, h2]
  · have h1 : (j : Int) < (0 : Int32).toInt := hj
    omega
  · have h1 : (k : Int) < (0 : Int32).toInt := hk
    omega
  · have h1 : (k : Int) < (0 : Int32).toInt := hk
    omega
  · show 0 ≤ (0 : Int32).toInt ∧ (0 : Int32).toInt ≤ 7
    decide
  · rcases (show d = 0 ∨ d = 1 ∨ d = 2 ∨ d = 3 ∨ d = 4 ∨ d = 5 by omega) with rfl | rfl | rfl | rfl | rfl | rfl <;> exact ⟨rfl, by decide, fun _ _ => rfl, Or.inl ⟨rfl, rfl⟩⟩
