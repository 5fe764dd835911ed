/-! what the class's cells and the reference's have in common between two calls -/
def RlA (I : Is) (b : Bool) : Prop := I 64 6 = I 1 1 ∧ I 65 = I 2 ∧ NW (I 1 1) (I 2) ∧ I 64 12 = I 3 1 ∧ (0 ≤ (I 3 1).toInt ∧ (I 3 1).toInt ≤ 120) ∧ I 70 = I 4 ∧ TW I b ∧
  ((I (tbL b) 4 = 0 ∧ (I 64 14).toInt < 0) ∨ (¬ I (tbL b) 4 = 0 ∧ 0 ≤ (I 64 14).toInt ∧ (I 64 14).toInt ≤ 120 ∧ ∀ nm, prF nm (I (tbL b + 1)) (I (tbL b + 2)) (I (tbL b + 3)) (ix (I (tbL b) 4)) 0 0 true = imax 0 (imin 99 (woM (txR (I 71) (I 64 14)) nm (I 64 14)).1)))
def RlB (I : Is) : Prop := EqV (gvT I) (gv I 16) ∧ I 64 38 = I 16 3 ∧ I 64 39 = I 16 4 ∧ VOk (gv I 16) ∧ (0 ≤ (I 16 2).toInt ∧ (I 16 2).toInt ≤ 999) ∧ ∀ k : Nat, (I 1 1).toInt ≤ (k : Int) → k < 3 → I 17 k = 0 ∧ I 18 k = 0 ∧ I 19 k = 0 ∧ I 20 k = 0
def RlC (I : Is) : Prop := (I 0 9 = 0 ∧ I 64 40 = 0) ∨ (¬ I 0 9 = 0 ∧ ¬ I 64 40 = 0 ∧ (0 ≤ (I 64 41).toInt ∧ (I 64 41).toInt ≤ (I 1 1).toInt) ∧ (∀ k : Nat, k < 3 → I 84 (4 * k) = I 23 k ∧ I 84 (4 * k + 1) = I 24 k ∧ I 84 (4 * k + 2) = I 25 k ∧ I 84 (4 * k + 3) = I 26 k) ∧ (∀ k : Nat, (I 64 41).toInt ≤ (k : Int) → k < 3 → I 23 k = 0 ∧ I 24 k = 0 ∧ I 25 k = 0 ∧ I 26 k = 0) ∧ (I 84 12 = I 22 0 ∧ I 84 13 = I 22 1 ∧ I 84 14 = I 22 2 ∧ I 84 15 = I 22 3 ∧ I 84 16 = I 22 4) ∧ VOk (gv I 22) ∧ 0 ≤ (I 22 2).toInt ∧ (I 22 2).toInt ≤ 999)
/-- a place that a straw or the glass has, and a value that may stand there -/
def fitW (w v : Int32) : Prop := fitP w v ∨ (w.toInt = 7 ∧ 0 ≤ v.toInt ∧ v.toInt ≤ 5000)
def plOk (s p v : Int32) : Prop := ∃ m w : Int32, plF s m w = p ∧ 0 ≤ p.toInt ∧ fitW w v
def RlD (I : Is) : Prop := I 64 5 = I 44 1 ∧ I 64 4 = I 44 0 ∧ (0 ≤ (I 44 1).toInt ∧ (I 44 1).toInt ≤ (I 44 0).toInt ∧ (I 44 0).toInt ≤ 40) ∧ I 66 = I 45 ∧ I 67 = I 46 ∧ I 68 = I 47 ∧ ∀ k : Nat, (k : Int) < (I 44 0).toInt → plOk (I 1 1) (I 45 k) (I 46 k) ∧ plOk (I 1 1) (I 45 k) (I 47 k)
def RlE (I : Is) : Prop := I 64 43 = I 48 0 ∧ (0 ≤ (I 48 0).toInt ∧ (I 48 0).toInt ≤ 50) ∧ I 85 = I 49 ∧ (∀ q, 0 ≤ (I 49 q).toInt ∧ (I 49 q).toInt ≤ 7) ∧ I 64 46 = I 48 1 ∧ (0 ≤ (I 48 1).toInt ∧ (I 48 1).toInt ≤ 100) ∧ I 86 = I 50
/-- shelf d: what it holds -/
def RlF (I : Is) (J : Js) : Prop := ∀ d : Nat, d < 6 → I 88 d = I (52 + 2 * d) 1 ∧ (0 ≤ (I 88 d).toInt ∧ (I 88 d).toInt ≤ 60) ∧ (∀ q, q < 60 → J 89 (60 * d + q) = J (52 + 2 * d + 1) q) ∧
  ((I 87 d = -1 ∧ I (52 + 2 * d) 0 = -2) ∨ ((0 ≤ (I 87 d).toInt ∧ (I 87 d).toInt < (I 48 0).toInt) ∧ I (52 + 2 * d) 0 = -1 ∧ I (52 + 2 * d) 2 = I 87 d) ∨ ((0 ≤ (I (52 + 2 * d) 0).toInt ∧ (I (52 + 2 * d) 0).toInt ≤ 4) ∧ (I 87 d).toInt = 50 + (I (52 + 2 * d) 0).toInt ∧ (I (52 + 2 * d) 0 = 0 → ∀ q, q < 60 → -128 ≤ (J 89 (60 * d + q)).toInt ∧ (J 89 (60 * d + q)).toInt ≤ 127)))
def Rel (I : Is) (J : Js) (b : Bool) : Prop := RlA I b ∧ RlB I ∧ RlC I ∧ RlD I ∧ RlE I ∧ RlF I J
/-- only what is thought may have changed -/
def Sm (I I' : Is) : Prop := (∀ c, c < 64 → c ∉ [14, 15, 28, 29, 30, 31, 32, 33, 34, 35, 36, 37, 38, 39, 40, 41, 42, 43] → I' c = I c) ∧ (∀ c, 64 < c → c ∉ [72, 73, 74, 75, 76, 77, 78, 79, 80] → I' c = I c) ∧ ∀ k, k ∉ FTM → I' 64 k = I 64 k
theorem tbL_lt (b : Bool) : tbL b + 3 < 14 ∧ 5 ≤ tbL b := by cases b <;> decide
theorem Sm.lo {I I' : Is} (h : Sm I I') {c : Nat} (hc : c < 14) : I' c = I c := h.1 c (by omega) (fun z => by simp at z; omega)
theorem RlA.sm {I I' : Is} {b : Bool} (h : RlA I b) (s : Sm I I') : RlA I' b := by
  have ht := tbL_lt b
  have e0 := s.lo (c := tbL b) (by omega)
  have e1 := s.lo (c := tbL b + 1) (by omega)
  have e2 := s.lo (c := tbL b + 2) (by omega)
  have e3 := s.lo (c := tbL b + 3) (by omega)
  unfold RlA TW
  unfold RlA TW at h
  rw [e0, e1, e2, e3, s.lo (c := 1) (by decide), s.lo (c := 2) (by decide), s.lo (c := 3) (by decide), s.lo (c := 4) (by decide), s.2.1 65 (by decide) (by decide), s.2.1 70 (by decide) (by decide), s.2.1 71 (by decide) (by decide), s.2.2 6 (by decide), s.2.2 12 (by decide), s.2.2 14 (by decide)]
  exact h
theorem RlB.sm {I I' : Is} (h : RlB I) (s : Sm I I') : RlB I' := by
  unfold RlB gvT gv
  unfold RlB gvT gv at h
  rw [s.1 16 (by decide) (by decide), s.1 (16 + 1) (by decide) (by decide), s.1 (16 + 2) (by decide) (by decide), s.1 (16 + 3) (by decide) (by decide), s.1 (16 + 4) (by decide) (by decide), s.lo (c := 1) (by decide), s.2.1 69 (by decide) (by decide), s.2.1 81 (by decide) (by decide), s.2.1 82 (by decide) (by decide), s.2.1 83 (by decide) (by decide), s.2.2 7 (by decide), s.2.2 8 (by decide), s.2.2 9 (by decide), s.2.2 38 (by decide), s.2.2 39 (by decide)]
  exact h
theorem RlC.sm {I I' : Is} (h : RlC I) (s : Sm I I') : RlC I' := by
  unfold RlC gv
  unfold RlC gv at h
  rw [s.lo (c := 0) (by decide), s.lo (c := 1) (by decide), s.1 22 (by decide) (by decide), s.1 (22 + 1) (by decide) (by decide), s.1 (22 + 2) (by decide) (by decide), s.1 (22 + 3) (by decide) (by decide), s.1 (22 + 4) (by decide) (by decide), s.2.1 84 (by decide) (by decide), s.2.2 40 (by decide), s.2.2 41 (by decide)]
  exact h
theorem RlD.sm {I I' : Is} (h : RlD I) (s : Sm I I') : RlD I' := by
  unfold RlD
  unfold RlD at h
  rw [s.lo (c := 1) (by decide), s.1 44 (by decide) (by decide), s.1 45 (by decide) (by decide), s.1 46 (by decide) (by decide), s.1 47 (by decide) (by decide), s.2.1 66 (by decide) (by decide), s.2.1 67 (by decide) (by decide), s.2.1 68 (by decide) (by decide), s.2.2 5 (by decide), s.2.2 4 (by decide)]
  exact h
theorem RlE.sm {I I' : Is} (h : RlE I) (s : Sm I I') : RlE I' := by
  unfold RlE
  unfold RlE at h
  rw [s.1 48 (by decide) (by decide), s.1 49 (by decide) (by decide), s.1 50 (by decide) (by decide), s.2.1 85 (by decide) (by decide), s.2.1 86 (by decide) (by decide), s.2.2 43 (by decide), s.2.2 46 (by decide)]
  exact h
theorem RlF.sm {I I' : Is} {J : Js} (h : RlF I J) (s : Sm I I') : RlF I' J := by
  intro d hd
  have e : I' (52 + 2 * d) = I (52 + 2 * d) := s.1 _ (by omega) (fun z => by simp at z; omega)
  have h' := h d hd
  rw [e, s.1 48 (by decide) (by decide), s.2.1 87 (by decide) (by decide), s.2.1 88 (by decide) (by decide)]
  exact h'
theorem Rel.sm {I I' : Is} {J : Js} {b : Bool} (h : Rel I J b) (s : Sm I I') : Rel I' J b := ⟨h.1.sm s, h.2.1.sm s, h.2.2.1.sm s, h.2.2.2.1.sm s, h.2.2.2.2.1.sm s, h.2.2.2.2.2.sm s⟩
/-- a call that only thinks, of both -/
theorem Sm.of {I I1 I2 : Is} {l1 l2 : List Nat} (h1 : Fr l1 I I1) (h2 : FrM l2 FTM I1 I2) (a1 : ∀ c ∈ l1, c ∈ [14, 15, 28, 29, 30, 31, 32, 33, 34, 35, 36, 37, 38, 39, 40, 41, 42, 43]) (a2 : ∀ c ∈ l2, c ∈ [72, 73, 74, 75, 76, 77, 78, 79, 80]) : Sm I I2 := by
  refine ⟨fun c hc hl => ?_, fun c hc hl => ?_, fun k hk => ?_⟩
  · rw [h2.1 c (by omega) (fun z => by have := a2 c z; simp at this; omega)]
    exact h1 c (fun z => hl (a1 c z))
  · rw [h2.1 c (by omega) (fun z => hl (a2 c z))]
    exact h1 c (fun z => by have := a1 c z; simp at this; omega)
  · rw [h2.2 k hk]
    exact congrFun (h1 64 (fun z => by have := a1 64 z; simp at this)) k
theorem Sm.rf {I : Is} : Sm I I := ⟨fun _ _ _ => rfl, fun _ _ _ => rfl, fun _ _ => rfl⟩
/-- behind the class's call that only thinks, before the reference's -/
theorem Sm.fr {I I1 : Is} {l1 : List Nat} (h1 : Fr l1 I I1) (a1 : ∀ c ∈ l1, c ∈ [14, 15, 28, 29, 30, 31, 32, 33, 34, 35, 36, 37, 38, 39, 40, 41, 42, 43]) : Sm I I1 := Sm.of h1 (FrM.rf (l := []) (f := FTM)) a1 (fun c hc => absurd hc (by simp))
theorem rel_wt {I : Is} {b : Bool} (h : RlA I b) : wtM I = wantF I b := by
  obtain ⟨-, h65, -, -, -, -, -, ht⟩ := h
  funext j l t
  unfold wtM wantF
  rw [h65]
  rcases ht with ⟨t1, t2⟩ | ⟨t1, t2, -, t4⟩
  · rw [if_pos t1, if_neg (by omega)]
  · rw [if_neg t1, if_pos t2]
    exact (t4 _).symm
theorem rel_en {I : Is} {b : Bool} (h : RlA I b) : enM I = en I b := by
  unfold enM en
  rw [rel_wt h, h.1, h.2.1]
theorem rel_nm {I : Is} {b : Bool} (h : RlA I b) : NM I := by
  obtain ⟨h6, h65, hn, -, -, -, -, ht⟩ := h
  unfold NM
  rw [h6, h65]
  refine ⟨hn, ?_⟩
  rcases ht with ⟨-, t2⟩ | ⟨-, -, t3, -⟩
  · omega
  · exact t3
theorem rel_vT {I : Is} (h : RlB I) : VOk (gvT I) := VOk.eqv h.1 h.2.2.2.1
/-- both in thought alike -/
theorem rel_go {I I1 : Is} {J : Js} {b : Bool} (h : Rel I J b) (s : Sm I I1) (pt fr hc : Nat → Bool) (n : Nat) : EqV (goF (enM I1) pt fr hc n (bgF (gvT I1))) (goF (en I b) pt fr hc n (bgF (gv I 16))) := by
  have h1 := h.sm s
  have e : enM I1 = en I b := (rel_en h1.1).trans (by
    have hc : ∀ c, c ∈ [1, 2, 5, 6, 7, 8, 10, 11, 12, 13] → I1 c = I c := fun c hc => s.lo (by simp at hc; omega)
    exact en_rows hc)
  have g : gv I1 16 = gv I 16 := by
    unfold gv
    rw [s.1 16 (by decide) (by decide), s.1 (16 + 1) (by decide) (by decide), s.1 (16 + 2) (by decide) (by decide), s.1 (16 + 3) (by decide) (by decide), s.1 (16 + 4) (by decide) (by decide)]
  have q := h1.2.1.1
  rw [g] at q
  rw [e]
  refine go_eqv ?_ (bg_eqv q) n
  have := (en_ok (b := b) h.1.2.2.1).1
  exact this
