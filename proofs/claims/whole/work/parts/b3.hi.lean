theorem hi_straw {I IA : Is} {st : Int32} {re : Int32} {v1 : Int32} (q1 : (¬ (fitP 0 st ∧ fitP 2 re) ∧ v1 = -1 ∧ IA = I) ∨ ((fitP 0 st ∧ fitP 2 re) ∧ ((3 ≤ (I 1 1).toInt ∧ v1 = -3 ∧ IA = I) ∨ ((I 1 1).toInt < 3 ∧ v1 = I 1 1 + 1 - 1 ∧ IA 1 1 = I 1 1 + 1 ∧ (∀ k, IA 2 k = if 8 * ix (I 1 1) ≤ k ∧ k < 8 * ix (I 1 1) + 8 then nwF st 3 re (k - 8 * ix (I 1 1)) else I 2 k) ∧ Fr [1, 2] I IA)))) : HI I IA := by
  rcases q1 with ⟨-, -, e⟩ | ⟨-, (⟨-, -, e⟩ | ⟨-, -, -, -, e⟩)⟩
  · exact HI.rf e
  · exact HI.rf e
  · exact HI.fr e (by decide)
theorem hi_of {I I1 : Is} {m : Int32} {w : Int32} {v1 : Int32} (q1 : (v1 = (ofF I m w) ∧ I1 = I)) : HI I I1 := by
  obtain ⟨-, e⟩ := q1
  exact HI.rf e
theorem hi_wants {I I1 : Is} {b : Bool} {k : Int32} {l : Int32} {t : Int32} {v1 : Int32} (q1 : (¬ (inS I k ∧ inR l 999 ∧ inR t 999) ∧ v1 = -1 ∧ I1 = I) ∨ ((inS I k ∧ inR l 999 ∧ inR t 999) ∧ v1 = wantF I b (ix k) l t ∧ Fr [14, 15] I I1)) : HI I I1 := by
  rcases q1 with ⟨-, -, e⟩ | ⟨-, -, e⟩
  · exact HI.rf e
  · exact HI.fr e (by decide)
theorem hi_glass {I I1 : Is} {b : Bool} {n : Int32} {k : Int32} {w : Int32} {v1 : Int32} (q1 : (¬ (inR n 999 ∧ inS I k ∧ inR w 2) ∧ v1 = -1 ∧ I1 = I) ∨ ((inR n 999 ∧ inS I k ∧ inR w 2) ∧ EqV (gv I1 32) (goF (en I b) (bit 7) (bit 0) (bit 0) (ix n) (bgF (gv I 16))) ∧ v1 = (if w = 0 then I1 34 (ix k) else if w = 1 then I1 35 (ix k) else I1 36 (ix k)) ∧ Fr [32, 33, 34, 35, 36, 37, 14, 15] I I1)) : HI I I1 := by
  rcases q1 with ⟨-, -, e⟩ | ⟨-, -, -, e⟩
  · exact HI.rf e
  · exact HI.fr e (by decide)
theorem hi_level {I I1 : Is} {b : Bool} {n : Int32} {w : Int32} {v1 : Int32} (q1 : (¬ (inR n 999 ∧ inR w 1) ∧ v1 = -1 ∧ I1 = I) ∨ ((inR n 999 ∧ inR w 1) ∧ EqV (gv I1 32) (goF (en I b) (bit 7) (bit 0) (bit 0) (ix n) (bgF (gv I 16))) ∧ v1 = (if w = 0 then I1 32 0 else I1 32 1) ∧ Fr [32, 33, 34, 35, 36, 37, 14, 15] I I1)) : HI I I1 := by
  rcases q1 with ⟨-, -, e⟩ | ⟨-, -, -, e⟩
  · exact HI.rf e
  · exact HI.fr e (by decide)
theorem hi_empty {I I1 : Is} {b : Bool} {v1 : Int32} (q1 : ((∃ i : Nat, i ≤ 999 ∧ v1 = nI i ∧ ovF (en I b) (goF (en I b) (bit 7) (bit 0) (bit 0) i (bgF (gv I 16))) ∧ ∀ k, k < i → ¬ ovF (en I b) (goF (en I b) (bit 7) (bit 0) (bit 0) k (bgF (gv I 16)))) ∨ (v1 = -2 ∧ ∀ k, k ≤ 999 → ¬ ovF (en I b) (goF (en I b) (bit 7) (bit 0) (bit 0) k (bgF (gv I 16))))) ∧ Fr [32, 33, 34, 35, 36, 37, 14, 15] I I1) : HI I I1 := by
  obtain ⟨-, e⟩ := q1
  exact HI.fr e (by decide)
theorem hi_more {I I1 : Is} {b : Bool} {n : Int32} {w : Int32} {v1 : Int32} (q1 : (¬ (inR n 999 ∧ inR w 1) ∧ v1 = -1 ∧ I1 = I) ∨ ((inR n 999 ∧ inR w 1) ∧ I 1 1 = 0 ∧ v1 = (if w = 0 then -2 else 0) ∧ I1 = I) ∨ ((inR n 999 ∧ inR w 1) ∧ ¬ I 1 1 = 0 ∧ EqV (gv I1 32) (goF (en I b) (bit 7) (bit 0) (bit 0) (ix n) (bgF (gv I 16))) ∧ v1 = (if w = 0 then nI (bsF (I1 34) (I 1 1).toInt.toNat) else I1 34 (bsF (I1 34) (I 1 1).toInt.toNat) - lsF (I1 34) (I 1 1).toInt.toNat) ∧ Fr [32, 33, 34, 35, 36, 37, 14, 15] I I1)) : HI I I1 := by
  rcases q1 with ⟨-, -, e⟩ | ⟨-, -, -, e⟩ | ⟨-, -, -, -, e⟩
  · exact HI.rf e
  · exact HI.rf e
  · exact HI.fr e (by decide)
theorem hi_turns {I I1 : Is} {b : Bool} {n : Int32} {mf : Int32} {k : Int32} {v1 : Int32} (q1 : (¬ ((0 ≤ mf.toInt ∧ inR n 999 ∧ inS I k) ∧ (1 ≤ (mf / 10).toInt ∧ (mf / 10).toInt ≤ 60) ∧ inS I (mf - mf / 10 * 10)) ∧ v1 = -1 ∧ I1 = I) ∨ (((0 ≤ mf.toInt ∧ inR n 999 ∧ inS I k) ∧ (1 ≤ (mf / 10).toInt ∧ (mf / 10).toInt ≤ 60) ∧ inS I (mf - mf / 10 * 10)) ∧ EqV (gv I1 32) (gwF (en I b) (tnF (I 1 1) (mf / 10) (mf - mf / 10 * 10)) (tnF (I 1 1) (mf / 10) (mf - mf / 10 * 10)) (fun _ => bit 0) (ix n) (bgF (gv I 16))) ∧ v1 = I1 34 (ix k) ∧ Fr [32, 33, 34, 35, 36, 37, 14, 15] I I1)) : HI I I1 := by
  rcases q1 with ⟨-, -, e⟩ | ⟨-, -, -, e⟩
  · exact HI.rf e
  · exact HI.fr e (by decide)
theorem hi_mark {I I1 : Is} {b : Bool} {ab : Int32} {v1 : Int32} (q1 : (¬ inP I ab ∧ v1 = -1 ∧ I1 = I) ∨ (inP I ab ∧ v1 = lmF (en I b) (ix (ab / 10)) (ix (ab - ab / 10 * 10)) 99 1 (bgF (gv I 16)) (I 16 0) ∧ Fr [32, 33, 34, 35, 36, 37, 38, 39, 40, 41, 42, 43, 14, 15] I I1)) : HI I I1 := by
  rcases q1 with ⟨-, -, e⟩ | ⟨-, -, e⟩
  · exact HI.rf e
  · exact HI.fr e (by decide)
theorem hi_halves {I I1 : Is} {b : Bool} {ab : Int32} {w : Int32} {v1 : Int32} (q1 : (¬ (inP I ab ∧ inR w 2) ∧ v1 = -1 ∧ I1 = I) ∨ ((inP I ab ∧ inR w 2) ∧ v1 = (if w = 0 then nI (hlF (fun x => gfF I b (ix (ab / 10)) (nI x)) (fun x => gfF I b (ix (ab - ab / 10 * 10)) (nI x)) (ix (I 16 0)) (I 2 (8 * ix (ab / 10) + 2)) (ix (I 16 0) + 1) 0 0 (-1)).1 else if w = 1 then (hlF (fun x => gfF I b (ix (ab / 10)) (nI x)) (fun x => gfF I b (ix (ab - ab / 10 * 10)) (nI x)) (ix (I 16 0)) (I 2 (8 * ix (ab / 10) + 2)) (ix (I 16 0) + 1) 0 0 (-1)).2 else imax (gfF I b (ix (ab - ab / 10 * 10)) (nI (hlF (fun x => gfF I b (ix (ab / 10)) (nI x)) (fun x => gfF I b (ix (ab - ab / 10 * 10)) (nI x)) (ix (I 16 0)) (I 2 (8 * ix (ab / 10) + 2)) (ix (I 16 0) + 1) 0 0 (-1)).1)) (gfF I b (ix (ab - ab / 10 * 10)) (nI (ix (I 16 0) - (hlF (fun x => gfF I b (ix (ab / 10)) (nI x)) (fun x => gfF I b (ix (ab - ab / 10 * 10)) (nI x)) (ix (I 16 0)) (I 2 (8 * ix (ab / 10) + 2)) (ix (I 16 0) + 1) 0 0 (-1)).1)))) ∧ Fr (29 :: [32, 33, 34, 35, 36, 37, 14, 15]) I I1)) : HI I I1 := by
  rcases q1 with ⟨-, -, e⟩ | ⟨-, -, e⟩
  · exact HI.rf e
  · exact HI.fr e (by decide)
theorem hi_reachFor {I I1 : Is} {b : Bool} {k : Int32} {n : Int32} {w : Int32} {v1 : Int32} (q1 : (¬ (inS I k ∧ inR n 60 ∧ inR w 3) ∧ v1 = -1 ∧ I1 = I) ∨ ((inS I k ∧ inR n 60 ∧ inR w 3) ∧ v1 = (if w - w / 2 * 2 = 0 then (bnF (fun x => gsF (if 2 ≤ w.toInt then 1 else 0) (drW I b (8 * ix k + 2) (nI x) (I 1 1).toInt.toNat (ix n)) (ix k)) (bnGo I 2 (if 2 ≤ w.toInt then 1 else 0)) (ix (imin 999 (I 16 0 + I 16 1)) + 1) 0 0 (-1)).1 else (bnF (fun x => gsF (if 2 ≤ w.toInt then 1 else 0) (drW I b (8 * ix k + 2) (nI x) (I 1 1).toInt.toNat (ix n)) (ix k)) (bnGo I 2 (if 2 ≤ w.toInt then 1 else 0)) (ix (imin 999 (I 16 0 + I 16 1)) + 1) 0 0 (-1)).2) ∧ Fr (28 :: [32, 33, 34, 35, 36, 37, 14, 15]) I I1)) : HI I I1 := by
  rcases q1 with ⟨-, -, e⟩ | ⟨-, -, e⟩
  · exact HI.rf e
  · exact HI.fr e (by decide)
theorem hi_slow {I I1 : Is} {b : Bool} {k : Int32} {n : Int32} {v1 : Int32} (q1 : (¬ (inS I k ∧ inR n 60) ∧ v1 = -1 ∧ I1 = I) ∨ ((inS I k ∧ inR n 60) ∧ v1 = (bnF (fun x => gsF 0 (drW I b (8 * ix k + 0) (nI x) (I 1 1).toInt.toNat (ix n)) (ix k)) (bnGo I 0 0) (ix (I 2 (8 * ix k + 0)) + 1) 0 0 (-1)).1 ∧ I1 28 0 = (bnF (fun x => gsF 0 (drW I b (8 * ix k + 0) (nI x) (I 1 1).toInt.toNat (ix n)) (ix k)) (bnGo I 0 0) (ix (I 2 (8 * ix k + 0)) + 1) 0 0 (-1)).2 ∧ Fr (28 :: [32, 33, 34, 35, 36, 37, 14, 15]) I I1)) : HI I I1 := by
  rcases q1 with ⟨-, -, e⟩ | ⟨-, -, -, e⟩
  · exact HI.rf e
  · exact HI.fr e (by decide)
theorem hi_both {I I1 : Is} {b : Bool} {n : Int32} {w : Int32} {v1 : Int32} (q1 : (¬ (inR n 60 ∧ inR w 1) ∧ v1 = -1 ∧ I1 = I) ∨ ((inR n 60 ∧ inR w 1) ∧ (I 1 1).toInt < 2 ∧ v1 = -5 ∧ I1 = I) ∨ ((inR n 60 ∧ inR w 1) ∧ 2 ≤ (I 1 1).toInt ∧ w = 0 ∧ slQ (g0F I b (I 1 1).toInt.toNat (ix n)) (g1F I b (I 1 1).toInt.toNat (ix n)) (ix (I 2 0)) (ix (I 2 8)) v1 ∧ Fr (30 :: 31 :: [32, 33, 34, 35, 36, 37, 14, 15]) I I1) ∨ ((inR n 60 ∧ inR w 1) ∧ 2 ≤ (I 1 1).toInt ∧ ¬ w = 0 ∧ v1 = (toF (tgV I b (I 1 1).toInt.toNat (ix n)) (ix (I 2 8)) (ix (I 2 0) + 1) 0 0 (-1)).1 ∧ Fr [32, 33, 34, 35, 36, 37, 14, 15] I I1)) : HI I I1 := by
  rcases q1 with ⟨-, -, e⟩ | ⟨-, -, -, e⟩ | ⟨-, -, -, -, e⟩ | ⟨-, -, -, -, e⟩
  · exact HI.rf e
  · exact HI.rf e
  · exact HI.fr e (by decide)
  · exact HI.fr e (by decide)
theorem hi_holeFor {I IA : Is} {b : Bool} {k : Int32} {h : Int32} {n : Int32} {v1 : Int32} (q1 : (¬ (inS I k ∧ inR h 999 ∧ inR n 60) ∧ v1 = -2000000000 ∧ IA = I) ∨ ((inS I k ∧ inR h 999 ∧ inR n 60) ∧ ∃ I1 : Is, Fr [32, 33, 34, 35, 36, 37, 14, 15] I I1 ∧ v1 = (otF (drW I b (8 * ix k + 6) h (I 1 1).toInt.toNat (ix n)).2.2.2.2.1 (ix k) (I 1 1).toInt.toNat) - (otF (drW I1 b (8 * ix k + 6) (-1) (I 1 1).toInt.toNat (ix n)).2.2.2.2.1 (ix k) (I 1 1).toInt.toNat) ∧ Fr [32, 33, 34, 35, 36, 37, 14, 15] I IA)) : HI I IA := by
  rcases q1 with ⟨-, -, e⟩ | ⟨-, ⟨-, -, -, e⟩⟩
  · exact HI.rf e
  · exact HI.fr e (by decide)
theorem hi_stopFor {I I1 : Is} {b : Bool} {k : Int32} {v1 : Int32} (q1 : (¬ inS I k ∧ v1 = -1 ∧ I1 = I) ∨ (inS I k ∧ v1 = lgF (en I b) (bit 7) (bit (1 <<< (k &&& 31))) (bit 0) (ix k) 99 (bgF (gv I 16)) 0 ∧ Fr [32, 33, 34, 35, 36, 37, 14, 15] I I1)) : HI I I1 := by
  rcases q1 with ⟨-, -, e⟩ | ⟨-, -, e⟩
  · exact HI.rf e
  · exact HI.fr e (by decide)
theorem hi_judge {I I1 : Is} {J : Js} {b : Bool} {k : Int32} {v1 : Int32} (q1 : (¬ rrF I k = 0 ∧ v1 = rrF I k ∧ I1 = I) ∨ (rrF I k = 0 ∧ v1 = fuF (J (shT k + 1)) (fun q => (goF (en I b) (bit 7) (bit 0) (bit 0) (q + 1) (bgF (gv I 16))).1) (I (shT k) 1).toInt.toNat 0 ∧ Fr [32, 33, 34, 35, 36, 37, 14, 15] I I1)) : HI I I1 := by
  rcases q1 with ⟨-, -, e⟩ | ⟨-, -, e⟩
  · exact HI.rf e
  · exact HI.fr e (by decide)
theorem hi_who {I I1 : Is} {J : Js} {b : Bool} {k : Int32} {w : Int32} {v1 : Int32} (q1 : (¬ inR w 1 ∧ v1 = -1 ∧ I1 = I) ∨ (inR w 1 ∧ ¬ rrF I k = 0 ∧ v1 = rrF I k ∧ I1 = I) ∨ (inR w 1 ∧ rrF I k = 0 ∧ v1 = (if w = 0 then sfF (fitF I J b (shT k) (I (shT k) 1).toInt.toNat) (2 ^ (I 1 1).toInt.toNat) 0 0 else lsetF (fitF I J b (shT k) (I (shT k) 1).toInt.toNat) (2 ^ (I 1 1).toInt.toNat) 0) ∧ Fr [32, 33, 34, 35, 36, 37, 14, 15] I I1)) : HI I I1 := by
  rcases q1 with ⟨-, -, e⟩ | ⟨-, -, -, e⟩ | ⟨-, -, -, e⟩
  · exact HI.rf e
  · exact HI.rf e
  · exact HI.fr e (by decide)
theorem hi_since {I I1 : Is} {J : Js} {b : Bool} {k : Int32} {x : Int32} {v1 : Int32} (q1 : (¬ inS I x ∧ v1 = -1 ∧ I1 = I) ∨ (inS I x ∧ ¬ rrF I k = 0 ∧ v1 = rrF I k ∧ I1 = I) ∨ (inS I x ∧ rrF I k = 0 ∧ v1 = sbkF (stpF I J b (shT k) (I (shT k) 1).toInt.toNat (ix x)) ((I (shT k) 1).toInt.toNat + 1) 0 ∧ Fr [32, 33, 34, 35, 36, 37, 14, 15] I I1)) : HI I I1 := by
  rcases q1 with ⟨-, -, e⟩ | ⟨-, -, -, e⟩ | ⟨-, -, -, e⟩
  · exact HI.rf e
  · exact HI.rf e
  · exact HI.fr e (by decide)
theorem hi_drawn {I I1 : Is} {b : Bool} {sd : Int32} {n : Int32} {x : Int32} {v1 : Int32} (q1 : (¬ ((1 ≤ n.toInt ∧ n.toInt ≤ 20) ∧ (x = -1 ∨ inS I x)) ∧ v1 = -1 ∧ I1 = I) ∨ (((1 ≤ n.toInt ∧ n.toInt ≤ 20) ∧ (x = -1 ∨ inS I x)) ∧ v1 = hgF (en I b) (I 2 27) (I 1 1).toInt.toNat (bgF (gv I 16)) x (ix n) sd 0 ∧ Fr [32, 33, 34, 35, 36, 37, 14, 15] I I1)) : HI I I1 := by
  rcases q1 with ⟨-, -, e⟩ | ⟨-, -, e⟩
  · exact HI.rf e
  · exact HI.fr e (by decide)
theorem hi_fill {I IA : Is} {v : Int32} {v1 : Int32} (q1 : (¬ inR v 999 ∧ v1 = -1 ∧ IA = I) ∨ (inR v 999 ∧ v1 = I 16 0 ∧ (IA 16 0 = v ∧ IA 16 1 = I 16 1 ∧ IA 16 2 = 0 ∧ IA 16 3 = I 16 3 ∧ IA 16 4 = I 16 4 + 1 ∧ (∀ k, k < 3 → IA 17 k = 0) ∧ Fr [16, 17] I IA))) : HI I IA := by
  rcases q1 with ⟨-, -, e⟩ | ⟨-, -, ⟨-, -, -, -, -, -, e⟩⟩
  · exact HI.rf e
  · exact HI.fr e (by decide)
theorem hi_led {I I1 : Is} {k : Int32} {w : Int32} {v1 : Int32} (q1 : (v1 = (leF I k w) ∧ I1 = I)) : HI I I1 := by
  obtain ⟨-, e⟩ := q1
  exact HI.rf e
theorem hi_back {I IA : Is} {v1 : Int32} (q1 : (I 0 9 = 0 ∧ v1 = -5 ∧ IA = I) ∨ (¬ I 0 9 = 0 ∧ v1 = IA 16 0 ∧ (EqV (gv IA 16) (gv I 22) ∧ IA 16 3 = I 22 3 ∧ IA 16 4 = I 22 4 ∧ Fr [16, 17, 18, 19, 20] I IA))) : HI I IA := by
  rcases q1 with ⟨-, -, e⟩ | ⟨-, -, ⟨-, -, -, e⟩⟩
  · exact HI.rf e
  · exact HI.fr e (by decide)
theorem hi_trace {I I1 : Is} {i : Int32} {v1 : Int32} (q1 : (v1 = (if 0 ≤ i.toInt ∧ i.toInt < (I 48 1).toInt ∧ i.toInt < 24 then I 50 (ix i) else -1) ∧ I1 = I)) : HI I I1 := by
  obtain ⟨-, e⟩ := q1
  exact HI.rf e
theorem hi_taken {I IA : Is} {k : Int32} {w : Int32} {v1 : Int32} (q1 : (v1 = tkF I k w ∧ IA = I)) : HI I IA := by
  obtain ⟨-, e⟩ := q1
  exact HI.rf e
theorem hi_count {I I1 : Is} {w : Int32} {v1 : Int32} (q1 : (v1 = (cnF I w) ∧ I1 = I)) : HI I I1 := by
  obtain ⟨-, e⟩ := q1
  exact HI.rf e
theorem hi_feed (I : Is) (c : Int32) : HI I (fdF I c).2 := by
  unfold fdF
  split
  · exact HI.rf rfl
  · split
    · exact HI.rf rfl
    · exact (HI.u2 (by decide)).tr (HI.u2 (by decide))
theorem hi_ice (I : Is) (v : Int32) : HI I (icF I v).2 := by
  unfold icF
  split
  · exact HI.rf rfl
  · split
    · exact HI.rf rfl
    · exact HI.u2 (by decide)
theorem hi_undo (I : Is) : HI I (undF I).2 := by
  unfold undF
  split
  · exact (HI.u2 (by decide)).tr (HI.u2 (by decide))
  · exact HI.rf rfl
theorem hi_redo (I : Is) : HI I (redF I).2 := by
  unfold redF
  split
  · exact (HI.u2 (by decide)).tr (HI.u2 (by decide))
  · exact HI.rf rfl
theorem hi_body (I : Is) (kd : Int32) : HI I (bdF I kd).2 := by
  unfold bdF
  split
  · split
    · exact HI.rf rfl
    · exact (HI.u2 (by decide)).tr (HI.u2 (by decide))
  · exact HI.rf rfl
theorem hi_act (I : Is) (n a x : Int32) : HI I (actF I n a x).2 := by
  unfold actF
  split
  · exact (HI.u2 (by decide)).tr (HI.fr (ntL_fr2 _ _).1 (by decide))
  · exact HI.u2 (by decide)
theorem shT_lt {k : Int32} (hk : inR k 5) : shT k < 64 := by
  have := sh_d hk
  unfold shT
  omega
theorem hi_law {u : Nat} (hu : u = 5 ∨ u = 10) (I : Is) : HI I (u2 (lawF u I).2 3 1 0) := by
  have h : HI I (lawF u I).2 := fun c hc => lawF_fu u I c (by omega) (by omega) (by omega) (by omega) (by omega)
  exact h.tr (HI.u2 (by decide))
theorem hi_keep {I IA : Is} {k : Int32} {x : Int32} {v1 : Int32} (q1 : (¬ (inR k 5 ∧ (x = -1 ∨ inB I x)) ∧ v1 = -1 ∧ IA = I) ∨ ((inR k 5 ∧ (x = -1 ∨ inB I x)) ∧ v1 = 1 ∧ IA = if x = -1 then u2 (u2 I (shT k) 0 (-2)) (shT k) 1 0 else u2 (u2 (u2 I (shT k) 0 (-1)) (shT k) 1 0) (shT k) 2 x)) : HI I IA := by
  rcases q1 with ⟨-, -, e⟩ | ⟨c, -, e⟩
  · exact HI.rf e
  · have hs := shT_lt c.1
    rw [e]
    split
    · exact (HI.u2 hs).tr (HI.u2 hs)
    · exact ((HI.u2 hs).tr (HI.u2 hs)).tr (HI.u2 hs)
theorem hi_row {I IA : Is} {J JA : Js} {k so n : Int32} {r1 : Option Value} (q1 : (¬ (inR k 5 ∧ inR so 4 ∧ n.toInt ≤ 60) ∧ r1 = some (.int (-1)) ∧ IA = I ∧ JA = J) ∨ ((inR k 5 ∧ inR so 4 ∧ n.toInt ≤ 60) ∧ n.toInt < 0 ∧ r1 = some (.int (-14)) ∧ IA = I ∧ JA = J) ∨ ((inR k 5 ∧ inR so 4 ∧ n.toInt ≤ 60) ∧ 0 ≤ n.toInt ∧ r1 = some (.int 1) ∧ IA = u2 (u2 I (shT k) 0 so) (shT k) 1 n ∧ (∀ q, q < 60 → JA (shT k + 1) q = 0) ∧ ∀ c, c ≠ shT k + 1 → JA c = J c)) : HI I IA := by
  rcases q1 with ⟨-, -, e, -⟩ | ⟨-, -, -, e, -⟩ | ⟨c, -, -, e, -⟩
  · exact HI.rf e
  · exact HI.rf e
  · have hs := shT_lt c.1
    rw [e]
    exact (HI.u2 hs).tr (HI.u2 hs)
theorem hi_straws {I I1 : Is} {J : Js} {k : Int32} {i : Int32} {n : Int32} {v1 : Int32} (q1 : (¬ (inR k 5 ∧ 1 ≤ n.toInt ∧ n.toInt ≤ 3) ∧ v1 = -1 ∧ I1 = I) ∨ ((inR k 5 ∧ 1 ≤ n.toInt ∧ n.toInt ≤ 3) ∧ I (shT k) 0 = -2 ∧ v1 = 0 ∧ I1 = I) ∨ ((inR k 5 ∧ 1 ≤ n.toInt ∧ n.toInt ≤ 3) ∧ ¬ I (shT k) 0 = -2 ∧ ¬ I (shT k) 0 = 0 ∧ v1 = -12 ∧ I1 = I) ∨ ((inR k 5 ∧ 1 ≤ n.toInt ∧ n.toInt ≤ 3) ∧ ¬ I (shT k) 0 = -2 ∧ I (shT k) 0 = 0 ∧ srF J (shT k) n.toInt.toNat 0 i I v1 I1)) : HI I I1 := by
  rcases q1 with ⟨-, -, e⟩ | ⟨-, -, -, e⟩ | ⟨-, -, -, -, e⟩ | ⟨-, -, -, h⟩
  · exact HI.rf e
  · exact HI.rf e
  · exact HI.rf e
  · exact HI.fr (sr_fr _ _ _ _ _ _ h) (by decide)
