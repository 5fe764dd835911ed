theorem inM_iff {I I1 : Is} (e6 : I1 64 6 = I 1 1) (k : Int32) : inM I1 k ↔ inS I k := by
  show (0 ≤ k.toInt ∧ k.toInt < (I1 64 6).toInt) ↔ (0 ≤ k.toInt ∧ k.toInt < (I 1 1).toInt)
  rw [e6]
theorem rel_1 {I I1 : Is} {J : Js} {b : Bool} (h : Rel I J b) (s : Sm I I1) : enM I1 = en I b ∧ EqV (gvT I1) (gv I 16) ∧ I1 64 6 = I 1 1 := by
  have h1 := h.sm s
  have g : gv I1 16 = gv I 16 := by
    unfold gv
    rw [s.1 16 (by decide) (by decide), s.1 (16 + 1) (by decide) (by decide), s.1 (16 + 2) (by decide) (by decide), s.1 (16 + 3) (by decide) (by decide), s.1 (16 + 4) (by decide) (by decide)]
  have q := h1.2.1.1
  rw [g] at q
  refine ⟨(rel_en h1.1).trans ?_, q, (s.2.2 6 (by decide)).trans h.1.1⟩
  have hc : ∀ c, c ∈ [1, 2, 5, 6, 7, 8, 10, 11, 12, 13] → I1 c = I c := fun c hc => s.lo (by simp at hc; omega)
  exact en_rows hc
theorem s_lt {I : Is} {J : Js} {b : Bool} (h : Rel I J b) {k : Int32} (hk : inS I k) : ix k < 3 := by
  have h3 := h.1.2.2.1.2.1
  have := ix_nn hk.1
  have := hk.2
  omega
theorem gw_free {e : EV} {pt hc : Nat → Nat → Bool} {v : GV} : ∀ n, gwF e pt (fun _ _ => true) hc n v = gwF e pt pt hc n v := by
  intro n
  induction n with
  | zero => rfl
  | succ n ih =>
    show secF e (pt n) (fun _ => true) (hc n) (gwF e pt (fun _ _ => true) hc n v) = secF e (pt n) (pt n) (hc n) (gwF e pt pt hc n v)
    rw [ih]
    exact secF_pt _ (fun k _ => ⟨rfl, fun z => z.symm, rfl⟩)
theorem bs_cg {f f' : Nat → Int32} (h : ∀ k, k < 3 → f k = f' k) : ∀ n, n ≤ 3 → bsF f n = bsF f' n ∧ bsF f n < 3 := by
  intro n
  induction n with
  | zero => intro _; exact ⟨rfl, (by decide : 0 < 3)⟩
  | succ n ih =>
    intro hn
    obtain ⟨a, c⟩ := ih (by omega)
    show (if (f (bsF f n)).toInt < (f n).toInt then n else bsF f n) = (if (f' (bsF f' n)).toInt < (f' n).toInt then n else bsF f' n) ∧ (if (f (bsF f n)).toInt < (f n).toInt then n else bsF f n) < 3
    rw [← a, h n (by omega), h _ c]
    refine ⟨rfl, ?_⟩
    split
    · omega
    · exact c
theorem ls_cg {f f' : Nat → Int32} (h : ∀ k, k < 3 → f k = f' k) : ∀ n, n ≤ 3 → lsF f n = lsF f' n := by
  intro n
  induction n with
  | zero => intro _; exact h 0 (by decide)
  | succ n ih =>
    intro hn
    show imin (lsF f n) (f n) = imin (lsF f' n) (f' n)
    rw [ih (by omega), h n (by omega)]
theorem ml_rt : ∀ c ∈ RTM, c ∈ [72, 73, 74, 75, 76, 77, 78, 79, 80] := by decide
theorem c_glass {I I1 I2 : Is} {J : Js} {b : Bool} {n : Int32} {k : Int32} {w : Int32} {v1 v2 : Int32} (h : Rel I J b) (q1 : (¬ (inR n 999 ∧ inS I k ∧ inR w 2) ∧ v1 = -1 ∧ I1 = I) ∨ ((inR n 999 ∧ inS I k ∧ inR w 2) ∧ EqV (gv I1 32) (goF (en I b) (bit 7) (bit 0) (bit 0) (ix n) (bgF (gv I 16))) ∧ v1 = (if w = 0 then I1 34 (ix k) else if w = 1 then I1 35 (ix k) else I1 36 (ix k)) ∧ Fr [32, 33, 34, 35, 36, 37, 14, 15] I I1)) (q2 : (¬ (inR n 999 ∧ inM I1 k ∧ inR w 2) ∧ v2 = -1 ∧ I2 = I1) ∨ ((inR n 999 ∧ inM I1 k ∧ inR w 2) ∧ v2 = (if w = 0 then (goF (enM I1) (bit 7) (bit 0) (bit 0) (ix n) (bgF (gvT I1))).2.2.2.2.1 (ix k) else if w = 1 then (goF (enM I1) (bit 7) (bit 0) (bit 0) (ix n) (bgF (gvT I1))).2.2.2.2.2.1 (ix k) else (goF (enM I1) (bit 7) (bit 0) (bit 0) (ix n) (bgF (gvT I1))).2.2.2.2.2.2 (ix k)) ∧ FrM RTM FTM I1 I2)) : v2 = v1 ∧ Rel I2 J b := by
  rcases q1 with ⟨c1, hv, hI⟩ | ⟨c1, hE, hv, hF⟩
  · rw [hI] at q2
    rw [inM_iff h.1.1] at q2
    rcases q2 with ⟨d, hv2, hI2⟩ | ⟨d, -⟩
    · exact ⟨hv2.trans hv.symm, by rw [hI2]; exact h⟩
    · exact absurd d c1
  · have s1 := Sm.fr hF (by decide)
    obtain ⟨en1, gl1, e6⟩ := rel_1 h s1
    have hq := (rel_go h s1 (bit 7) (bit 0) (bit 0) (ix n)).tr hE.sy
    rw [inM_iff e6] at q2
    rcases q2 with ⟨d, -⟩ | ⟨-, hv2, hF2⟩
    · exact absurd c1 d
    · have hk := s_lt h c1.2.1
      refine ⟨?_, h.sm (Sm.of hF hF2 (by decide) (by decide))⟩
      rw [hv2, hv]
      by_cases w0 : w = 0
      · rw [if_pos w0, if_pos w0]; exact hq.2.2.2.2.1 _ hk
      rw [if_neg w0, if_neg w0]
      by_cases w1 : w = 1
      · rw [if_pos w1, if_pos w1]; exact hq.2.2.2.2.2.1 _ hk
      · rw [if_neg w1, if_neg w1]; exact hq.2.2.2.2.2.2 _ hk
theorem c_level {I I1 I2 : Is} {J : Js} {b : Bool} {n : Int32} {w : Int32} {v1 v2 : Int32} (h : Rel I J b) (q1 : (¬ (inR n 999 ∧ inR w 1) ∧ v1 = -1 ∧ I1 = I) ∨ ((inR n 999 ∧ inR w 1) ∧ EqV (gv I1 32) (goF (en I b) (bit 7) (bit 0) (bit 0) (ix n) (bgF (gv I 16))) ∧ v1 = (if w = 0 then I1 32 0 else I1 32 1) ∧ Fr [32, 33, 34, 35, 36, 37, 14, 15] I I1)) (q2 : (¬ (inR n 999 ∧ inR w 1) ∧ v2 = -1 ∧ I2 = I1) ∨ ((inR n 999 ∧ inR w 1) ∧ v2 = (if w = 0 then (goF (enM I1) (bit 7) (bit 0) (bit 0) (ix n) (bgF (gvT I1))).1 else (goF (enM I1) (bit 7) (bit 0) (bit 0) (ix n) (bgF (gvT I1))).2.1) ∧ FrM RTM FTM I1 I2)) : v2 = v1 ∧ Rel I2 J b := by
  rcases q1 with ⟨c1, hv, hI⟩ | ⟨c1, hE, hv, hF⟩
  · rw [hI] at q2
    rcases q2 with ⟨d, hv2, hI2⟩ | ⟨d, -⟩
    · exact ⟨hv2.trans hv.symm, by rw [hI2]; exact h⟩
    · exact absurd d c1
  · have s1 := Sm.fr hF (by decide)
    have hq := (rel_go h s1 (bit 7) (bit 0) (bit 0) (ix n)).tr hE.sy
    rcases q2 with ⟨d, -⟩ | ⟨-, hv2, hF2⟩
    · exact absurd c1 d
    · refine ⟨?_, h.sm (Sm.of hF hF2 (by decide) (by decide))⟩
      rw [hv2, hv]
      by_cases w0 : w = 0
      · rw [if_pos w0, if_pos w0]; exact hq.1
      · rw [if_neg w0, if_neg w0]; exact hq.2.1
theorem c_turns {I I1 I2 : Is} {J : Js} {b : Bool} {n : Int32} {mf : Int32} {k : Int32} {v1 v2 : Int32} (h : Rel I J b) (q1 : (¬ ((0 ≤ mf.toInt ∧ inR n 999 ∧ inS I k) ∧ (1 ≤ (mf / 10).toInt ∧ (mf / 10).toInt ≤ 60) ∧ inS I (mf - mf / 10 * 10)) ∧ v1 = -1 ∧ I1 = I) ∨ (((0 ≤ mf.toInt ∧ inR n 999 ∧ inS I k) ∧ (1 ≤ (mf / 10).toInt ∧ (mf / 10).toInt ≤ 60) ∧ inS I (mf - mf / 10 * 10)) ∧ EqV (gv I1 32) (gwF (en I b) (tnF (I 1 1) (mf / 10) (mf - mf / 10 * 10)) (tnF (I 1 1) (mf / 10) (mf - mf / 10 * 10)) (fun _ => bit 0) (ix n) (bgF (gv I 16))) ∧ v1 = I1 34 (ix k) ∧ Fr [32, 33, 34, 35, 36, 37, 14, 15] I I1)) (q2 : (¬ (inR n 999 ∧ 0 ≤ mf.toInt ∧ (1 ≤ (mf / 10).toInt ∧ (mf / 10).toInt ≤ 60) ∧ inM I1 (mf - mf / 10 * 10) ∧ inM I1 k) ∧ v2 = -1 ∧ I2 = I1) ∨ ((inR n 999 ∧ 0 ≤ mf.toInt ∧ (1 ≤ (mf / 10).toInt ∧ (mf / 10).toInt ≤ 60) ∧ inM I1 (mf - mf / 10 * 10) ∧ inM I1 k) ∧ v2 = (gwF (enM I1) (tnF (I1 64 6) (mf / 10) (mf - mf / 10 * 10)) (fun _ _ => true) (fun _ => bit 0) (ix n) (bgF (gvT I1))).2.2.2.2.1 (ix k) ∧ FrM RTM FTM I1 I2)) : v2 = v1 ∧ Rel I2 J b := by
  rcases q1 with ⟨c1, hv, hI⟩ | ⟨c1, hE, hv, hF⟩
  · rw [hI] at q2
    rw [inM_iff h.1.1, inM_iff h.1.1] at q2
    rcases q2 with ⟨d, hv2, hI2⟩ | ⟨d, -⟩
    · exact ⟨hv2.trans hv.symm, by rw [hI2]; exact h⟩
    · exact absurd ⟨⟨d.2.1, d.1, d.2.2.2.2⟩, d.2.2.1, d.2.2.2.1⟩ c1
  · have s1 := Sm.fr hF (by decide)
    obtain ⟨en1, gl1, e6⟩ := rel_1 h s1
    rw [inM_iff e6, inM_iff e6, en1, e6, gw_free] at q2
    have he := (en_ok (b := b) h.1.2.2.1).1
    have hq := (gw_eqv he (bg_eqv gl1) (ix n)).tr hE.sy
    rcases q2 with ⟨d, -⟩ | ⟨-, hv2, hF2⟩
    · exact absurd ⟨c1.1.2.1, c1.1.1, c1.2.1, c1.2.2, c1.1.2.2⟩ d
    · refine ⟨?_, h.sm (Sm.of hF hF2 (by decide) (by decide))⟩
      rw [hv2, hv]
      exact hq.2.2.2.2.1 _ (s_lt h c1.1.2.2)
theorem c_wants {I I1 I2 : Is} {J : Js} {b : Bool} {k : Int32} {l : Int32} {t : Int32} {v1 v2 : Int32} (h : Rel I J b) (q1 : (¬ (inS I k ∧ inR l 999 ∧ inR t 999) ∧ v1 = -1 ∧ I1 = I) ∨ ((inS I k ∧ inR l 999 ∧ inR t 999) ∧ v1 = wantF I b (ix k) l t ∧ Fr [14, 15] I I1)) (q2 : (¬ wsM I1 k l t ∧ v2 = -1 ∧ I2 = I1) ∨ (wsM I1 k l t ∧ v2 = wtM I1 (ix k) l t ∧ FrM [72] [15, 16, 17, 18, 19] I1 I2)) : v2 = v1 ∧ Rel I2 J b := by
  rcases q1 with ⟨c1, hv, hI⟩ | ⟨c1, hv, hF⟩
  · rw [hI] at q2
    unfold wsM at q2
    rw [h.1.1] at q2
    rcases q2 with ⟨d, hv2, hI2⟩ | ⟨d, -⟩
    · exact ⟨hv2.trans hv.symm, by rw [hI2]; exact h⟩
    · exact absurd d c1
  · have s1 := Sm.fr hF (by decide)
    obtain ⟨en1, gl1, e6⟩ := rel_1 h s1
    unfold wsM at q2
    rw [e6] at q2
    rcases q2 with ⟨d, -⟩ | ⟨-, hv2, hF2⟩
    · exact absurd c1 d
    · have hF2 : FrM [72] FTM I1 I2 := hF2.mo (by decide) (by decide)
      refine ⟨?_, h.sm (Sm.of hF hF2 (by decide) (by decide))⟩
      rw [hv2, hv]
      have ew : wtM I1 = wantF I b := congrArg (fun e : EV => e.2.2) en1
      rw [ew]
theorem c_empty {I I1 I2 : Is} {J : Js} {b : Bool}  {v1 v2 : Int32} (h : Rel I J b) (q1 : ((∃ i : Nat, i ≤ 999 ∧ v1 = nI i ∧ ovF (en I b) (goF (en I b) (bit 7) (bit 0) (bit 0) i (bgF (gv I 16))) ∧ ∀ k, k < i → ¬ ovF (en I b) (goF (en I b) (bit 7) (bit 0) (bit 0) k (bgF (gv I 16)))) ∨ (v1 = -2 ∧ ∀ k, k ≤ 999 → ¬ ovF (en I b) (goF (en I b) (bit 7) (bit 0) (bit 0) k (bgF (gv I 16))))) ∧ Fr [32, 33, 34, 35, 36, 37, 14, 15] I I1) (q2 : ((∃ i : Nat, i ≤ 999 ∧ v2 = nI i ∧ ovF (enM I1) (goF (enM I1) (bit 7) (bit 0) (bit 0) i (bgF (gvT I1))) ∧ ∀ k, k < i → ¬ ovF (enM I1) (goF (enM I1) (bit 7) (bit 0) (bit 0) k (bgF (gvT I1)))) ∨ (v2 = -2 ∧ ∀ k, k ≤ 999 → ¬ ovF (enM I1) (goF (enM I1) (bit 7) (bit 0) (bit 0) k (bgF (gvT I1))))) ∧ FrM RTM FTM I1 I2) : v2 = v1 ∧ Rel I2 J b := by
  obtain ⟨q1, hF⟩ := q1
  obtain ⟨q2, hF2⟩ := q2
  have s1 := Sm.fr hF (by decide)
  obtain ⟨en1, gl1, e6⟩ := rel_1 h s1
  have ho : ∀ i, ovF (enM I1) (goF (enM I1) (bit 7) (bit 0) (bit 0) i (bgF (gvT I1))) ↔ ovF (en I b) (goF (en I b) (bit 7) (bit 0) (bit 0) i (bgF (gv I 16))) := fun i => by
    have hg := rel_go h s1 (bit 7) (bit 0) (bit 0) i
    unfold ovF
    rw [hg.1, hg.2.1, hg.2.2.1, en1]
  refine ⟨?_, h.sm (Sm.of hF hF2 (by decide) (by decide))⟩
  rcases q1 with ⟨i, hi, hv, ho1, hn1⟩ | ⟨hv, hn1⟩
  · rcases q2 with ⟨j, hj, hv2, ho2, hn2⟩ | ⟨hv2, hn2⟩
    · have hij : i = j := by
        by_cases a : i < j
        · exact absurd ((ho i).mpr ho1) (hn2 i a)
        · by_cases c : j < i
          · exact absurd ((ho j).mp ho2) (hn1 j c)
          · omega
      rw [hv2, hv, hij]
    · exact absurd ((ho i).mpr ho1) (hn2 i hi)
  · rcases q2 with ⟨j, hj, hv2, ho2, hn2⟩ | ⟨hv2, hn2⟩
    · exact absurd ((ho j).mp ho2) (hn1 j hj)
    · rw [hv2, hv]
theorem c_more {I I1 I2 : Is} {J : Js} {b : Bool} {n : Int32} {w : Int32} {v1 v2 : Int32} (h : Rel I J b) (q1 : (¬ (inR n 999 ∧ inR w 1) ∧ v1 = -1 ∧ I1 = I) ∨ ((inR n 999 ∧ inR w 1) ∧ I 1 1 = 0 ∧ v1 = (if w = 0 then -2 else 0) ∧ I1 = I) ∨ ((inR n 999 ∧ inR w 1) ∧ ¬ I 1 1 = 0 ∧ EqV (gv I1 32) (goF (en I b) (bit 7) (bit 0) (bit 0) (ix n) (bgF (gv I 16))) ∧ v1 = (if w = 0 then nI (bsF (I1 34) (I 1 1).toInt.toNat) else I1 34 (bsF (I1 34) (I 1 1).toInt.toNat) - lsF (I1 34) (I 1 1).toInt.toNat) ∧ Fr [32, 33, 34, 35, 36, 37, 14, 15] I I1)) (q2 : ((¬ (inR n 999 ∧ inR w 1) ∧ v2 = -1 ∧ I2 = I1) ∨ ((inR n 999 ∧ inR w 1) ∧ I1 64 6 = 0 ∧ v2 = (if w = 0 then -2 else 0) ∧ I2 = I1) ∨ ((inR n 999 ∧ inR w 1) ∧ ¬ I1 64 6 = 0 ∧ TH I1 I2 (bit 7) (bit 0) (bit 0) (goF (enM I1) (bit 7) (bit 0) (bit 0) (ix n) (bgF (gvT I1))) ∧ v2 = (if w = 0 then nI (bsF (I2 74) (I1 64 6).toInt.toNat) else I2 74 (bsF (I2 74) (I1 64 6).toInt.toNat) - lsF (I2 74) (I1 64 6).toInt.toNat)))) : v2 = v1 ∧ Rel I2 J b := by
  rcases q1 with ⟨c1, hv, hI⟩ | ⟨c1, c0, hv, hI⟩ | ⟨c1, c0, hE, hv, hF⟩
  · rw [hI] at q2
    rcases q2 with ⟨d, hv2, hI2⟩ | ⟨d, -⟩ | ⟨d, -⟩
    · exact ⟨hv2.trans hv.symm, by rw [hI2]; exact h⟩
    · exact absurd d c1
    · exact absurd d c1
  · rw [hI] at q2
    rw [h.1.1] at q2
    rcases q2 with ⟨d, -⟩ | ⟨d, -, hv2, hI2⟩ | ⟨d, d0, -⟩
    · exact absurd c1 d
    · exact ⟨hv2.trans hv.symm, by rw [hI2]; exact h⟩
    · exact absurd c0 d0
  · have s1 := Sm.fr hF (by decide)
    obtain ⟨en1, gl1, e6⟩ := rel_1 h s1
    rw [e6] at q2
    rcases q2 with ⟨d, -⟩ | ⟨d, d0, -⟩ | ⟨d, d0, hT, hv2⟩
    · exact absurd c1 d
    · exact absurd d0 c0
    · have hF2 := hT.1
      have hq := (hT.2.1.tr (rel_go h s1 (bit 7) (bit 0) (bit 0) (ix n))).tr hE.sy
      have hgk : ∀ k, k < 3 → I2 74 k = I1 34 k := fun k hk => hq.2.2.2.2.1 k hk
      have hs3 : (I 1 1).toInt.toNat ≤ 3 := by have := h.1.2.2.1.2.1; omega
      obtain ⟨b1_, b2_⟩ := bs_cg hgk _ hs3
      refine ⟨?_, h.sm (Sm.of hF (l2 := RTM) hF2 (by decide) (by decide))⟩
      rw [hv2, hv]
      by_cases w0 : w = 0
      · rw [if_pos w0, if_pos w0, b1_]
      · rw [if_neg w0, if_neg w0, ls_cg hgk _ hs3, hgk _ b2_, b1_]
