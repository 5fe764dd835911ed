theorem ntF_fr (I : Is) (x : Int32) : Fr [48, 50] I (ntF I x) ∧ ntF I x 48 0 = I 48 0 := by
  unfold ntF
  split
  · exact ⟨(Fr.rf.st (by decide)).st (by decide), by rw [u2_ne _ _ _ _ (Or.inr (by decide))]; exact congrFun (u2_row (by decide)) 0⟩
  · exact ⟨Fr.rf.st (by decide), u2_ne _ _ _ _ (Or.inr (by decide))⟩
theorem ntL_fr2 (l : List Int32) : ∀ I : Is, Fr [48, 50] I (ntL I l) ∧ ntL I l 48 0 = I 48 0 := by
  induction l with
  | nil => intro I; exact ⟨Fr.rf, rfl⟩
  | cons a l ih =>
    intro I
    obtain ⟨h1, h2⟩ := ntF_fr I a
    obtain ⟨h3, h4⟩ := ih (ntF I a)
    exact ⟨h1.tr h3 (fun c h => h) (fun c h => h), h4.trans h2⟩
theorem nt_both (l : List Int32) : ∀ I M : Is, M 64 46 = I 48 1 → M 86 = I 50 → ntLM M l 64 46 = ntL I l 48 1 ∧ ntLM M l 86 = ntL I l 50 := by
  induction l with
  | nil => intro I M h1 h2; exact ⟨h1, h2⟩
  | cons a l ih =>
    intro I M h1 h2
    refine ih (ntF I a) (ntM M a) ?_ ?_
    · rw [ntM_46]
      unfold ntF
      rw [u2_same, h1]
    · unfold ntM ntF
      rw [u2_row (t := 64) (t' := 86) (by decide), u2_row (t := 48) (t' := 50) (by decide), h1]
      by_cases c : (I 48 1).toInt < 24
      · rw [if_pos c, if_pos c]
        funext k
        by_cases e : k = ix (I 48 1)
        · rw [e, u2_same, u2_same]
        · rw [u2_ne _ _ _ _ (Or.inr e), u2_ne _ _ _ _ (Or.inr e), h2]
      · rw [if_neg c, if_neg c]; exact h2
theorem te_len (n own k x : Int32) : (teM n own k x).2.length ≤ 14 := by
  have h0 : (te0M n own x).2.length ≤ 13 := by
    have h1 := ge_len n own own x
    have h2 := rs_len n own own 1
    show (_ ++ _ : List Int32).length + 1 ≤ 13
    rw [List.length_append]
    omega
  unfold teM
  split
  · show _ + 1 ≤ 14; omega
  · split
    · show _ + 1 ≤ 14; omega
    · omega
theorem rn_len (n own a x : Int32) : (rnM n own a x).2.length ≤ 14 := by
  unfold rnM
  split
  · have := dr_len n own x; omega
  · split
    · have := ge_len n own own x; omega
    · split
      · have := rs_len n own own x; omega
      · split
        · exact te_len n own own x
        · exact Nat.zero_le _
/-- behind an act: who ran, of both -/
theorem act_rel {I IA IB : Is} {J : Js} {b : Bool} (hR : Rel I J b) (l : List Int32) (hl : l.length ≤ 14) (hI : IA = ntL (u2 I 48 1 0) l) {M : Is} (hM : FrM [86] [46, 47, 48] IA M) (h46 : M 64 46 = 0) (h86 : M 86 = IA 86) (hI2 : IB = ntLM M l) : Rel IB J b := by
  obtain ⟨hA, hB, hC, hD, hE, hF⟩ := hR
  obtain ⟨a1, a2, a3, a4, a5, a6, a7⟩ := hE
  obtain ⟨n1, n2⟩ := ntL_fr2 l (u2 I 48 1 0)
  have hFA : FrM [48, 50] [] I IA := by rw [hI]; exact (Fr.tr (Fr.rf.st (l := [48, 50]) (by decide)) n1 (fun c h => h) (fun c h => h)).fm (by decide)
  have e480 : IA 48 0 = I 48 0 := by rw [hI, n2, u2_ne _ _ _ _ (Or.inr (by decide))]
  have e86 : IA 86 = I 50 := (hFA.1 86 (by decide) (by decide)).trans a7
  obtain ⟨t1, t2⟩ := nt_both l (u2 I 48 1 0) M (by rw [h46, u2_same]) (by rw [h86, e86, u2_row (t := 48) (t' := 50) (by decide)])
  rw [← hI2, ← hI] at t1 t2
  have hF2 : FrM [86] [46, 47, 48] IA IB := by rw [hI2]; exact hM.tr (ntLM_fr l M) (by decide) (by decide) (by decide) (by decide)
  have hFF : FrM [48, 50, 86] [46, 47, 48] I IB := hFA.tr hF2 (by decide) (by decide) (by decide) (by decide)
  have r48 : IB 48 = IA 48 := hF2.1 48 (by decide) (by decide)
  have r50 : IB 50 = IA 50 := hF2.1 50 (by decide) (by decide)
  have hran := ntLM_46 l M (by rw [h46]; decide) (by rw [h46, show (0 : Int32).toInt = 0 from rfl]; omega)
  rw [← hI2, t1, h46, show (0 : Int32).toInt = 0 from rfl] at hran
  refine ⟨hA.fm hFF (by decide) (by decide), hB.fm hFF (by decide) (by decide), hC.fm hFF (by decide) (by decide), hD.fm hFF (by decide) (by decide), ⟨?_, ?_, ?_, ?_, ?_, ?_, ?_⟩, hF.up hFF (by decide) (by rw [r48, e480]; exact Int.le_refl _)⟩
  · rw [hFF.2 43 (by decide), r48, e480]; exact a1
  · rw [r48, e480]; exact a2
  · rw [hFF.1 85 (by decide) (by decide), hFF.1 49 (by decide) (by decide)]; exact a3
  · rw [hFF.1 49 (by decide) (by decide)]; exact a4
  · rw [t1, r48]
  · rw [r48, hran]; omega
  · rw [t2, r50]
theorem c_act {I IA IB : Is} {J : Js} {b : Bool} {n : Int32} {a : Int32} {x : Int32} {v1 v2 : Int32} (hR : Rel I J b) (q1 : (v1 = (actF I n a x).1 ∧ IA = (actF I n a x).2)) (q2 : (v2 = (acM IA n a x).1 ∧ IB = (acM IA n a x).2)) : v2 = v1 ∧ Rel IB J b := by
  obtain ⟨hv, hI⟩ := q1
  obtain ⟨hv2, hI2⟩ := q2
  have hE := hR.2.2.2.2.1
  obtain ⟨a1, a2, a3, a4, a5, a6, a7⟩ := hE
  unfold actF at hv hI
  unfold acM at hv2 hI2
  by_cases cn : 0 ≤ n.toInt ∧ n.toInt < (I 48 0).toInt
  · have hown := a4 (ix n)
    by_cases ca : 0 ≤ a.toInt ∧ a.toInt < 4
    · rw [if_pos ⟨cn, ca⟩] at hv hI
      rw [run_rn hown.1 hown.2 ca.1 ca.2] at hv hI
      have hI : IA = ntL (u2 I 48 1 0) (rnM n (I 49 (ix n)) a x).2 := hI
      obtain ⟨n1, n2⟩ := ntL_fr2 (rnM n (I 49 (ix n)) a x).2 (u2 I 48 1 0)
      have hFA : FrM [48, 50] [] I IA := by rw [hI]; exact (Fr.tr (Fr.rf.st (l := [48, 50]) (by decide)) n1 (fun c h => h) (fun c h => h)).fm (by decide)
      have h43 : IA 64 43 = I 48 0 := (hFA.2 43 (by simp)).trans a1
      have h85 : IA 85 = I 49 := (hFA.1 85 (by decide) (by decide)).trans a3
      rw [h43, if_pos cn, h85] at hv2 hI2
      refine ⟨hv2.trans hv.symm, act_rel hR _ (rn_len _ _ _ _) hI (M := ac1M IA n) ?_ rfl rfl hI2⟩
      unfold ac1M
      exact ((FrM.rf.sf (by decide)).sf (by decide)).sf (by decide)
    · rw [if_neg (fun z => ca z.2)] at hv hI
      have hI : IA = ntL (u2 I 48 1 0) [] := hI
      have hFA : FrM [48] [] I IA := by rw [hI]; exact FrM.rf.st (by decide) (by decide)
      have h43 : IA 64 43 = I 48 0 := (hFA.2 43 (by simp)).trans a1
      have hr : rnM n (IA 85 (ix n)) a x = (0, []) := by
        unfold rnM
        rw [if_neg (fun z => ca (by rw [z]; decide)), if_neg (fun z => ca (by rw [z]; decide)), if_neg (fun z => ca (by rw [z]; decide)), if_neg (fun z => ca (by rw [z]; decide))]
      rw [h43, if_pos cn, hr] at hv2 hI2
      refine ⟨hv2.trans hv.symm, act_rel hR [] (Nat.zero_le _) hI (M := ac1M IA n) ?_ rfl rfl hI2⟩
      unfold ac1M
      exact ((FrM.rf.sf (by decide)).sf (by decide)).sf (by decide)
  · rw [if_neg (fun z => cn z.1)] at hv hI
    have hI : IA = ntL (u2 I 48 1 0) [] := hI
    have hFA : FrM [48] [] I IA := by rw [hI]; exact FrM.rf.st (by decide) (by decide)
    have h43 : IA 64 43 = I 48 0 := (hFA.2 43 (by simp)).trans a1
    rw [h43, if_neg cn] at hv2 hI2
    exact ⟨hv2.trans hv.symm, act_rel hR [] (Nat.zero_le _) hI (M := u2 IA 64 46 0) (FrM.rf.sf (by decide)) rfl rfl hI2⟩
