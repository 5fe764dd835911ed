theorem mb_0 (v : Int32) : (0 ≤ v.toInt ∧ v.toInt ≤ 20) ↔ fitP 0 v := by
  have e1 : ((sLs 0).getD (ix (0 : Int32)) 0).toInt = 0 := by decide
  have e2 : ((sLs 1).getD (ix (0 : Int32)) 0).toInt = 20 := by decide
  unfold fitP
  rw [e1, e2]
  exact ⟨fun h => ⟨by decide, by decide, h.1, h.2⟩, fun h => ⟨h.2.2.1, h.2.2.2⟩⟩
theorem mb_1 (v : Int32) : (1 ≤ v.toInt ∧ v.toInt ≤ 9) ↔ fitP 1 v := by
  have e1 : ((sLs 0).getD (ix (1 : Int32)) 0).toInt = 1 := by decide
  have e2 : ((sLs 1).getD (ix (1 : Int32)) 0).toInt = 9 := by decide
  unfold fitP
  rw [e1, e2]
  exact ⟨fun h => ⟨by decide, by decide, h.1, h.2⟩, fun h => ⟨h.2.2.1, h.2.2.2⟩⟩
theorem mb_2 (v : Int32) : (0 ≤ v.toInt ∧ v.toInt ≤ 999) ↔ fitP 2 v := by
  have e1 : ((sLs 0).getD (ix (2 : Int32)) 0).toInt = 0 := by decide
  have e2 : ((sLs 1).getD (ix (2 : Int32)) 0).toInt = 999 := by decide
  unfold fitP
  rw [e1, e2]
  exact ⟨fun h => ⟨by decide, by decide, h.1, h.2⟩, fun h => ⟨h.2.2.1, h.2.2.2⟩⟩
theorem mb_3 (v : Int32) : (1 ≤ v.toInt ∧ v.toInt ≤ 99) ↔ fitP 3 v := by
  have e1 : ((sLs 0).getD (ix (3 : Int32)) 0).toInt = 1 := by decide
  have e2 : ((sLs 1).getD (ix (3 : Int32)) 0).toInt = 99 := by decide
  unfold fitP
  rw [e1, e2]
  exact ⟨fun h => ⟨by decide, by decide, h.1, h.2⟩, fun h => ⟨h.2.2.1, h.2.2.2⟩⟩
theorem mb_4 (v : Int32) : (1 ≤ v.toInt ∧ v.toInt ≤ 60) ↔ fitP 4 v := by
  have e1 : ((sLs 0).getD (ix (4 : Int32)) 0).toInt = 1 := by decide
  have e2 : ((sLs 1).getD (ix (4 : Int32)) 0).toInt = 60 := by decide
  unfold fitP
  rw [e1, e2]
  exact ⟨fun h => ⟨by decide, by decide, h.1, h.2⟩, fun h => ⟨h.2.2.1, h.2.2.2⟩⟩
theorem mb_5 (v : Int32) : (0 ≤ v.toInt ∧ v.toInt ≤ 60) ↔ fitP 5 v := by
  have e1 : ((sLs 0).getD (ix (5 : Int32)) 0).toInt = 0 := by decide
  have e2 : ((sLs 1).getD (ix (5 : Int32)) 0).toInt = 60 := by decide
  unfold fitP
  rw [e1, e2]
  exact ⟨fun h => ⟨by decide, by decide, h.1, h.2⟩, fun h => ⟨h.2.2.1, h.2.2.2⟩⟩
theorem mb_6 (v : Int32) : (-1 ≤ v.toInt ∧ v.toInt ≤ 999) ↔ fitP 6 v := by
  have e1 : ((sLs 0).getD (ix (6 : Int32)) 0).toInt = -1 := by decide
  have e2 : ((sLs 1).getD (ix (6 : Int32)) 0).toInt = 999 := by decide
  unfold fitP
  rw [e1, e2]
  exact ⟨fun h => ⟨by decide, by decide, h.1, h.2⟩, fun h => ⟨h.2.2.1, h.2.2.2⟩⟩
theorem mb_7 (v : Int32) : (0 ≤ v.toInt ∧ v.toInt ≤ 999) ↔ fitP 7 v := by
  have e1 : ((sLs 0).getD (ix (7 : Int32)) 0).toInt = 0 := by decide
  have e2 : ((sLs 1).getD (ix (7 : Int32)) 0).toInt = 999 := by decide
  unfold fitP
  rw [e1, e2]
  exact ⟨fun h => ⟨by decide, by decide, h.1, h.2⟩, fun h => ⟨h.2.2.1, h.2.2.2⟩⟩
theorem mb_8 (v : Int32) : (0 ≤ v.toInt ∧ v.toInt ≤ 9) ↔ fitP 8 v := by
  have e1 : ((sLs 0).getD (ix (8 : Int32)) 0).toInt = 0 := by decide
  have e2 : ((sLs 1).getD (ix (8 : Int32)) 0).toInt = 9 := by decide
  unfold fitP
  rw [e1, e2]
  exact ⟨fun h => ⟨by decide, by decide, h.1, h.2⟩, fun h => ⟨h.2.2.1, h.2.2.2⟩⟩
theorem mb_9 (v : Int32) : (0 ≤ v.toInt ∧ v.toInt ≤ 999) ↔ fitP 9 v := by
  have e1 : ((sLs 0).getD (ix (9 : Int32)) 0).toInt = 0 := by decide
  have e2 : ((sLs 1).getD (ix (9 : Int32)) 0).toInt = 999 := by decide
  unfold fitP
  rw [e1, e2]
  exact ⟨fun h => ⟨by decide, by decide, h.1, h.2⟩, fun h => ⟨h.2.2.1, h.2.2.2⟩⟩
theorem mb_10 (v : Int32) : (0 ≤ v.toInt ∧ v.toInt ≤ 9) ↔ fitP 10 v := by
  have e1 : ((sLs 0).getD (ix (10 : Int32)) 0).toInt = 0 := by decide
  have e2 : ((sLs 1).getD (ix (10 : Int32)) 0).toInt = 9 := by decide
  unfold fitP
  rw [e1, e2]
  exact ⟨fun h => ⟨by decide, by decide, h.1, h.2⟩, fun h => ⟨h.2.2.1, h.2.2.2⟩⟩
theorem mb_11 (v : Int32) : (0 ≤ v.toInt ∧ v.toInt ≤ 12) ↔ fitP 11 v := by
  have e1 : ((sLs 0).getD (ix (11 : Int32)) 0).toInt = 0 := by decide
  have e2 : ((sLs 1).getD (ix (11 : Int32)) 0).toInt = 12 := by decide
  unfold fitP
  rw [e1, e2]
  exact ⟨fun h => ⟨by decide, by decide, h.1, h.2⟩, fun h => ⟨h.2.2.1, h.2.2.2⟩⟩
set_option maxRecDepth 100000 in
set_option maxHeartbeats 400000 in
theorem sX10_mayBecome {g : Gb} {d : Nat} (hd : 1 ≤ d) (w v : Int32) (hw0 : 0 ≤ w.toInt) (hw1 : w.toInt ≤ 11) (I : Is) (J : Js) (b : Bool) : MC9 g d mX10_mayBecome [.int w, .int v] I J b (Qp (bI (fitP w v)) I J b) := by
  refine ent9 (own := RX10) rfl rfl rfl (fun X hg hx C Z => ?_)
  subst hg
  refine r_iload_n C dX10_mayBecome_0 rfl ?_
  by_cases c0 : w = 0
  · subst c0
    refine r_tabIn C (tgt := 64) dX10_mayBecome_1 (by decide) (by decide) rfl rfl ?_
    refine r_iload_n C dX10_mayBecome_64 rfl ?_
    refine r_i2l C dX10_mayBecome_65 ?_
    refine r_lconst C (v := 0) dX10_mayBecome_66 (by decide) ?_
    refine r_ldc2 C kkX10_109 dX10_mayBecome_67 ?_
    refine cS C hx (sWi (d := d - 1) _ (lo := 0) (hi := 20) rfl rfl I J b) moX10_within mlX10_105 mtX10_within dX10_mayBecome_70 rfl rfl (by omega) rfl rfl (kp ?_)
    exact rpz C Z dX10_mayBecome_73 bI_nar (bI_congr (mb_0 v))
  have n0 := ne_int c0
  have m0 : (0 : Int32).toInt = 0 := rfl
  by_cases c1 : w = 1
  · subst c1
    refine r_tabIn C (tgt := 74) dX10_mayBecome_1 (by decide) (by decide) rfl rfl ?_
    refine r_iload_n C dX10_mayBecome_74 rfl ?_
    refine r_i2l C dX10_mayBecome_75 ?_
    refine r_lconst C (v := 1) dX10_mayBecome_76 (by decide) ?_
    refine r_ldc2 C kkX10_111 dX10_mayBecome_77 ?_
    refine cS C hx (sWi (d := d - 1) _ (lo := 1) (hi := 9) rfl rfl I J b) moX10_within mlX10_105 mtX10_within dX10_mayBecome_80 rfl rfl (by omega) rfl rfl (kp ?_)
    exact rpz C Z dX10_mayBecome_83 bI_nar (bI_congr (mb_1 v))
  have n1 := ne_int c1
  have m1 : (1 : Int32).toInt = 1 := rfl
  by_cases c2 : w = 2
  · subst c2
    refine r_tabIn C (tgt := 146) dX10_mayBecome_1 (by decide) (by decide) rfl rfl ?_
    refine r_iload_n C dX10_mayBecome_146 rfl ?_
    refine r_i2l C dX10_mayBecome_147 ?_
    refine r_lconst C (v := 0) dX10_mayBecome_148 (by decide) ?_
    refine r_ldc2 C kkX10_113 dX10_mayBecome_149 ?_
    refine cS C hx (sWi (d := d - 1) _ (lo := 0) (hi := 999) rfl rfl I J b) moX10_within mlX10_105 mtX10_within dX10_mayBecome_152 rfl rfl (by omega) rfl rfl (kp ?_)
    exact rpz C Z dX10_mayBecome_155 bI_nar (bI_congr (mb_2 v))
  have n2 := ne_int c2
  have m2 : (2 : Int32).toInt = 2 := rfl
  by_cases c3 : w = 3
  · subst c3
    refine r_tabIn C (tgt := 84) dX10_mayBecome_1 (by decide) (by decide) rfl rfl ?_
    refine r_iload_n C dX10_mayBecome_84 rfl ?_
    refine r_i2l C dX10_mayBecome_85 ?_
    refine r_lconst C (v := 1) dX10_mayBecome_86 (by decide) ?_
    refine r_ldc2 C kkX10_137 dX10_mayBecome_87 ?_
    refine cS C hx (sWi (d := d - 1) _ (lo := 1) (hi := 99) rfl rfl I J b) moX10_within mlX10_105 mtX10_within dX10_mayBecome_90 rfl rfl (by omega) rfl rfl (kp ?_)
    exact rpz C Z dX10_mayBecome_93 bI_nar (bI_congr (mb_3 v))
  have n3 := ne_int c3
  have m3 : (3 : Int32).toInt = 3 := rfl
  by_cases c4 : w = 4
  · subst c4
    refine r_tabIn C (tgt := 94) dX10_mayBecome_1 (by decide) (by decide) rfl rfl ?_
    refine r_iload_n C dX10_mayBecome_94 rfl ?_
    refine r_i2l C dX10_mayBecome_95 ?_
    refine r_lconst C (v := 1) dX10_mayBecome_96 (by decide) ?_
    refine r_ldc2 C kkX10_139 dX10_mayBecome_97 ?_
    refine cS C hx (sWi (d := d - 1) _ (lo := 1) (hi := 60) rfl rfl I J b) moX10_within mlX10_105 mtX10_within dX10_mayBecome_100 rfl rfl (by omega) rfl rfl (kp ?_)
    exact rpz C Z dX10_mayBecome_103 bI_nar (bI_congr (mb_4 v))
  have n4 := ne_int c4
  have m4 : (4 : Int32).toInt = 4 := rfl
  by_cases c5 : w = 5
  · subst c5
    refine r_tabIn C (tgt := 104) dX10_mayBecome_1 (by decide) (by decide) rfl rfl ?_
    refine r_iload_n C dX10_mayBecome_104 rfl ?_
    refine r_i2l C dX10_mayBecome_105 ?_
    refine r_lconst C (v := 0) dX10_mayBecome_106 (by decide) ?_
    refine r_ldc2 C kkX10_139 dX10_mayBecome_107 ?_
    refine cS C hx (sWi (d := d - 1) _ (lo := 0) (hi := 60) rfl rfl I J b) moX10_within mlX10_105 mtX10_within dX10_mayBecome_110 rfl rfl (by omega) rfl rfl (kp ?_)
    exact rpz C Z dX10_mayBecome_113 bI_nar (bI_congr (mb_5 v))
  have n5 := ne_int c5
  have m5 : (5 : Int32).toInt = 5 := rfl
  by_cases c6 : w = 6
  · subst c6
    refine r_tabIn C (tgt := 114) dX10_mayBecome_1 (by decide) (by decide) rfl rfl ?_
    refine r_iload_n C dX10_mayBecome_114 rfl ?_
    refine r_i2l C dX10_mayBecome_115 ?_
    refine r_ldc2 C kkX10_141 dX10_mayBecome_116 ?_
    refine r_ldc2 C kkX10_113 dX10_mayBecome_119 ?_
    refine cS C hx (sWi (d := d - 1) _ (lo := (-1)) (hi := 999) rfl rfl I J b) moX10_within mlX10_105 mtX10_within dX10_mayBecome_122 rfl rfl (by omega) rfl rfl (kp ?_)
    exact rpz C Z dX10_mayBecome_125 bI_nar (bI_congr (mb_6 v))
  have n6 := ne_int c6
  have m6 : (6 : Int32).toInt = 6 := rfl
  by_cases c7 : w = 7
  · subst c7
    refine r_tabIn C (tgt := 146) dX10_mayBecome_1 (by decide) (by decide) rfl rfl ?_
    refine r_iload_n C dX10_mayBecome_146 rfl ?_
    refine r_i2l C dX10_mayBecome_147 ?_
    refine r_lconst C (v := 0) dX10_mayBecome_148 (by decide) ?_
    refine r_ldc2 C kkX10_113 dX10_mayBecome_149 ?_
    refine cS C hx (sWi (d := d - 1) _ (lo := 0) (hi := 999) rfl rfl I J b) moX10_within mlX10_105 mtX10_within dX10_mayBecome_152 rfl rfl (by omega) rfl rfl (kp ?_)
    exact rpz C Z dX10_mayBecome_155 bI_nar (bI_congr (mb_7 v))
  have n7 := ne_int c7
  have m7 : (7 : Int32).toInt = 7 := rfl
  by_cases c8 : w = 8
  · subst c8
    refine r_tabIn C (tgt := 126) dX10_mayBecome_1 (by decide) (by decide) rfl rfl ?_
    refine r_iload_n C dX10_mayBecome_126 rfl ?_
    refine r_i2l C dX10_mayBecome_127 ?_
    refine r_lconst C (v := 0) dX10_mayBecome_128 (by decide) ?_
    refine r_ldc2 C kkX10_111 dX10_mayBecome_129 ?_
    refine cS C hx (sWi (d := d - 1) _ (lo := 0) (hi := 9) rfl rfl I J b) moX10_within mlX10_105 mtX10_within dX10_mayBecome_132 rfl rfl (by omega) rfl rfl (kp ?_)
    exact rpz C Z dX10_mayBecome_135 bI_nar (bI_congr (mb_8 v))
  have n8 := ne_int c8
  have m8 : (8 : Int32).toInt = 8 := rfl
  by_cases c9 : w = 9
  · subst c9
    refine r_tabIn C (tgt := 146) dX10_mayBecome_1 (by decide) (by decide) rfl rfl ?_
    refine r_iload_n C dX10_mayBecome_146 rfl ?_
    refine r_i2l C dX10_mayBecome_147 ?_
    refine r_lconst C (v := 0) dX10_mayBecome_148 (by decide) ?_
    refine r_ldc2 C kkX10_113 dX10_mayBecome_149 ?_
    refine cS C hx (sWi (d := d - 1) _ (lo := 0) (hi := 999) rfl rfl I J b) moX10_within mlX10_105 mtX10_within dX10_mayBecome_152 rfl rfl (by omega) rfl rfl (kp ?_)
    exact rpz C Z dX10_mayBecome_155 bI_nar (bI_congr (mb_9 v))
  have n9 := ne_int c9
  have m9 : (9 : Int32).toInt = 9 := rfl
  by_cases c10 : w = 10
  · subst c10
    refine r_tabIn C (tgt := 126) dX10_mayBecome_1 (by decide) (by decide) rfl rfl ?_
    refine r_iload_n C dX10_mayBecome_126 rfl ?_
    refine r_i2l C dX10_mayBecome_127 ?_
    refine r_lconst C (v := 0) dX10_mayBecome_128 (by decide) ?_
    refine r_ldc2 C kkX10_111 dX10_mayBecome_129 ?_
    refine cS C hx (sWi (d := d - 1) _ (lo := 0) (hi := 9) rfl rfl I J b) moX10_within mlX10_105 mtX10_within dX10_mayBecome_132 rfl rfl (by omega) rfl rfl (kp ?_)
    exact rpz C Z dX10_mayBecome_135 bI_nar (bI_congr (mb_10 v))
  have n10 := ne_int c10
  have m10 : (10 : Int32).toInt = 10 := rfl
  by_cases c11 : w = 11
  · subst c11
    refine r_tabIn C (tgt := 136) dX10_mayBecome_1 (by decide) (by decide) rfl rfl ?_
    refine r_iload_n C dX10_mayBecome_136 rfl ?_
    refine r_i2l C dX10_mayBecome_137 ?_
    refine r_lconst C (v := 0) dX10_mayBecome_138 (by decide) ?_
    refine r_ldc2 C kkX10_143 dX10_mayBecome_139 ?_
    refine cS C hx (sWi (d := d - 1) _ (lo := 0) (hi := 12) rfl rfl I J b) moX10_within mlX10_105 mtX10_within dX10_mayBecome_142 rfl rfl (by omega) rfl rfl (kp ?_)
    exact rpz C Z dX10_mayBecome_145 bI_nar (bI_congr (mb_11 v))
  have n11 := ne_int c11
  have m11 : (11 : Int32).toInt = 11 := rfl
  exfalso; omega
def ofM (I : Is) (m w : Int32) : Int32 := if 0 ≤ (plM (I 64 6) m w).toInt then I 65 (ix (plM (I 64 6) m w)) else if m = 0 then (if w = 12 then I 64 7 else if w = 13 then I 64 8 else if w = 14 then I 64 9 else -2000000000) else -2000000000
theorem plM_in {s m w : Int32} (hs3 : s.toInt ≤ 3) (h : 0 ≤ (plM s m w).toInt) : vp_in (plM s m w) 28 := by
  unfold plM at h ⊢
  by_cases c1 : 0 ≤ w.toInt ∧ w.toInt ≤ 7
  · rw [if_pos c1] at h ⊢
    by_cases c2 : 0 ≤ m.toInt ∧ m.toInt < s.toInt
    · rw [if_pos c2] at h ⊢
      have e8 : (8 : Int32).toInt = 8 := rfl
      have em : (8 * m : Int32).toInt = 8 * m.toInt := by rw [tI_mul (by rw [e8]; omega) (by rw [e8]; omega), e8]
      have ea : (8 * m + w : Int32).toInt = 8 * m.toInt + w.toInt := by rw [tI_add (by omega) (by omega), em]
      exact vin h (by omega)
    · rw [if_neg c2] at h
      exact absurd h (by decide)
  · rw [if_neg c1] at h ⊢
    by_cases c3 : m = 0 ∧ 8 ≤ w.toInt ∧ w.toInt ≤ 11
    · rw [if_pos c3] at h ⊢
      have e8 : (8 : Int32).toInt = 8 := rfl
      have e24 : (24 : Int32).toInt = 24 := rfl
      have ea : (24 + w : Int32).toInt = 24 + w.toInt := by rw [tI_add (by omega) (by omega), e24]
      have es : (24 + w - 8 : Int32).toInt = 16 + w.toInt := by rw [tI_sub (by omega) (by omega), ea, e8]; omega
      exact vin h (by omega)
    · rw [if_neg c3] at h
      exact absurd h (by decide)
set_option maxRecDepth 100000 in
theorem sX10_of {g : Gb} {d : Nat} (hd : 3 ≤ d) (m w : Int32) (I : Is) (J : Js) (b : Bool) (hs0 : 0 ≤ (I 64 6).toInt) (hs3 : (I 64 6).toInt ≤ 3) : MC9 g d mX10_of [.ref 64, .int m, .int w] I J b (Qp (ofM I m w) I J b) := by
  refine ent9 (own := RX10) rfl rfl rfl (fun X hg hx C Z => ?_)
  subst hg
  refine r_aload_n C dX10_of_0 rfl ?_
  refine r_iload_n C dX10_of_1 rfl ?_
  refine r_iload_n C dX10_of_2 rfl ?_
  refine cV (ci := 10) C hx (sX10_placeOf (d := d - 1) (by omega) _ _ I J b hs0 hs3) moX10_placeOf mlX10_145 miX10_placeOf msX10_placeOf dX10_of_3 rfl rfl rfl rfl rfl (by omega) rfl rfl (kp ?_)
  refine r_istore_n C dX10_of_6 rfl rfl ?_
  refine r_iload_n C dX10_of_7 rfl ?_
  refine b_iflt C (tgt := 18) dX10_of_8 rfl (fun h8_2 => ?_) (fun h8_2 => ?_)
  · refine r_iload_n C dX10_of_18 rfl ?_
    refine r_ifeq C (tgt := 25) dX10_of_19 rfl (fun h19_3 => ?_) (fun h19_3 => ?_)
    · refine r_iload_n C dX10_of_25 rfl ?_
      refine r_bipush C (v := 12) dX10_of_26 (by decide) ?_
      refine r_icne C (tgt := 38) dX10_of_28 rfl (fun h28_4 => ?_) (fun h28_4 => ?_)
      · refine r_iload_n C dX10_of_38 rfl ?_
        refine r_bipush C (v := 13) dX10_of_39 (by decide) ?_
        refine r_icne C (tgt := 51) dX10_of_41 rfl (fun h41_5 => ?_) (fun h41_5 => ?_)
        · refine r_iload_n C dX10_of_51 rfl ?_
          refine r_bipush C (v := 14) dX10_of_52 (by decide) ?_
          refine r_icne C (tgt := 64) dX10_of_54 rfl (fun h54_6 => ?_) (fun h54_6 => ?_)
          · refine r_ldc C kkX10_156 dX10_of_64 ?_
            exact rp C Z dX10_of_66 (by unfold ofM; exact ((if_neg (by omega)).trans ((if_pos (by assumption)).trans ((if_neg (by assumption)).trans ((if_neg (by assumption)).trans (if_neg (by assumption)))))).symm)
          · refine r_aload_n C dX10_of_57 rfl ?_
            refine r_getI C flX10_160 dX10_of_58 rfl rfl ?_
            refine r_goto C (tgt := 66) dX10_of_61 rfl ?_
            exact rp C Z dX10_of_66 (by unfold ofM; exact ((if_neg (by omega)).trans ((if_pos (by assumption)).trans ((if_neg (by assumption)).trans ((if_neg (by assumption)).trans (if_pos (by assumption)))))).symm)
        · refine r_aload_n C dX10_of_44 rfl ?_
          refine r_getI C flX10_157 dX10_of_45 rfl rfl ?_
          refine r_goto C (tgt := 66) dX10_of_48 rfl ?_
          exact rp C Z dX10_of_66 (by unfold ofM; exact ((if_neg (by omega)).trans ((if_pos (by assumption)).trans ((if_neg (by assumption)).trans (if_pos (by assumption))))).symm)
      · refine r_aload_n C dX10_of_31 rfl ?_
        refine r_getI C flX10_93 dX10_of_32 rfl rfl ?_
        refine r_goto C (tgt := 66) dX10_of_35 rfl ?_
        exact rp C Z dX10_of_66 (by unfold ofM; exact ((if_neg (by omega)).trans ((if_pos (by assumption)).trans (if_pos (by assumption)))).symm)
    · refine r_ldc C kkX10_156 dX10_of_22 ?_
      exact rp C Z dX10_of_24 (by unfold ofM; exact ((if_neg (by omega)).trans (if_neg (by assumption))).symm)
  · refine r_aload_n C dX10_of_11 rfl ?_
    refine r_getR C flX10_9 dX10_of_12 rfl rfl rfl ?_
    refine r_iload_n C dX10_of_15 rfl ?_
    refine r_iald C rfl dX10_of_16 (plM_in hs3 (by assumption)) ?_
    exact rp C Z dX10_of_17 (by unfold ofM; exact (if_pos (by assumption)).symm)
set_option maxRecDepth 100000 in
set_option maxHeartbeats 400000 in
theorem sX10_becomes {g : Gb} {d : Nat} (hd : 0 ≤ d) (w v : Int32) (hw : vp_in w 28) (I : Is) (J : Js) (b : Bool) (h0 : 0 ≤ (I 64 5).toInt) (h4 : (I 64 5).toInt ≤ 40) : MC9 g d mX10_becomes [.ref 64, .int w, .int v] I J b (Qi J b (fun r I' => (I 65 (ix w) = v ∧ r = I 65 (ix w) ∧ I' = I) ∨ (¬ I 65 (ix w) = v ∧ r = I 65 (ix w) ∧ ((∀ k, I' 66 k = if k = ix (dnD (I 64 5)) then w else dnR (I 64 5) (I 66) k) ∧ (∀ k, I' 67 k = if k = ix (dnD (I 64 5)) then I 65 (ix w) else dnR (I 64 5) (I 67) k) ∧ (∀ k, I' 68 k = if k = ix (dnD (I 64 5)) then v else dnR (I 64 5) (I 68) k) ∧ I' 64 5 = dnD (I 64 5) + 1 ∧ I' 64 4 = dnD (I 64 5) + 1 ∧ (∀ k, I' 65 k = if k = ix w then v else I 65 k) ∧ FrM [65, 66, 67, 68] [4, 5] I I')))) := by
  have e40 : (40 : Int32).toInt = 40 := rfl
  have e39 : (39 : Int32).toInt = 39 := rfl
  refine ent9 (own := RX10) rfl rfl rfl (fun X hg hx C Z => ?_)
  subst hg
  have tail : ∀ (I' : Is) (x4 : Option Value), ¬ I 65 (ix w) = v → I' 64 5 = dnD (I 64 5) → (∀ k, I' 66 k = dnR (I 64 5) (I 66) k) → (∀ k, I' 67 k = dnR (I 64 5) (I 67) k) → (∀ k, I' 68 k = dnR (I 64 5) (I 68) k) → FrM [66, 67, 68] [5] I I' → Aw X 97 [some (.ref 64), some (.int w), some (.int v), some (.int (I 65 (ix w))), x4] [] (st9 I' J b) := by
    intro I' x4 hne e5 r66 r67 r68 hF
    have hdr : 0 ≤ (dnD (I 64 5)).toInt ∧ (dnD (I 64 5)).toInt ≤ 39 := by
      unfold dnD
      by_cases c : 40 ≤ (I 64 5).toInt
      · rw [if_pos c, e39]; omega
      · rw [if_neg c]; omega
    generalize hD : dnD (I 64 5) = D at *
    have hDv : vp_in D 40 := vin hdr.1 (by omega)
    obtain ⟨I1, hI1⟩ : ∃ z, z = u2 (u2 (u2 I' 66 (ix D) w) 67 (ix D) (I 65 (ix w))) 68 (ix D) v := ⟨_, rfl⟩
    have e51 : I1 64 5 = D := by rw [hI1]; exact e5
    have s66 : ∀ k, I1 66 k = if k = ix D then w else dnR (I 64 5) (I 66) k := fun k => by
      rw [hI1, u2_row (t := 68) (t' := 66) (by decide), u2_row (t := 67) (t' := 66) (by decide)]
      by_cases e : k = ix D
      · rw [if_pos e, e, u2_same]
      · rw [if_neg e, u2_ne _ _ _ _ (Or.inr e)]; exact r66 k
    have s67 : ∀ k, I1 67 k = if k = ix D then I 65 (ix w) else dnR (I 64 5) (I 67) k := fun k => by
      rw [hI1, u2_row (t := 68) (t' := 67) (by decide)]
      by_cases e : k = ix D
      · rw [if_pos e, e, u2_same]
      · rw [if_neg e, u2_ne _ _ _ _ (Or.inr e), u2_row (t := 66) (t' := 67) (by decide)]; exact r67 k
    have s68 : ∀ k, I1 68 k = if k = ix D then v else dnR (I 64 5) (I 68) k := fun k => by
      rw [hI1]
      by_cases e : k = ix D
      · rw [if_pos e, e, u2_same]
      · rw [if_neg e, u2_ne _ _ _ _ (Or.inr e), u2_row (t := 67) (t' := 68) (by decide), u2_row (t := 66) (t' := 68) (by decide)]; exact r68 k
    have hF1 : FrM [66, 67, 68] [5] I I1 := by rw [hI1]; exact ((hF.st (by decide) (by decide)).st (by decide) (by decide)).st (by decide) (by decide)
    have s65 : I1 65 = I 65 := hF1.1 65 (by decide) (by decide)
    refine r_aload_n C dX10_becomes_97 rfl ?_
    refine r_getR C flX10_13 dX10_becomes_98 rfl rfl rfl ?_
    refine r_aload_n C dX10_becomes_101 rfl ?_
    refine r_getI C flX10_96 dX10_becomes_102 rfl rfl ?_
    rw [e5]
    refine r_iload_n C dX10_becomes_105 rfl ?_
    refine r_iast C rfl dX10_becomes_106 hDv ?_
    refine r_aload_n C dX10_becomes_107 rfl ?_
    refine r_getR C flX10_16 dX10_becomes_108 rfl rfl rfl ?_
    refine r_aload_n C dX10_becomes_111 rfl ?_
    refine r_getI C flX10_96 dX10_becomes_112 rfl rfl ?_
    rw [show (u2 I' 66 (ix D) w) 64 5 = D from e5]
    refine r_iload_n C dX10_becomes_115 rfl ?_
    refine r_iast C rfl dX10_becomes_116 hDv ?_
    refine r_aload_n C dX10_becomes_117 rfl ?_
    refine r_getR C flX10_19 dX10_becomes_118 rfl rfl rfl ?_
    refine r_aload_n C dX10_becomes_121 rfl ?_
    refine r_getI C flX10_96 dX10_becomes_122 rfl rfl ?_
    rw [show (u2 (u2 I' 66 (ix D) w) 67 (ix D) (I 65 (ix w))) 64 5 = D from e5]
    refine r_iload_n C dX10_becomes_125 rfl ?_
    refine r_iast C rfl dX10_becomes_126 hDv ?_
    rw [← hI1]
    refine r_aload_n C dX10_becomes_127 rfl ?_
    refine r_dup C dX10_becomes_128 rfl ?_
    refine r_getI C flX10_96 dX10_becomes_129 rfl rfl ?_
    rw [e51]
    refine r_iconst C (v := 1) dX10_becomes_132 (by decide) ?_
    refine r_iadd C dX10_becomes_133 ?_
    refine r_putI C flX10_96 dX10_becomes_134 rfl rfl rfl rfl rfl ?_
    refine r_aload_n C dX10_becomes_137 rfl ?_
    refine r_aload_n C dX10_becomes_138 rfl ?_
    refine r_getI C flX10_96 dX10_becomes_139 rfl rfl ?_
    rw [show (u2 I1 64 5 (D + 1)) 64 5 = D + 1 from u2_same ..]
    refine r_putI C flX10_99 dX10_becomes_142 rfl rfl rfl rfl rfl ?_
    refine r_aload_n C dX10_becomes_145 rfl ?_
    refine r_getR C flX10_9 dX10_becomes_146 rfl rfl rfl ?_
    refine r_iload_n C dX10_becomes_149 rfl ?_
    refine r_iload_n C dX10_becomes_150 rfl ?_
    refine r_iast C rfl dX10_becomes_151 hw ?_
    refine r_iload_n C dX10_becomes_152 rfl ?_
    exact ri C Z dX10_becomes_153 (show (_ ∨ _) from Or.inr ⟨hne, rfl, fun k => (congrFun (u2_row (t := 65) (t' := 66) (by decide)) k).trans (s66 k), fun k => (congrFun (u2_row (t := 65) (t' := 67) (by decide)) k).trans (s67 k), fun k => (congrFun (u2_row (t := 65) (t' := 68) (by decide)) k).trans (s68 k), rfl, rfl, fun k => by
      by_cases e : k = ix w
      · rw [if_pos e, e, u2_same]
      · rw [if_neg e, u2_ne _ _ _ _ (Or.inr e)]; exact congrFun s65 k, ((((hF1.mo (by decide) (by decide)).sf (by decide)).sf (by decide)).st (by decide) (by decide))⟩)
  have loop : ∀ (m i : Nat) (I' : Is), ¬ I 65 (ix w) = v → I 64 5 = 40 → m + i = 40 → 1 ≤ i → (∀ k, I' 66 k = if k + 1 < i then I 66 (k + 1) else I 66 k) → (∀ k, I' 67 k = if k + 1 < i then I 67 (k + 1) else I 67 k) → (∀ k, I' 68 k = if k + 1 < i then I 68 (k + 1) else I 68 k) → FrM [66, 67, 68] [] I I' → Aw X 26 [some (.ref 64), some (.int w), some (.int v), some (.int (I 65 (ix w))), some (.int (nI i))] [] (st9 I' J b) := by
    intro m
    induction m with
    | zero =>
      intro i I' hne h40 hm hi r66 r67 r68 hF
      have ini : (nI i).toInt = (i : Int) := nIint (by omega)
      have hi40 : i = 40 := by omega
      rw [hi40] at r66 r67 r68
      have e5 : I' 64 5 = 40 := by rw [hF.2 5 (by decide)]; exact h40
      have hD : dnD (I 64 5) = 39 := by unfold dnD; rw [if_pos (by rw [h40]; decide)]
      have hR : ∀ (r : Nat → Int32) k, dnR (I 64 5) r k = if k + 1 < 40 then r (k + 1) else r k := fun r k => by
        unfold dnR dnF
        rw [if_pos (by rw [h40]; decide)]
        by_cases c : k < 39
        · rw [if_pos c, if_pos (by omega)]
        · rw [if_neg c, if_neg (by omega)]
      refine r_iload C dX10_becomes_26 rfl ?_
      refine r_bipush C (v := 40) dX10_becomes_28 (by decide) ?_
      refine b_icge C (tgt := 87) (my := 40) rfl rfl dX10_becomes_30 rfl (fun h30_1 => ?_) (fun h30_1 => ?_)
      · refine r_aload_n C dX10_becomes_87 rfl ?_
        refine r_dup C dX10_becomes_88 rfl ?_
        refine r_getI C flX10_96 dX10_becomes_89 rfl rfl ?_
        rw [e5]
        refine r_iconst C (v := 1) dX10_becomes_92 (by decide) ?_
        refine r_isub C dX10_becomes_93 ?_
        refine r_putI C flX10_96 dX10_becomes_94 rfl rfl rfl rfl rfl ?_
        exact tail _ _ hne (by rw [u2_same, hD]; rfl) (fun k => by rw [hR]; exact r66 k) (fun k => by rw [hR]; exact r67 k) (fun k => by rw [hR]; exact r68 k) ((hF.mo (by decide) (by decide)).sf (by decide))
      · exfalso; omega
    | succ m ih =>
      intro i I' hne h40 hm hi r66 r67 r68 hF
      have ini : (nI i).toInt = (i : Int) := nIint (by omega)
      have kx : ix (nI i) = i := nIix (by omega)
      have e1 : (nI i - 1).toInt = ((i - 1 : Nat) : Int) := by rw [tI_sub (by rw [one_int]; omega) (by rw [one_int]; omega), one_int]; omega
      have k1 : ix (nI i - 1) = i - 1 := ix_of e1
      have hv1 : vp_in (nI i - 1) 40 := vin (by omega) (by omega)
      have hv2 : vp_in (nI i) 40 := vin (by omega) (by omega)
      obtain ⟨Ia, hIa⟩ : ∃ z, z = u2 I' 66 (i - 1) (I 66 i) := ⟨_, rfl⟩
      obtain ⟨Ib, hIb⟩ : ∃ z, z = u2 Ia 67 (i - 1) (I 67 i) := ⟨_, rfl⟩
      have na : ∀ c, c ≠ 66 → Ia c = I' c := fun c hc => by rw [hIa]; exact u2_row hc
      have nb : ∀ c, c ≠ 67 → Ib c = Ia c := fun c hc => by rw [hIb]; exact u2_row hc
      have g66 : I' 66 i = I 66 i := by rw [r66 i, if_neg (by omega)]
      have g67 : I' 67 i = I 67 i := by rw [r67 i, if_neg (by omega)]
      have g68 : I' 68 i = I 68 i := by rw [r68 i, if_neg (by omega)]
      have stp : ∀ (r r' : Nat → Int32) (f : Nat → Int32), r' (i - 1) = f i → (∀ k, k ≠ i - 1 → r' k = r k) → (∀ k, r k = if k + 1 < i then f (k + 1) else f k) → ∀ k, r' k = if k + 1 < i + 1 then f (k + 1) else f k := by
        intro r r' f h1 h2 h3 k
        by_cases e : k = i - 1
        · rw [if_pos (by omega), e, h1, show i - 1 + 1 = i by omega]
        · rw [h2 k e, h3 k]
          by_cases c : k + 1 < i
          · rw [if_pos c, if_pos (by omega)]
          · rw [if_neg c, if_neg (by omega)]
      refine r_iload C dX10_becomes_26 rfl ?_
      refine r_bipush C (v := 40) dX10_becomes_28 (by decide) ?_
      refine b_icge C (tgt := 87) (my := 40) rfl rfl dX10_becomes_30 rfl (fun h30_1 => ?_) (fun h30_1 => ?_)
      · exfalso; omega
      · refine r_aload_n C dX10_becomes_33 rfl ?_
        refine r_getR C flX10_13 dX10_becomes_34 rfl rfl rfl ?_
        refine r_iload C dX10_becomes_37 rfl ?_
        refine r_iconst C (v := 1) dX10_becomes_39 (by decide) ?_
        refine r_isub C dX10_becomes_40 ?_
        refine r_aload_n C dX10_becomes_41 rfl ?_
        refine r_getR C flX10_13 dX10_becomes_42 rfl rfl rfl ?_
        refine r_iload C dX10_becomes_45 rfl ?_
        refine r_iald C rfl dX10_becomes_47 hv2 ?_
        rw [kx, g66]
        refine r_iast C rfl dX10_becomes_48 hv1 ?_
        rw [k1, ← hIa]
        refine r_aload_n C dX10_becomes_49 rfl ?_
        refine r_getR C flX10_16 dX10_becomes_50 rfl rfl rfl ?_
        refine r_iload C dX10_becomes_53 rfl ?_
        refine r_iconst C (v := 1) dX10_becomes_55 (by decide) ?_
        refine r_isub C dX10_becomes_56 ?_
        refine r_aload_n C dX10_becomes_57 rfl ?_
        refine r_getR C flX10_16 dX10_becomes_58 rfl rfl rfl ?_
        refine r_iload C dX10_becomes_61 rfl ?_
        refine r_iald C rfl dX10_becomes_63 hv2 ?_
        rw [kx, na 67 (by decide), g67]
        refine r_iast C rfl dX10_becomes_64 hv1 ?_
        rw [k1, ← hIb]
        refine r_aload_n C dX10_becomes_65 rfl ?_
        refine r_getR C flX10_19 dX10_becomes_66 rfl rfl rfl ?_
        refine r_iload C dX10_becomes_69 rfl ?_
        refine r_iconst C (v := 1) dX10_becomes_71 (by decide) ?_
        refine r_isub C dX10_becomes_72 ?_
        refine r_aload_n C dX10_becomes_73 rfl ?_
        refine r_getR C flX10_19 dX10_becomes_74 rfl rfl rfl ?_
        refine r_iload C dX10_becomes_77 rfl ?_
        refine r_iald C rfl dX10_becomes_79 hv2 ?_
        rw [kx, nb 68 (by decide), na 68 (by decide), g68]
        refine r_iast C rfl dX10_becomes_80 hv1 ?_
        rw [k1]
        refine r_iinc C (v := 1) dX10_becomes_81 rfl (by decide) rfl ?_
        refine r_goto C (tgt := 26) dX10_becomes_84 rfl ?_
        rw [nI_s]
        refine ih (i + 1) _ hne h40 (by omega) (by omega) ?_ ?_ ?_ ?_
        · rw [u2_row (t := 68) (t' := 66) (by decide), nb 66 (by decide), hIa]
          exact stp (I' 66) _ _ (u2_same ..) (fun k hk => u2_ne _ _ _ _ (Or.inr hk)) r66
        · rw [u2_row (t := 68) (t' := 67) (by decide), hIb]
          refine stp (I' 67) _ _ (u2_same ..) (fun k hk => ?_) r67
          rw [u2_ne _ _ _ _ (Or.inr hk), na 67 (by decide)]
        · refine stp (I' 68) _ _ (u2_same ..) (fun k hk => ?_) r68
          rw [u2_ne _ _ _ _ (Or.inr hk), nb 68 (by decide), na 68 (by decide)]
        · rw [hIb, hIa]
          exact ((hF.st (by decide) (by decide)).st (by decide) (by decide)).st (by decide) (by decide)
  refine r_aload_n C dX10_becomes_0 rfl ?_
  refine r_getR C flX10_9 dX10_becomes_1 rfl rfl rfl ?_
  refine r_iload_n C dX10_becomes_4 rfl ?_
  refine r_iald C rfl dX10_becomes_5 hw ?_
  refine r_istore_n C dX10_becomes_6 rfl rfl ?_
  refine r_iload_n C dX10_becomes_7 rfl ?_
  refine r_iload_n C dX10_becomes_8 rfl ?_
  refine r_icne C (tgt := 14) dX10_becomes_9 rfl (fun h9_1 => ?_) (fun h9_1 => ?_)
  · refine r_aload_n C dX10_becomes_14 rfl ?_
    refine r_getI C flX10_96 dX10_becomes_15 rfl rfl ?_
    refine r_bipush C (v := 40) dX10_becomes_18 (by decide) ?_
    refine r_icne C (tgt := 97) dX10_becomes_20 rfl (fun h20_2 => ?_) (fun h20_2 => ?_)
    · have hne40 : ¬ 40 ≤ (I 64 5).toInt := fun z => absurd (Int32.toInt_inj.mp (by rw [e40]; omega) : I 64 5 = 40) (by assumption)
      exact tail I _ (by assumption) (by unfold dnD; rw [if_neg hne40]) (fun k => by unfold dnR; rw [if_neg hne40]) (fun k => by unfold dnR; rw [if_neg hne40]) (fun k => by unfold dnR; rw [if_neg hne40]) FrM.rf
    · refine r_iconst C (v := 1) dX10_becomes_23 (by decide) ?_
      refine r_istore C dX10_becomes_24 rfl rfl ?_
      exact loop 39 1 I (by assumption) (by assumption) rfl (by decide) (fun k => by rw [if_neg (by omega)]) (fun k => by rw [if_neg (by omega)]) (fun k => by rw [if_neg (by omega)]) FrM.rf
  · refine r_iload_n C dX10_becomes_12 rfl ?_
    exact ri C Z dX10_becomes_13 (show (_ ∨ _) from Or.inl ⟨by assumption, rfl, rfl⟩)
theorem plM_w {s m w : Int32} (h : 0 ≤ (plM s m w).toInt) : 0 ≤ w.toInt ∧ w.toInt ≤ 11 := by
  unfold plM at h
  by_cases c1 : 0 ≤ w.toInt ∧ w.toInt ≤ 7
  · omega
  · rw [if_neg c1] at h
    by_cases c3 : m = 0 ∧ 8 ≤ w.toInt ∧ w.toInt ≤ 11
    · have := c3.2; omega
    · rw [if_neg c3] at h
      exact absurd h (by decide)
set_option maxRecDepth 100000 in
set_option maxHeartbeats 400000 in
theorem sX10_mend {g : Gb} {d : Nat} (hd : 3 ≤ d) (m w v : Int32) (I : Is) (J : Js) (b : Bool) (hs0 : 0 ≤ (I 64 6).toInt) (hs3 : (I 64 6).toInt ≤ 3) (h0 : 0 ≤ (I 64 5).toInt) (h4 : (I 64 5).toInt ≤ 40) : MC9 g d mX10_mend [.ref 64, .int m, .int w, .int v] I J b (Qi J b (fun r I' => (¬ (0 ≤ (plM (I 64 6) m w).toInt ∧ fitP w v) ∧ r = -2000000000 ∧ I' = I) ∨ ((0 ≤ (plM (I 64 6) m w).toInt ∧ fitP w v) ∧ r = I 65 (ix (plM (I 64 6) m w)) ∧ ((I 65 (ix (plM (I 64 6) m w)) = v ∧ I' = I) ∨ (¬ I 65 (ix (plM (I 64 6) m w)) = v ∧ ((∀ k, I' 66 k = if k = ix (dnD (I 64 5)) then (plM (I 64 6) m w) else dnR (I 64 5) (I 66) k) ∧ (∀ k, I' 67 k = if k = ix (dnD (I 64 5)) then I 65 (ix (plM (I 64 6) m w)) else dnR (I 64 5) (I 67) k) ∧ (∀ k, I' 68 k = if k = ix (dnD (I 64 5)) then v else dnR (I 64 5) (I 68) k) ∧ I' 64 5 = dnD (I 64 5) + 1 ∧ I' 64 4 = dnD (I 64 5) + 1 ∧ (∀ k, I' 65 k = if k = ix (plM (I 64 6) m w) then v else I 65 k) ∧ FrM [65, 66, 67, 68] [4, 5] I I')))))) := by
  refine ent9 (own := RX10) rfl rfl rfl (fun X hg hx C Z => ?_)
  subst hg
  refine r_aload_n C dX10_mend_0 rfl ?_
  refine r_iload_n C dX10_mend_1 rfl ?_
  refine r_iload_n C dX10_mend_2 rfl ?_
  refine cV (ci := 10) C hx (sX10_placeOf (d := d - 1) (by omega) _ _ I J b hs0 hs3) moX10_placeOf mlX10_145 miX10_placeOf msX10_placeOf dX10_mend_3 rfl rfl rfl rfl rfl (by omega) rfl rfl (kp ?_)
  refine r_istore C dX10_mend_6 rfl rfl ?_
  refine r_iload C dX10_mend_8 rfl ?_
  refine b_iflt C (tgt := 31) dX10_mend_10 rfl (fun h10_2 => ?_) (fun h10_2 => ?_)
  · refine r_ldc C kkX10_156 dX10_mend_31 ?_
    exact ri C Z dX10_mend_33 (Or.inl ⟨fun z => absurd z.1 (by omega), rfl, rfl⟩)
  · refine r_iload_n C dX10_mend_13 rfl ?_
    refine r_iload_n C dX10_mend_14 rfl ?_
    refine cS C hx (sX10_mayBecome (d := d - 1) (by omega) w v (plM_w (by assumption)).1 (plM_w (by assumption)).2 I J b) moX10_mayBecome mlX10_149 mtX10_mayBecome dX10_mend_15 rfl rfl (by omega) rfl rfl (kp ?_)
    refine z_ifeq C (tgt := 31) dX10_mend_18 rfl (fun h18_4 => ?_) (fun h18_4 => ?_)
    · refine r_ldc C kkX10_156 dX10_mend_31 ?_
      exact ri C Z dX10_mend_33 (Or.inl ⟨fun z => absurd z.2 (by assumption), rfl, rfl⟩)
    · refine r_aload_n C dX10_mend_21 rfl ?_
      refine r_iload C dX10_mend_22 rfl ?_
      refine r_iload_n C dX10_mend_24 rfl ?_
      refine cV (ci := 10) C hx (sX10_becomes (d := d - 1) (by omega) (plM (I 64 6) m w) v (plM_in hs3 (by assumption)) I J b h0 h4) moX10_becomes mlX10_153 miX10_becomes msX10_becomes dX10_mend_25 rfl rfl rfl rfl rfl (by omega) rfl rfl (ki (fun v_25_5 I_25_5 q_25_5 => ?_))
      have hq := q_25_5
      refine r_goto C (tgt := 33) dX10_mend_28 rfl ?_
      exact ri C Z dX10_mend_33 (Or.inr ⟨⟨by assumption, by assumption⟩, hq.elim (fun z => z.2.1) (fun z => z.2.1), hq.elim (fun z => Or.inl ⟨z.1, z.2.2⟩) (fun z => Or.inr ⟨z.1, z.2.2⟩)⟩)
def unM (I : Is) : Int32 × Is := if I 64 5 = 0 then (-5, I) else (I 64 5 - 1, u2 (u2 I 64 5 (I 64 5 - 1)) 65 (ix (I 66 (ix (I 64 5 - 1)))) (I 67 (ix (I 64 5 - 1))))
def reM (I : Is) : Int32 × Is := if I 64 5 = I 64 4 then (-5, I) else (I 64 4 - (I 64 5 + 1), u2 (u2 I 65 (ix (I 66 (ix (I 64 5)))) (I 68 (ix (I 64 5)))) 64 5 (I 64 5 + 1))
def feM (I : Is) (c : Int32) : Int32 × Is := if ¬ inR c 255 then (-1, I) else if I 64 12 = 120 then (-3, I) else (I 64 12 + 1, u2 (u2 I 70 (ix (I 64 12)) c) 64 12 (I 64 12 + 1))
def coM (I : Is) (w : Int32) : Int32 := if w = 0 then I 64 6 else if w = 1 then I 64 12 else if w = 2 then I 64 5 else if w = 3 then I 64 43 else if w = 4 then I 64 46 else -1
set_option maxRecDepth 100000 in
theorem sX10_undo {g : Gb} {d : Nat} (hd : 0 ≤ d) (I : Is) (J : Js) (b : Bool) (h0 : 0 ≤ (I 64 5).toInt) (h4 : (I 64 5).toInt ≤ 40) (hp : ¬ I 64 5 = 0 → vp_in (I 66 (ix (I 64 5 - 1))) 28) : MC9 g d mX10_undo [.ref 64] I J b (Qi J b (fun v I' => v = (unM I).1 ∧ I' = (unM I).2)) := by
  refine ent9 (own := RX10) rfl rfl rfl (fun X hg hx C Z => ?_)
  subst hg
  refine r_aload_n C dX10_undo_0 rfl ?_
  refine r_getI C flX10_96 dX10_undo_1 rfl rfl ?_
  refine r_ifne C (tgt := 10) dX10_undo_4 rfl (fun h4_1 => ?_) (fun h4_1 => ?_)
  · have hn0 := ne_int (show ¬ I 64 5 = 0 by assumption)
    rw [show (0 : Int32).toInt = 0 from rfl] at hn0
    have h1 : (I 64 5 - 1).toInt = (I 64 5).toInt - 1 := by rw [tI_sub (by rw [one_int]; omega) (by rw [one_int]; omega), one_int]
    have hv : vp_in (I 64 5 - 1) 40 := vin (by omega) (by omega)
    refine r_aload_n C dX10_undo_10 rfl ?_
    refine r_dup C dX10_undo_11 rfl ?_
    refine r_getI C flX10_96 dX10_undo_12 rfl rfl ?_
    refine r_iconst C (v := 1) dX10_undo_15 (by decide) ?_
    refine r_isub C dX10_undo_16 ?_
    refine r_putI C flX10_96 dX10_undo_17 rfl rfl rfl rfl rfl ?_
    refine r_aload_n C dX10_undo_20 rfl ?_
    refine r_getR C flX10_9 dX10_undo_21 rfl rfl rfl ?_
    refine r_aload_n C dX10_undo_24 rfl ?_
    refine r_getR C flX10_13 dX10_undo_25 rfl rfl rfl ?_
    refine r_aload_n C dX10_undo_28 rfl ?_
    refine r_getI C flX10_96 dX10_undo_29 rfl rfl ?_
    rw [show (u2 I 64 5 (I 64 5 - 1)) 64 5 = I 64 5 - 1 from u2_same ..]
    refine r_iald C rfl dX10_undo_32 hv ?_
    refine r_aload_n C dX10_undo_33 rfl ?_
    refine r_getR C flX10_16 dX10_undo_34 rfl rfl rfl ?_
    refine r_aload_n C dX10_undo_37 rfl ?_
    refine r_getI C flX10_96 dX10_undo_38 rfl rfl ?_
    rw [show (u2 I 64 5 (I 64 5 - 1)) 64 5 = I 64 5 - 1 from u2_same ..]
    refine r_iald C rfl dX10_undo_41 hv ?_
    refine r_iast C rfl dX10_undo_42 (hp (by assumption)) ?_
    refine r_aload_n C dX10_undo_43 rfl ?_
    refine r_getI C flX10_96 dX10_undo_44 rfl rfl ?_
    exact ri C Z dX10_undo_47 (show _ ∧ _ from by unfold unM; rw [if_neg (by assumption)]; exact ⟨rfl, rfl⟩)
  · refine r_bipush C (v := -5) dX10_undo_7 (by decide) ?_
    exact ri C Z dX10_undo_9 (show _ ∧ _ from by unfold unM; rw [if_pos (by assumption)]; exact ⟨rfl, rfl⟩)
set_option maxRecDepth 100000 in
theorem sX10_redo {g : Gb} {d : Nat} (hd : 0 ≤ d) (I : Is) (J : Js) (b : Bool) (h0 : 0 ≤ (I 64 5).toInt) (h4 : (I 64 5).toInt ≤ 40) (hl : (I 64 5).toInt < 40 ∨ I 64 5 = I 64 4) (hp : ¬ I 64 5 = I 64 4 → vp_in (I 66 (ix (I 64 5))) 28) : MC9 g d mX10_redo [.ref 64] I J b (Qi J b (fun v I' => v = (reM I).1 ∧ I' = (reM I).2)) := by
  refine ent9 (own := RX10) rfl rfl rfl (fun X hg hx C Z => ?_)
  subst hg
  refine r_aload_n C dX10_redo_0 rfl ?_
  refine r_getI C flX10_96 dX10_redo_1 rfl rfl ?_
  refine r_aload_n C dX10_redo_4 rfl ?_
  refine r_getI C flX10_99 dX10_redo_5 rfl rfl ?_
  refine r_icne C (tgt := 14) dX10_redo_8 rfl (fun h8_1 => ?_) (fun h8_1 => ?_)
  · have hv : vp_in (I 64 5) 40 := vin h0 (by have := hl.resolve_right (by assumption); omega)
    refine r_aload_n C dX10_redo_14 rfl ?_
    refine r_getR C flX10_9 dX10_redo_15 rfl rfl rfl ?_
    refine r_aload_n C dX10_redo_18 rfl ?_
    refine r_getR C flX10_13 dX10_redo_19 rfl rfl rfl ?_
    refine r_aload_n C dX10_redo_22 rfl ?_
    refine r_getI C flX10_96 dX10_redo_23 rfl rfl ?_
    refine r_iald C rfl dX10_redo_26 hv ?_
    refine r_aload_n C dX10_redo_27 rfl ?_
    refine r_getR C flX10_19 dX10_redo_28 rfl rfl rfl ?_
    refine r_aload_n C dX10_redo_31 rfl ?_
    refine r_getI C flX10_96 dX10_redo_32 rfl rfl ?_
    refine r_iald C rfl dX10_redo_35 hv ?_
    refine r_iast C rfl dX10_redo_36 (hp (by assumption)) ?_
    refine r_aload_n C dX10_redo_37 rfl ?_
    refine r_dup C dX10_redo_38 rfl ?_
    refine r_getI C flX10_96 dX10_redo_39 rfl rfl ?_
    refine r_iconst C (v := 1) dX10_redo_42 (by decide) ?_
    refine r_iadd C dX10_redo_43 ?_
    refine r_putI C flX10_96 dX10_redo_44 rfl rfl rfl rfl rfl ?_
    refine r_aload_n C dX10_redo_47 rfl ?_
    refine r_getI C flX10_99 dX10_redo_48 rfl rfl ?_
    refine r_aload_n C dX10_redo_51 rfl ?_
    refine r_getI C flX10_96 dX10_redo_52 rfl rfl ?_
    refine r_isub C dX10_redo_55 ?_
    exact ri C Z dX10_redo_56 (show _ ∧ _ from by unfold reM; rw [if_neg (by assumption)]; exact ⟨rfl, rfl⟩)
  · refine r_bipush C (v := -5) dX10_redo_11 (by decide) ?_
    exact ri C Z dX10_redo_13 (show _ ∧ _ from by unfold reM; rw [if_pos (by assumption)]; exact ⟨rfl, rfl⟩)
set_option maxRecDepth 100000 in
theorem sX10_feed {g : Gb} {d : Nat} (hd : 1 ≤ d) (c : Int32) (I : Is) (J : Js) (b : Bool) (h0 : 0 ≤ (I 64 12).toInt) (h9 : (I 64 12).toInt ≤ 120) : MC9 g d mX10_feed [.ref 64, .int c] I J b (Qi J b (fun v I' => v = (feM I c).1 ∧ I' = (feM I c).2)) := by
  refine ent9 (own := RX10) rfl rfl rfl (fun X hg hx C Z => ?_)
  subst hg
  refine r_iload_n C dX10_feed_0 rfl ?_
  refine r_i2l C dX10_feed_1 ?_
  refine r_lconst C (v := 0) dX10_feed_2 (by decide) ?_
  refine r_ldc2 C kkX10_163 dX10_feed_3 ?_
  refine cS C hx (sWi (d := d - 1) _ (lo := 0) (hi := 255) rfl rfl I J b) moX10_within mlX10_105 mtX10_within dX10_feed_6 rfl rfl (by omega) rfl rfl (kp ?_)
  refine z_ifne C (tgt := 14) dX10_feed_9 rfl (fun h9_2 => ?_) (fun h9_2 => ?_)
  · refine r_aload_n C dX10_feed_14 rfl ?_
    refine r_getI C flX10_165 dX10_feed_15 rfl rfl ?_
    refine r_bipush C (v := 120) dX10_feed_18 (by decide) ?_
    refine r_icne C (tgt := 26) dX10_feed_20 rfl (fun h20_3 => ?_) (fun h20_3 => ?_)
    · have hn0 := ne_int (show ¬ I 64 12 = 120 by assumption)
      rw [show (120 : Int32).toInt = 120 from rfl] at hn0
      have hv : vp_in (I 64 12) 120 := vin h0 (by omega)
      refine r_aload_n C dX10_feed_26 rfl ?_
      refine r_getR C flX10_25 dX10_feed_27 rfl rfl rfl ?_
      refine r_aload_n C dX10_feed_30 rfl ?_
      refine r_getI C flX10_165 dX10_feed_31 rfl rfl ?_
      refine r_iload_n C dX10_feed_34 rfl ?_
      refine r_iast C rfl dX10_feed_35 hv ?_
      refine r_aload_n C dX10_feed_36 rfl ?_
      refine r_dup C dX10_feed_37 rfl ?_
      refine r_getI C flX10_165 dX10_feed_38 rfl rfl ?_
      refine r_iconst C (v := 1) dX10_feed_41 (by decide) ?_
      refine r_iadd C dX10_feed_42 ?_
      refine r_putI C flX10_165 dX10_feed_43 rfl rfl rfl rfl rfl ?_
      refine r_aload_n C dX10_feed_46 rfl ?_
      refine r_getI C flX10_165 dX10_feed_47 rfl rfl ?_
      exact ri C Z dX10_feed_50 (show _ ∧ _ from by unfold feM; rw [if_neg (fun z => z (by assumption)), if_neg (by assumption)]; exact ⟨rfl, rfl⟩)
    · refine r_bipush C (v := -3) dX10_feed_23 (by decide) ?_
      exact ri C Z dX10_feed_25 (show _ ∧ _ from by unfold feM; rw [if_neg (fun z => z (by assumption)), if_pos (by assumption)]; exact ⟨rfl, rfl⟩)
  · refine r_iconst C (v := -1) dX10_feed_12 (by decide) ?_
    exact ri C Z dX10_feed_13 (show _ ∧ _ from by unfold feM; rw [if_pos (by assumption)]; exact ⟨rfl, rfl⟩)
set_option maxRecDepth 100000 in
theorem sX10_count {g : Gb} {d : Nat} (hd : 0 ≤ d) (w : Int32) (I : Is) (J : Js) (b : Bool) : MC9 g d mX10_count [.ref 64, .int w] I J b (Qp (coM I w) I J b) := by
  refine ent9 (own := RX10) rfl rfl rfl (fun X hg hx C Z => ?_)
  subst hg
  refine r_iload_n C dX10_count_0 rfl ?_
  by_cases c0 : w = 0
  · subst c0
    refine r_tabIn C (tgt := 36) dX10_count_1 (by decide) (by decide) rfl rfl ?_
    refine r_aload_n C dX10_count_36 rfl ?_
    refine r_getI C flX10_102 dX10_count_37 rfl rfl ?_
    exact rp C Z dX10_count_40 ((if_pos rfl).symm)
  have n0 := ne_int c0
  have m0 : (0 : Int32).toInt = 0 := rfl
  by_cases c1 : w = 1
  · subst c1
    refine r_tabIn C (tgt := 41) dX10_count_1 (by decide) (by decide) rfl rfl ?_
    refine r_aload_n C dX10_count_41 rfl ?_
    refine r_getI C flX10_165 dX10_count_42 rfl rfl ?_
    exact rp C Z dX10_count_45 (((if_neg (by decide)).trans (if_pos rfl)).symm)
  have n1 := ne_int c1
  have m1 : (1 : Int32).toInt = 1 := rfl
  by_cases c2 : w = 2
  · subst c2
    refine r_tabIn C (tgt := 46) dX10_count_1 (by decide) (by decide) rfl rfl ?_
    refine r_aload_n C dX10_count_46 rfl ?_
    refine r_getI C flX10_96 dX10_count_47 rfl rfl ?_
    exact rp C Z dX10_count_50 (((if_neg (by decide)).trans ((if_neg (by decide)).trans (if_pos rfl))).symm)
  have n2 := ne_int c2
  have m2 : (2 : Int32).toInt = 2 := rfl
  by_cases c3 : w = 3
  · subst c3
    refine r_tabIn C (tgt := 51) dX10_count_1 (by decide) (by decide) rfl rfl ?_
    refine r_aload_n C dX10_count_51 rfl ?_
    refine r_getI C flX10_313 dX10_count_52 rfl rfl ?_
    exact rp C Z dX10_count_55 (((if_neg (by decide)).trans ((if_neg (by decide)).trans ((if_neg (by decide)).trans (if_pos rfl)))).symm)
  have n3 := ne_int c3
  have m3 : (3 : Int32).toInt = 3 := rfl
  by_cases c4 : w = 4
  · subst c4
    refine r_tabIn C (tgt := 56) dX10_count_1 (by decide) (by decide) rfl rfl ?_
    refine r_aload_n C dX10_count_56 rfl ?_
    refine r_getI C flX10_316 dX10_count_57 rfl rfl ?_
    exact rp C Z dX10_count_60 (((if_neg (by decide)).trans ((if_neg (by decide)).trans ((if_neg (by decide)).trans ((if_neg (by decide)).trans (if_pos rfl))))).symm)
  have n4 := ne_int c4
  have m4 : (4 : Int32).toInt = 4 := rfl
  refine r_tabOut C (tgt := 61) dX10_count_1 (by omega) rfl ?_
  refine r_iconst C (v := -1) dX10_count_61 (by decide) ?_
  exact rp C Z dX10_count_62 (by unfold coM; rw [if_neg c0, if_neg c1, if_neg c2, if_neg c3, if_neg c4])
