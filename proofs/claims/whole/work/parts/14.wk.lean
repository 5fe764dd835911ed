/-- one part of a text upon a stack (top first) -/
def stF (nm : Nat → Int32) (op : Int32) (st : List Int32) : Option (List Int32) :=
  if -6 ≤ op.toInt then some ((if 0 ≤ op.toInt then op else nm (ix (-1 - op))) :: st)
  else if -8 ≤ op.toInt then match st with
    | [] => none
    | a :: r => some ((if op = -7 then -a else bI (a = 0)) :: r)
  else match st with
    | y :: x :: r => some (opF op x y :: r)
    | _ => none
def stkF (nm code : Nat → Int32) : Nat → Nat → List Int32 → Option (List Int32)
  | 0, _, st => some st
  | n + 1, p, st => match stF nm (code p) st with
    | none => none
    | some st' => stkF nm code n (p + 1) st'
def topF : Option (List Int32) → Int32
  | some (v :: _) => v
  | _ => 0
/-- what the codes from p to q leave on top -/
def wkF (nm code : Nat → Int32) (p q : Nat) : Int32 := topF (stkF nm code (q - p) p [])
/-- the stack in its row -/
def SR (st : List Int32) (r : Nat → Int32) : Prop := ∀ i v, st.reverse[i]? = some v → r i = v
theorem SR.nil (r : Nat → Int32) : SR [] r := fun i v h => by simp at h
theorem SR.push {st : List Int32} {I : Is} {v : Int32} (h : SR st (I 15)) : SR (v :: st) (u2 I 15 st.length v 15) := by
  intro i w hw
  rw [List.reverse_cons] at hw
  by_cases hlt : i < st.reverse.length
  · rw [List.getElem?_append_left hlt] at hw
    rw [u2_ne I 15 _ v (Or.inr (by rw [List.length_reverse] at hlt; omega))]
    exact h i w hw
  · rw [List.getElem?_append_right (by omega)] at hw
    have hlt2 := (List.getElem?_eq_some_iff.mp hw).1
    simp at hlt2
    have e : i = st.length := by simp at hlt; omega
    rw [e] at hw ⊢
    simp at hw
    rw [u2_same]
    exact hw
theorem SR.pop {st : List Int32} {a : Int32} {r : Nat → Int32} (h : SR (a :: st) r) : SR st r := fun i v hv => h i v (by
  rw [List.reverse_cons, List.getElem?_append_left (List.getElem?_eq_some_iff.mp hv).1]
  exact hv)
theorem SR.top {st : List Int32} {a : Int32} {r : Nat → Int32} (h : SR (a :: st) r) : r st.length = a := h _ _ (by rw [List.reverse_cons, List.getElem?_append_right (by simp)]; simp)
theorem ix_of {x : Int32} {n : Nat} (h : x.toInt = (n : Int)) : ix x = n := by
  have e : ix x = x.toInt.toNat := rfl
  omega
set_option maxRecDepth 100000 in
set_option maxHeartbeats 400000 in
theorem sX2_workedOut_false {g : Gb} {d : Nat} (hd : 1 ≤ d) (nm : Nat → Int32) (p q : Nat) (x y : Int32) (hx0 : x.toInt = (p : Int)) (hy0 : y.toInt = (q : Int)) (hp9 : p ≤ 120) (hq : q ≤ 120) (I : Is) (J : Js) (hnm : ∀ k, k < 6 → I 14 k = nm k) : MC9 g d mX2_workedOut [.ref 9, .int x, .int y] I J false (Qi J false (fun v I' => v = wkF nm (I 11) p q ∧ Fr [15] I I')) := by
  refine ent9 (own := RX2) rfl rfl rfl (fun X hg hx C Z => ?_)
  subst hg
  have one : (1 : Int32).toInt = 1 := rfl
  have mone : (-1 : Int32).toInt = -1 := rfl
  have loop : ∀ (m p' : Nat) (st : List Int32) (top at' : Int32) (I' : Is), m = q - p' → p' ≤ 120 → at'.toInt = (p' : Int) → top.toInt = (st.length : Int) - 1 → st.length ≤ p' → SR st (I' 15) → Fr [15] I I' → wkF nm (I 11) p q = topF (stkF nm (I 11) m p' st) →
      Aw X 14 [some (.ref 9), some (.int x), some (.int y), some (.ref 11), some (.int top), some (.int at'), none] [] (st9 I' J false) := by
    intro m
    induction m with
    | zero =>
      intro p' st top at' I' hm hp hat htop hlen hSR hFr hv
      refine r_iload C dX2_workedOut_14 rfl ?_
      refine r_iload_n C dX2_workedOut_16 rfl ?_
      refine b_icge C (tgt := 178) rfl rfl dX2_workedOut_17 rfl (fun h17_1 => ?_) (fun h17_1 => ?_)
      · refine r_iload C dX2_workedOut_178 rfl ?_
        refine b_ifge C (tgt := 187) dX2_workedOut_180 rfl (fun h180_2 => ?_) (fun h180_2 => ?_)
        · refine r_aload_n C dX2_workedOut_187 rfl ?_
          refine r_getR C flX2_24 dX2_workedOut_188 rfl rfl rfl ?_
          refine r_iload C dX2_workedOut_191 rfl ?_
          refine r_iald C rfl dX2_workedOut_193 (vin (by omega) (show top.toInt < 120 by omega)) ?_
          exact ri C Z dX2_workedOut_194 ⟨by
        rw [hv]
        show _ = topF (some st)
        cases st with
        | nil => first | rfl | (exfalso; simp at htop; omega)
        | cons a r => first | (exfalso; simp at htop; omega) | (rw [ix_of (n := r.length) (by simp at htop; omega)]; exact hSR.top), hFr⟩
        · refine r_iconst C (v := 0) dX2_workedOut_183 (by decide) ?_
          refine r_goto C (tgt := 194) dX2_workedOut_184 rfl ?_
          exact ri C Z dX2_workedOut_194 ⟨by
        rw [hv]
        show _ = topF (some st)
        cases st with
        | nil => first | rfl | (exfalso; simp at htop; omega)
        | cons a r => first | (exfalso; simp at htop; omega) | (rw [ix_of (n := r.length) (by simp at htop; omega)]; exact hSR.top), hFr⟩
      · exfalso; omega
    | succ m ih =>
      intro p' st top at' I' hm hp hat htop hlen hSR hFr hv
      have hcode : I' 11 = I 11 := hFr 11 (by decide)
      have hix : ix at' = p' := ix_of hat
      have hlt : p' < q := by omega
      have hst : stkF nm (I 11) (m + 1) p' st = match stF nm (I 11 p') st with | none => none | some st' => stkF nm (I 11) m (p' + 1) st' := rfl
      rw [hst] at hv
      clear hst
      have hop : I' 11 (ix at') = I 11 p' := by rw [hcode, hix]
      refine r_iload C dX2_workedOut_14 rfl ?_
      refine r_iload_n C dX2_workedOut_16 rfl ?_
      refine b_icge C (tgt := 178) rfl rfl dX2_workedOut_17 rfl (fun h17_1 => ?_) (fun h17_1 => ?_)
      · exfalso; omega
      · refine r_aload_n C dX2_workedOut_20 rfl ?_
        refine r_iload C dX2_workedOut_21 rfl ?_
        refine r_iald C rfl dX2_workedOut_23 (vin (by omega) (show at'.toInt < 120 by omega)) ?_
        refine r_istore C dX2_workedOut_24 rfl rfl ?_
        rw [hop]
        clear hop
        generalize I 11 p' = op at hv ⊢
        refine r_iload C dX2_workedOut_26 rfl ?_
        refine r_bipush C (v := -6) dX2_workedOut_28 (by decide) ?_
        refine b_iclt C (tgt := 77) (my := -6) rfl rfl dX2_workedOut_30 rfl (fun h30_2 => ?_) (fun h30_2 => ?_)
        · refine r_iload C dX2_workedOut_77 rfl ?_
          refine r_bipush C (v := -8) dX2_workedOut_79 (by decide) ?_
          refine b_iclt C (tgt := 134) (my := -8) rfl rfl dX2_workedOut_81 rfl (fun h81_3 => ?_) (fun h81_3 => ?_)
          · refine r_iinc C (v := -1) dX2_workedOut_134 rfl (by decide) rfl ?_
            have htop1 : (top + -1).toInt = (st.length : Int) - 2 := by rw [tI_add (by omega) (by omega)]; omega
            generalize top + -1 = tp at htop1 ⊢
            refine r_iload C dX2_workedOut_137 rfl ?_
            refine b_ifge C (tgt := 144) dX2_workedOut_139 rfl (fun h139_4 => ?_) (fun h139_4 => ?_)
            · refine r_aload_n C dX2_workedOut_144 rfl ?_
              refine r_getR C flX2_24 dX2_workedOut_145 rfl rfl rfl ?_
              refine r_iload C dX2_workedOut_148 rfl ?_
              refine r_iload C dX2_workedOut_150 rfl ?_
              refine r_aload_n C dX2_workedOut_152 rfl ?_
              refine r_getR C flX2_24 dX2_workedOut_153 rfl rfl rfl ?_
              refine r_iload C dX2_workedOut_156 rfl ?_
              refine r_iald C rfl dX2_workedOut_158 (vin (by omega) (show tp.toInt < 120 by omega)) ?_
              refine r_aload_n C dX2_workedOut_159 rfl ?_
              refine r_getR C flX2_24 dX2_workedOut_160 rfl rfl rfl ?_
              refine r_iload C dX2_workedOut_163 rfl ?_
              refine r_iconst C (v := 1) dX2_workedOut_165 (by decide) ?_
              refine r_iadd C dX2_workedOut_166 ?_
              have htop2 : (tp + 1).toInt = (st.length : Int) - 1 := by rw [tI_add (by omega) (by omega)]; omega
              generalize tp + 1 = tq at htop2 ⊢
              refine r_iald C rfl dX2_workedOut_167 (vin (by omega) (show tq.toInt < 120 by omega)) ?_
              refine cS C hx (sX2_joined (d := d - 1) (by omega) _ _ _ _ J false) moX2_joined mlX2_73 mtX2_joined dX2_workedOut_168 rfl rfl (by omega) rfl rfl (kp ?_)
              refine r_iast C rfl dX2_workedOut_171 (vin (by omega) (show tp.toInt < 120 by omega)) ?_
              refine r_iinc C (v := 1) dX2_workedOut_172 rfl (by decide) rfl ?_
              refine r_goto C (tgt := 14) dX2_workedOut_175 rfl ?_
              refine r_drop 6 ?_
              have hat2 : (at' + 1).toInt = ((p' + 1 : Nat) : Int) := by rw [tI_add (by omega) (by omega)]; omega
              match st, hSR, htop, hlen, hv, htop1, htop2 with
              | [], _, _, _, _, htop1, _ => exfalso; simp at htop1; omega
              | [a], _, _, _, _, htop1, _ => exfalso; simp at htop1; omega
              | yy :: xx :: r, hSR, htop, hlen, hv, htop1, htop2 =>
                have hr : tp.toInt = (r.length : Int) := by simp at htop1; omega
                have hr1 : tq.toInt = ((r.length + 1 : Nat) : Int) := by simp at htop2; omega
                have e1 : I' 15 (r.length + 1) = yy := hSR.top
                have e2 : I' 15 r.length = xx := hSR.pop.top
                rw [ix_of hr, ix_of hr1, e1, e2]
                have hs : stF nm op (yy :: xx :: r) = some (opF op xx yy :: r) := by unfold stF; rw [if_neg (by omega), if_neg (by omega)]
                rw [hs] at hv
                exact ih (p' + 1) _ _ _ _ (by omega) (by omega) hat2 (by rw [hr]; simp) (by simp at hlen ⊢; omega) hSR.pop.pop.push (hFr.st (by decide)) hv
            · refine r_iconst C (v := 0) dX2_workedOut_142 (by decide) ?_
              exact ri C Z dX2_workedOut_143 ⟨by
        rw [hv]
        have hs : stF nm op st = none := by
          unfold stF; rw [if_neg (by omega), if_neg (by omega)]
          match st, htop1 with
          | [], _ => rfl
          | [a], _ => rfl
          | a :: c :: r, ht2 => exfalso; simp at ht2; omega
        rw [hs]; rfl, hFr⟩
          · refine r_iload C dX2_workedOut_84 rfl ?_
            refine b_ifge C (tgt := 91) dX2_workedOut_86 rfl (fun h86_6 => ?_) (fun h86_6 => ?_)
            · refine r_aload_n C dX2_workedOut_91 rfl ?_
              refine r_getR C flX2_24 dX2_workedOut_92 rfl rfl rfl ?_
              refine r_iload C dX2_workedOut_95 rfl ?_
              refine r_iload C dX2_workedOut_97 rfl ?_
              refine r_bipush C (v := -7) dX2_workedOut_99 (by decide) ?_
              refine r_icne C (tgt := 115) dX2_workedOut_101 rfl (fun h101_7 => ?_) (fun h101_7 => ?_)
              · refine r_aload_n C dX2_workedOut_115 rfl ?_
                refine r_getR C flX2_24 dX2_workedOut_116 rfl rfl rfl ?_
                refine r_iload C dX2_workedOut_119 rfl ?_
                refine r_iald C rfl dX2_workedOut_121 (vin (by omega) (show top.toInt < 120 by omega)) ?_
                refine r_ifne C (tgt := 129) dX2_workedOut_122 rfl (fun h122_8 => ?_) (fun h122_8 => ?_)
                · refine r_iconst C (v := 0) dX2_workedOut_129 (by decide) ?_
                  refine r_iast C rfl dX2_workedOut_130 (vin (by omega) (show top.toInt < 120 by omega)) ?_
                  refine r_goto C (tgt := 172) dX2_workedOut_131 rfl ?_
                  refine r_iinc C (v := 1) dX2_workedOut_172 rfl (by decide) rfl ?_
                  refine r_goto C (tgt := 14) dX2_workedOut_175 rfl ?_
                  refine r_drop 6 ?_
                  have hat2 : (at' + 1).toInt = ((p' + 1 : Nat) : Int) := by rw [tI_add (by omega) (by omega)]; omega
                  cases st with
                  | nil => exfalso; simp at htop; omega
                  | cons a r =>
                    have hr : top.toInt = (r.length : Int) := by simp at htop; omega
                    rw [ix_of hr]
                    have hz := ‹¬ I' 15 (ix top) = 0›
                    rw [ix_of hr, hSR.top] at hz
                    have hs : stF nm op (a :: r) = some (0 :: r) := by unfold stF; rw [if_neg (by omega), if_pos (by omega)]; show some ((if _ then _ else _) :: r) = _; rw [if_neg (by assumption), bI_f hz]
                    rw [hs] at hv
                    exact ih (p' + 1) _ _ _ _ (by omega) (by omega) hat2 (by rw [hr]; simp) (by simp at hlen ⊢; omega) hSR.pop.push (hFr.st (by decide)) hv
                · refine r_iconst C (v := 1) dX2_workedOut_125 (by decide) ?_
                  refine r_goto C (tgt := 130) dX2_workedOut_126 rfl ?_
                  refine r_iast C rfl dX2_workedOut_130 (vin (by omega) (show top.toInt < 120 by omega)) ?_
                  refine r_goto C (tgt := 172) dX2_workedOut_131 rfl ?_
                  refine r_iinc C (v := 1) dX2_workedOut_172 rfl (by decide) rfl ?_
                  refine r_goto C (tgt := 14) dX2_workedOut_175 rfl ?_
                  refine r_drop 6 ?_
                  have hat2 : (at' + 1).toInt = ((p' + 1 : Nat) : Int) := by rw [tI_add (by omega) (by omega)]; omega
                  cases st with
                  | nil => exfalso; simp at htop; omega
                  | cons a r =>
                    have hr : top.toInt = (r.length : Int) := by simp at htop; omega
                    rw [ix_of hr]
                    have hz := ‹I' 15 (ix top) = 0›
                    rw [ix_of hr, hSR.top] at hz
                    have hs : stF nm op (a :: r) = some (1 :: r) := by unfold stF; rw [if_neg (by omega), if_pos (by omega)]; show some ((if _ then _ else _) :: r) = _; rw [if_neg (by assumption), bI_t hz]
                    rw [hs] at hv
                    exact ih (p' + 1) _ _ _ _ (by omega) (by omega) hat2 (by rw [hr]; simp) (by simp at hlen ⊢; omega) hSR.pop.push (hFr.st (by decide)) hv
              · refine r_aload_n C dX2_workedOut_104 rfl ?_
                refine r_getR C flX2_24 dX2_workedOut_105 rfl rfl rfl ?_
                refine r_iload C dX2_workedOut_108 rfl ?_
                refine r_iald C rfl dX2_workedOut_110 (vin (by omega) (show top.toInt < 120 by omega)) ?_
                refine r_ineg C dX2_workedOut_111 ?_
                refine r_goto C (tgt := 130) dX2_workedOut_112 rfl ?_
                refine r_iast C rfl dX2_workedOut_130 (vin (by omega) (show top.toInt < 120 by omega)) ?_
                refine r_goto C (tgt := 172) dX2_workedOut_131 rfl ?_
                refine r_iinc C (v := 1) dX2_workedOut_172 rfl (by decide) rfl ?_
                refine r_goto C (tgt := 14) dX2_workedOut_175 rfl ?_
                refine r_drop 6 ?_
                have hat2 : (at' + 1).toInt = ((p' + 1 : Nat) : Int) := by rw [tI_add (by omega) (by omega)]; omega
                cases st with
                | nil => exfalso; simp at htop; omega
                | cons a r =>
                  have hr : top.toInt = (r.length : Int) := by simp at htop; omega
                  rw [ix_of hr]
                  have hs : stF nm op (a :: r) = some (-a :: r) := by unfold stF; rw [if_neg (by omega), if_pos (by omega)]; show some ((if _ then _ else _) :: r) = _; rw [if_pos (by assumption)]
                  rw [hSR.top]
                  rw [hs] at hv
                  exact ih (p' + 1) _ _ _ _ (by omega) (by omega) hat2 (by rw [hr]; simp) (by simp at hlen ⊢; omega) hSR.pop.push (hFr.st (by decide)) hv
            · refine r_iconst C (v := 0) dX2_workedOut_89 (by decide) ?_
              exact ri C Z dX2_workedOut_90 ⟨by
        rw [hv]
        have e : st = [] := by cases st with | nil => rfl | cons a r => (exfalso; simp at htop; omega)
        subst e
        have hs : stF nm op [] = none := by unfold stF; rw [if_neg (by omega), if_pos (by omega)]
        rw [hs]; rfl, hFr⟩
        · refine r_iinc C (v := 1) dX2_workedOut_33 rfl (by decide) rfl ?_
          have htop1 : (top + 1).toInt = (st.length : Int) := by rw [tI_add (by omega) (by omega)]; omega
          generalize top + 1 = tp at htop1 ⊢
          refine r_iload C dX2_workedOut_36 rfl ?_
          refine r_aload_n C dX2_workedOut_38 rfl ?_
          refine r_getR C flX2_24 dX2_workedOut_39 rfl rfl rfl ?_
          refine r_alen C rfl dX2_workedOut_42 ?_
          refine b_iclt C (tgt := 48) rfl rfl dX2_workedOut_43 rfl (fun h43_9 => ?_) (fun h43_9 => ?_)
          · refine r_aload_n C dX2_workedOut_48 rfl ?_
            refine r_getR C flX2_24 dX2_workedOut_49 rfl rfl rfl ?_
            refine r_iload C dX2_workedOut_52 rfl ?_
            refine r_iload C dX2_workedOut_54 rfl ?_
            refine b_iflt C (tgt := 64) dX2_workedOut_56 rfl (fun h56_10 => ?_) (fun h56_10 => ?_)
            · refine r_aload_n C dX2_workedOut_64 rfl ?_
              refine r_getR C flX2_18 dX2_workedOut_65 rfl rfl rfl ?_
              refine r_iconst C (v := -1) dX2_workedOut_68 (by decide) ?_
              refine r_iload C dX2_workedOut_69 rfl ?_
              refine r_isub C dX2_workedOut_71 ?_
              have hnn : (-1 - op).toInt = -1 - op.toInt := by rw [tI_sub (by omega) (by omega)]; omega
              generalize hng : -1 - op = nn at hnn ⊢
              refine r_iald C rfl dX2_workedOut_72 (vin (by omega) (show nn.toInt < 6 by omega)) ?_
              refine r_iast C rfl dX2_workedOut_73 (vin (by omega) (show tp.toInt < 120 by omega)) ?_
              refine r_goto C (tgt := 172) dX2_workedOut_74 rfl ?_
              refine r_iinc C (v := 1) dX2_workedOut_172 rfl (by decide) rfl ?_
              refine r_goto C (tgt := 14) dX2_workedOut_175 rfl ?_
              refine r_drop 6 ?_
              have hat2 : (at' + 1).toInt = ((p' + 1 : Nat) : Int) := by rw [tI_add (by omega) (by omega)]; omega
              rw [ix_of htop1]
              have hs : stF nm op st = some (nm (ix nn) :: st) := by unfold stF; rw [if_pos (by omega), if_neg (by omega), hng]
              have hnv : I' 14 (ix nn) = nm (ix nn) := by rw [hFr 14 (by decide)]; exact hnm _ (by have e : ix nn = nn.toInt.toNat := rfl; omega)
              rw [hnv]
              rw [hs] at hv
              exact ih (p' + 1) _ _ _ _ (by omega) (by omega) hat2 (by rw [htop1]; simp) (by simp; omega) hSR.push (hFr.st (by decide)) hv
            · refine r_iload C dX2_workedOut_59 rfl ?_
              refine r_goto C (tgt := 73) dX2_workedOut_61 rfl ?_
              refine r_iast C rfl dX2_workedOut_73 (vin (by omega) (show tp.toInt < 120 by omega)) ?_
              refine r_goto C (tgt := 172) dX2_workedOut_74 rfl ?_
              refine r_iinc C (v := 1) dX2_workedOut_172 rfl (by decide) rfl ?_
              refine r_goto C (tgt := 14) dX2_workedOut_175 rfl ?_
              refine r_drop 6 ?_
              have hat2 : (at' + 1).toInt = ((p' + 1 : Nat) : Int) := by rw [tI_add (by omega) (by omega)]; omega
              rw [ix_of htop1]
              have hs : stF nm op st = some (op :: st) := by unfold stF; rw [if_pos (by omega), if_pos (by omega)]
              rw [hs] at hv
              exact ih (p' + 1) _ _ _ _ (by omega) (by omega) hat2 (by rw [htop1]; simp) (by simp; omega) hSR.push (hFr.st (by decide)) hv
          · exfalso; have e3 : (Int32.ofNat (ln 15)).toInt = 120 := (by rw [show ln 15 = 120 from rfl]; rfl); omega
  refine r_aload_n C dX2_workedOut_0 rfl ?_
  refine r_getR C flX2_12 dX2_workedOut_1 rfl rfl rfl ?_
  refine r_getR C flX2_70 dX2_workedOut_4 rfl rfl rfl ?_
  refine r_astore_n C dX2_workedOut_7 rfl rfl ?_
  refine r_iconst C (v := -1) dX2_workedOut_8 (by decide) ?_
  refine r_istore C dX2_workedOut_9 rfl rfl ?_
  refine r_iload_n C dX2_workedOut_11 rfl ?_
  refine r_istore C dX2_workedOut_12 rfl rfl ?_
  exact loop (q - p) p [] (-1) x I rfl hp9 hx0 rfl (Nat.zero_le _) (SR.nil _) Fr.rf rfl
set_option maxRecDepth 100000 in
set_option maxHeartbeats 400000 in
theorem sX2_workedOut_true {g : Gb} {d : Nat} (hd : 1 ≤ d) (nm : Nat → Int32) (p q : Nat) (x y : Int32) (hx0 : x.toInt = (p : Int)) (hy0 : y.toInt = (q : Int)) (hp9 : p ≤ 120) (hq : q ≤ 120) (I : Is) (J : Js) (hnm : ∀ k, k < 6 → I 14 k = nm k) : MC9 g d mX2_workedOut [.ref 9, .int x, .int y] I J true (Qi J true (fun v I' => v = wkF nm (I 6) p q ∧ Fr [15] I I')) := by
  refine ent9 (own := RX2) rfl rfl rfl (fun X hg hx C Z => ?_)
  subst hg
  have one : (1 : Int32).toInt = 1 := rfl
  have mone : (-1 : Int32).toInt = -1 := rfl
  have loop : ∀ (m p' : Nat) (st : List Int32) (top at' : Int32) (I' : Is), m = q - p' → p' ≤ 120 → at'.toInt = (p' : Int) → top.toInt = (st.length : Int) - 1 → st.length ≤ p' → SR st (I' 15) → Fr [15] I I' → wkF nm (I 6) p q = topF (stkF nm (I 6) m p' st) →
      Aw X 14 [some (.ref 9), some (.int x), some (.int y), some (.ref 6), some (.int top), some (.int at'), none] [] (st9 I' J true) := by
    intro m
    induction m with
    | zero =>
      intro p' st top at' I' hm hp hat htop hlen hSR hFr hv
      refine r_iload C dX2_workedOut_14 rfl ?_
      refine r_iload_n C dX2_workedOut_16 rfl ?_
      refine b_icge C (tgt := 178) rfl rfl dX2_workedOut_17 rfl (fun h17_1 => ?_) (fun h17_1 => ?_)
      · refine r_iload C dX2_workedOut_178 rfl ?_
        refine b_ifge C (tgt := 187) dX2_workedOut_180 rfl (fun h180_2 => ?_) (fun h180_2 => ?_)
        · refine r_aload_n C dX2_workedOut_187 rfl ?_
          refine r_getR C flX2_24 dX2_workedOut_188 rfl rfl rfl ?_
          refine r_iload C dX2_workedOut_191 rfl ?_
          refine r_iald C rfl dX2_workedOut_193 (vin (by omega) (show top.toInt < 120 by omega)) ?_
          exact ri C Z dX2_workedOut_194 ⟨by
        rw [hv]
        show _ = topF (some st)
        cases st with
        | nil => first | rfl | (exfalso; simp at htop; omega)
        | cons a r => first | (exfalso; simp at htop; omega) | (rw [ix_of (n := r.length) (by simp at htop; omega)]; exact hSR.top), hFr⟩
        · refine r_iconst C (v := 0) dX2_workedOut_183 (by decide) ?_
          refine r_goto C (tgt := 194) dX2_workedOut_184 rfl ?_
          exact ri C Z dX2_workedOut_194 ⟨by
        rw [hv]
        show _ = topF (some st)
        cases st with
        | nil => first | rfl | (exfalso; simp at htop; omega)
        | cons a r => first | (exfalso; simp at htop; omega) | (rw [ix_of (n := r.length) (by simp at htop; omega)]; exact hSR.top), hFr⟩
      · exfalso; omega
    | succ m ih =>
      intro p' st top at' I' hm hp hat htop hlen hSR hFr hv
      have hcode : I' 6 = I 6 := hFr 6 (by decide)
      have hix : ix at' = p' := ix_of hat
      have hlt : p' < q := by omega
      have hst : stkF nm (I 6) (m + 1) p' st = match stF nm (I 6 p') st with | none => none | some st' => stkF nm (I 6) m (p' + 1) st' := rfl
      rw [hst] at hv
      clear hst
      have hop : I' 6 (ix at') = I 6 p' := by rw [hcode, hix]
      refine r_iload C dX2_workedOut_14 rfl ?_
      refine r_iload_n C dX2_workedOut_16 rfl ?_
      refine b_icge C (tgt := 178) rfl rfl dX2_workedOut_17 rfl (fun h17_1 => ?_) (fun h17_1 => ?_)
      · exfalso; omega
      · refine r_aload_n C dX2_workedOut_20 rfl ?_
        refine r_iload C dX2_workedOut_21 rfl ?_
        refine r_iald C rfl dX2_workedOut_23 (vin (by omega) (show at'.toInt < 120 by omega)) ?_
        refine r_istore C dX2_workedOut_24 rfl rfl ?_
        rw [hop]
        clear hop
        generalize I 6 p' = op at hv ⊢
        refine r_iload C dX2_workedOut_26 rfl ?_
        refine r_bipush C (v := -6) dX2_workedOut_28 (by decide) ?_
        refine b_iclt C (tgt := 77) (my := -6) rfl rfl dX2_workedOut_30 rfl (fun h30_2 => ?_) (fun h30_2 => ?_)
        · refine r_iload C dX2_workedOut_77 rfl ?_
          refine r_bipush C (v := -8) dX2_workedOut_79 (by decide) ?_
          refine b_iclt C (tgt := 134) (my := -8) rfl rfl dX2_workedOut_81 rfl (fun h81_3 => ?_) (fun h81_3 => ?_)
          · refine r_iinc C (v := -1) dX2_workedOut_134 rfl (by decide) rfl ?_
            have htop1 : (top + -1).toInt = (st.length : Int) - 2 := by rw [tI_add (by omega) (by omega)]; omega
            generalize top + -1 = tp at htop1 ⊢
            refine r_iload C dX2_workedOut_137 rfl ?_
            refine b_ifge C (tgt := 144) dX2_workedOut_139 rfl (fun h139_4 => ?_) (fun h139_4 => ?_)
            · refine r_aload_n C dX2_workedOut_144 rfl ?_
              refine r_getR C flX2_24 dX2_workedOut_145 rfl rfl rfl ?_
              refine r_iload C dX2_workedOut_148 rfl ?_
              refine r_iload C dX2_workedOut_150 rfl ?_
              refine r_aload_n C dX2_workedOut_152 rfl ?_
              refine r_getR C flX2_24 dX2_workedOut_153 rfl rfl rfl ?_
              refine r_iload C dX2_workedOut_156 rfl ?_
              refine r_iald C rfl dX2_workedOut_158 (vin (by omega) (show tp.toInt < 120 by omega)) ?_
              refine r_aload_n C dX2_workedOut_159 rfl ?_
              refine r_getR C flX2_24 dX2_workedOut_160 rfl rfl rfl ?_
              refine r_iload C dX2_workedOut_163 rfl ?_
              refine r_iconst C (v := 1) dX2_workedOut_165 (by decide) ?_
              refine r_iadd C dX2_workedOut_166 ?_
              have htop2 : (tp + 1).toInt = (st.length : Int) - 1 := by rw [tI_add (by omega) (by omega)]; omega
              generalize tp + 1 = tq at htop2 ⊢
              refine r_iald C rfl dX2_workedOut_167 (vin (by omega) (show tq.toInt < 120 by omega)) ?_
              refine cS C hx (sX2_joined (d := d - 1) (by omega) _ _ _ _ J true) moX2_joined mlX2_73 mtX2_joined dX2_workedOut_168 rfl rfl (by omega) rfl rfl (kp ?_)
              refine r_iast C rfl dX2_workedOut_171 (vin (by omega) (show tp.toInt < 120 by omega)) ?_
              refine r_iinc C (v := 1) dX2_workedOut_172 rfl (by decide) rfl ?_
              refine r_goto C (tgt := 14) dX2_workedOut_175 rfl ?_
              refine r_drop 6 ?_
              have hat2 : (at' + 1).toInt = ((p' + 1 : Nat) : Int) := by rw [tI_add (by omega) (by omega)]; omega
              match st, hSR, htop, hlen, hv, htop1, htop2 with
              | [], _, _, _, _, htop1, _ => exfalso; simp at htop1; omega
              | [a], _, _, _, _, htop1, _ => exfalso; simp at htop1; omega
              | yy :: xx :: r, hSR, htop, hlen, hv, htop1, htop2 =>
                have hr : tp.toInt = (r.length : Int) := by simp at htop1; omega
                have hr1 : tq.toInt = ((r.length + 1 : Nat) : Int) := by simp at htop2; omega
                have e1 : I' 15 (r.length + 1) = yy := hSR.top
                have e2 : I' 15 r.length = xx := hSR.pop.top
                rw [ix_of hr, ix_of hr1, e1, e2]
                have hs : stF nm op (yy :: xx :: r) = some (opF op xx yy :: r) := by unfold stF; rw [if_neg (by omega), if_neg (by omega)]
                rw [hs] at hv
                exact ih (p' + 1) _ _ _ _ (by omega) (by omega) hat2 (by rw [hr]; simp) (by simp at hlen ⊢; omega) hSR.pop.pop.push (hFr.st (by decide)) hv
            · refine r_iconst C (v := 0) dX2_workedOut_142 (by decide) ?_
              exact ri C Z dX2_workedOut_143 ⟨by
        rw [hv]
        have hs : stF nm op st = none := by
          unfold stF; rw [if_neg (by omega), if_neg (by omega)]
          match st, htop1 with
          | [], _ => rfl
          | [a], _ => rfl
          | a :: c :: r, ht2 => exfalso; simp at ht2; omega
        rw [hs]; rfl, hFr⟩
          · refine r_iload C dX2_workedOut_84 rfl ?_
            refine b_ifge C (tgt := 91) dX2_workedOut_86 rfl (fun h86_6 => ?_) (fun h86_6 => ?_)
            · refine r_aload_n C dX2_workedOut_91 rfl ?_
              refine r_getR C flX2_24 dX2_workedOut_92 rfl rfl rfl ?_
              refine r_iload C dX2_workedOut_95 rfl ?_
              refine r_iload C dX2_workedOut_97 rfl ?_
              refine r_bipush C (v := -7) dX2_workedOut_99 (by decide) ?_
              refine r_icne C (tgt := 115) dX2_workedOut_101 rfl (fun h101_7 => ?_) (fun h101_7 => ?_)
              · refine r_aload_n C dX2_workedOut_115 rfl ?_
                refine r_getR C flX2_24 dX2_workedOut_116 rfl rfl rfl ?_
                refine r_iload C dX2_workedOut_119 rfl ?_
                refine r_iald C rfl dX2_workedOut_121 (vin (by omega) (show top.toInt < 120 by omega)) ?_
                refine r_ifne C (tgt := 129) dX2_workedOut_122 rfl (fun h122_8 => ?_) (fun h122_8 => ?_)
                · refine r_iconst C (v := 0) dX2_workedOut_129 (by decide) ?_
                  refine r_iast C rfl dX2_workedOut_130 (vin (by omega) (show top.toInt < 120 by omega)) ?_
                  refine r_goto C (tgt := 172) dX2_workedOut_131 rfl ?_
                  refine r_iinc C (v := 1) dX2_workedOut_172 rfl (by decide) rfl ?_
                  refine r_goto C (tgt := 14) dX2_workedOut_175 rfl ?_
                  refine r_drop 6 ?_
                  have hat2 : (at' + 1).toInt = ((p' + 1 : Nat) : Int) := by rw [tI_add (by omega) (by omega)]; omega
                  cases st with
                  | nil => exfalso; simp at htop; omega
                  | cons a r =>
                    have hr : top.toInt = (r.length : Int) := by simp at htop; omega
                    rw [ix_of hr]
                    have hz := ‹¬ I' 15 (ix top) = 0›
                    rw [ix_of hr, hSR.top] at hz
                    have hs : stF nm op (a :: r) = some (0 :: r) := by unfold stF; rw [if_neg (by omega), if_pos (by omega)]; show some ((if _ then _ else _) :: r) = _; rw [if_neg (by assumption), bI_f hz]
                    rw [hs] at hv
                    exact ih (p' + 1) _ _ _ _ (by omega) (by omega) hat2 (by rw [hr]; simp) (by simp at hlen ⊢; omega) hSR.pop.push (hFr.st (by decide)) hv
                · refine r_iconst C (v := 1) dX2_workedOut_125 (by decide) ?_
                  refine r_goto C (tgt := 130) dX2_workedOut_126 rfl ?_
                  refine r_iast C rfl dX2_workedOut_130 (vin (by omega) (show top.toInt < 120 by omega)) ?_
                  refine r_goto C (tgt := 172) dX2_workedOut_131 rfl ?_
                  refine r_iinc C (v := 1) dX2_workedOut_172 rfl (by decide) rfl ?_
                  refine r_goto C (tgt := 14) dX2_workedOut_175 rfl ?_
                  refine r_drop 6 ?_
                  have hat2 : (at' + 1).toInt = ((p' + 1 : Nat) : Int) := by rw [tI_add (by omega) (by omega)]; omega
                  cases st with
                  | nil => exfalso; simp at htop; omega
                  | cons a r =>
                    have hr : top.toInt = (r.length : Int) := by simp at htop; omega
                    rw [ix_of hr]
                    have hz := ‹I' 15 (ix top) = 0›
                    rw [ix_of hr, hSR.top] at hz
                    have hs : stF nm op (a :: r) = some (1 :: r) := by unfold stF; rw [if_neg (by omega), if_pos (by omega)]; show some ((if _ then _ else _) :: r) = _; rw [if_neg (by assumption), bI_t hz]
                    rw [hs] at hv
                    exact ih (p' + 1) _ _ _ _ (by omega) (by omega) hat2 (by rw [hr]; simp) (by simp at hlen ⊢; omega) hSR.pop.push (hFr.st (by decide)) hv
              · refine r_aload_n C dX2_workedOut_104 rfl ?_
                refine r_getR C flX2_24 dX2_workedOut_105 rfl rfl rfl ?_
                refine r_iload C dX2_workedOut_108 rfl ?_
                refine r_iald C rfl dX2_workedOut_110 (vin (by omega) (show top.toInt < 120 by omega)) ?_
                refine r_ineg C dX2_workedOut_111 ?_
                refine r_goto C (tgt := 130) dX2_workedOut_112 rfl ?_
                refine r_iast C rfl dX2_workedOut_130 (vin (by omega) (show top.toInt < 120 by omega)) ?_
                refine r_goto C (tgt := 172) dX2_workedOut_131 rfl ?_
                refine r_iinc C (v := 1) dX2_workedOut_172 rfl (by decide) rfl ?_
                refine r_goto C (tgt := 14) dX2_workedOut_175 rfl ?_
                refine r_drop 6 ?_
                have hat2 : (at' + 1).toInt = ((p' + 1 : Nat) : Int) := by rw [tI_add (by omega) (by omega)]; omega
                cases st with
                | nil => exfalso; simp at htop; omega
                | cons a r =>
                  have hr : top.toInt = (r.length : Int) := by simp at htop; omega
                  rw [ix_of hr]
                  have hs : stF nm op (a :: r) = some (-a :: r) := by unfold stF; rw [if_neg (by omega), if_pos (by omega)]; show some ((if _ then _ else _) :: r) = _; rw [if_pos (by assumption)]
                  rw [hSR.top]
                  rw [hs] at hv
                  exact ih (p' + 1) _ _ _ _ (by omega) (by omega) hat2 (by rw [hr]; simp) (by simp at hlen ⊢; omega) hSR.pop.push (hFr.st (by decide)) hv
            · refine r_iconst C (v := 0) dX2_workedOut_89 (by decide) ?_
              exact ri C Z dX2_workedOut_90 ⟨by
        rw [hv]
        have e : st = [] := by cases st with | nil => rfl | cons a r => (exfalso; simp at htop; omega)
        subst e
        have hs : stF nm op [] = none := by unfold stF; rw [if_neg (by omega), if_pos (by omega)]
        rw [hs]; rfl, hFr⟩
        · refine r_iinc C (v := 1) dX2_workedOut_33 rfl (by decide) rfl ?_
          have htop1 : (top + 1).toInt = (st.length : Int) := by rw [tI_add (by omega) (by omega)]; omega
          generalize top + 1 = tp at htop1 ⊢
          refine r_iload C dX2_workedOut_36 rfl ?_
          refine r_aload_n C dX2_workedOut_38 rfl ?_
          refine r_getR C flX2_24 dX2_workedOut_39 rfl rfl rfl ?_
          refine r_alen C rfl dX2_workedOut_42 ?_
          refine b_iclt C (tgt := 48) rfl rfl dX2_workedOut_43 rfl (fun h43_9 => ?_) (fun h43_9 => ?_)
          · refine r_aload_n C dX2_workedOut_48 rfl ?_
            refine r_getR C flX2_24 dX2_workedOut_49 rfl rfl rfl ?_
            refine r_iload C dX2_workedOut_52 rfl ?_
            refine r_iload C dX2_workedOut_54 rfl ?_
            refine b_iflt C (tgt := 64) dX2_workedOut_56 rfl (fun h56_10 => ?_) (fun h56_10 => ?_)
            · refine r_aload_n C dX2_workedOut_64 rfl ?_
              refine r_getR C flX2_18 dX2_workedOut_65 rfl rfl rfl ?_
              refine r_iconst C (v := -1) dX2_workedOut_68 (by decide) ?_
              refine r_iload C dX2_workedOut_69 rfl ?_
              refine r_isub C dX2_workedOut_71 ?_
              have hnn : (-1 - op).toInt = -1 - op.toInt := by rw [tI_sub (by omega) (by omega)]; omega
              generalize hng : -1 - op = nn at hnn ⊢
              refine r_iald C rfl dX2_workedOut_72 (vin (by omega) (show nn.toInt < 6 by omega)) ?_
              refine r_iast C rfl dX2_workedOut_73 (vin (by omega) (show tp.toInt < 120 by omega)) ?_
              refine r_goto C (tgt := 172) dX2_workedOut_74 rfl ?_
              refine r_iinc C (v := 1) dX2_workedOut_172 rfl (by decide) rfl ?_
              refine r_goto C (tgt := 14) dX2_workedOut_175 rfl ?_
              refine r_drop 6 ?_
              have hat2 : (at' + 1).toInt = ((p' + 1 : Nat) : Int) := by rw [tI_add (by omega) (by omega)]; omega
              rw [ix_of htop1]
              have hs : stF nm op st = some (nm (ix nn) :: st) := by unfold stF; rw [if_pos (by omega), if_neg (by omega), hng]
              have hnv : I' 14 (ix nn) = nm (ix nn) := by rw [hFr 14 (by decide)]; exact hnm _ (by have e : ix nn = nn.toInt.toNat := rfl; omega)
              rw [hnv]
              rw [hs] at hv
              exact ih (p' + 1) _ _ _ _ (by omega) (by omega) hat2 (by rw [htop1]; simp) (by simp; omega) hSR.push (hFr.st (by decide)) hv
            · refine r_iload C dX2_workedOut_59 rfl ?_
              refine r_goto C (tgt := 73) dX2_workedOut_61 rfl ?_
              refine r_iast C rfl dX2_workedOut_73 (vin (by omega) (show tp.toInt < 120 by omega)) ?_
              refine r_goto C (tgt := 172) dX2_workedOut_74 rfl ?_
              refine r_iinc C (v := 1) dX2_workedOut_172 rfl (by decide) rfl ?_
              refine r_goto C (tgt := 14) dX2_workedOut_175 rfl ?_
              refine r_drop 6 ?_
              have hat2 : (at' + 1).toInt = ((p' + 1 : Nat) : Int) := by rw [tI_add (by omega) (by omega)]; omega
              rw [ix_of htop1]
              have hs : stF nm op st = some (op :: st) := by unfold stF; rw [if_pos (by omega), if_pos (by omega)]
              rw [hs] at hv
              exact ih (p' + 1) _ _ _ _ (by omega) (by omega) hat2 (by rw [htop1]; simp) (by simp; omega) hSR.push (hFr.st (by decide)) hv
          · exfalso; have e3 : (Int32.ofNat (ln 15)).toInt = 120 := (by rw [show ln 15 = 120 from rfl]; rfl); omega
  refine r_aload_n C dX2_workedOut_0 rfl ?_
  refine r_getR C flX2_12 dX2_workedOut_1 rfl rfl rfl ?_
  refine r_getR C flX2_70 dX2_workedOut_4 rfl rfl rfl ?_
  refine r_astore_n C dX2_workedOut_7 rfl rfl ?_
  refine r_iconst C (v := -1) dX2_workedOut_8 (by decide) ?_
  refine r_istore C dX2_workedOut_9 rfl rfl ?_
  refine r_iload_n C dX2_workedOut_11 rfl ?_
  refine r_istore C dX2_workedOut_12 rfl rfl ?_
  exact loop (q - p) p [] (-1) x I rfl hp9 hx0 rfl (Nat.zero_le _) (SR.nil _) Fr.rf rfl
