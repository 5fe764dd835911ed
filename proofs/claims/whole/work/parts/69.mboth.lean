theorem m21 {p q : Nat} (hp : p ≤ 20) (hq : q ≤ 20) : ix (21 * nI p + nI q) = 21 * p + q ∧ vp_in (21 * nI p + nI q) 441 := by
  have ip : (nI p).toInt = (p : Int) := nIint (by omega)
  have iq : (nI q).toInt = (q : Int) := nIint (by omega)
  have e21 : (21 : Int32).toInt = 21 := rfl
  have em : (21 * nI p : Int32).toInt = 21 * (p : Int) := by rw [tI_mul (by rw [e21, ip]; omega) (by rw [e21, ip]; omega), e21, ip]
  have ea : (21 * nI p + nI q : Int32).toInt = ((21 * p + q : Nat) : Int) := by rw [tI_add (by omega) (by omega), em, iq]; omega
  exact ⟨ix_of ea, vin (by omega) (by omega)⟩
/-- the reference with the first two strengths told otherwise -/
def st65 (I : Is) (x y : Int32) : Is := u2 (u2 I 65 0 x) 65 8 y
def boG (I : Is) (n p q : Nat) : GV := goF (enM (st65 I (nI p) (nI q))) (bit 7) (bit 0) (bit 0) n (bgF (gvT I))
def boV (I : Is) (n p q : Nat) : Int32 := (boG I n p q).2.2.2.2.1 0 * swF (I 65) 0 + (boG I n p q).2.2.2.2.1 1 * swF (I 65) 1
theorem st65_ap (I : Is) (x y : Int32) (k : Nat) : st65 I x y 65 k = if k = 8 then y else if k = 0 then x else I 65 k := by
  unfold st65 u2
  by_cases h8 : k = 8
  · simp [h8]
  · simp [h8]
set_option maxRecDepth 100000 in
set_option maxHeartbeats 400000 in
theorem sX10_isSelf {g : Gb} {d : Nat} (hd : 0 ≤ d) (p q f S : Nat) (hp : p ≤ 20) (hq : q ≤ 20) (hf : f ≤ 20) (hS : S ≤ 20) (I : Is) (J : Js) (b : Bool) : MC9 g d mX10_isSelf [.ref 64, .int (nI p), .int (nI q), .int (nI f), .int (nI S)] I J b (Qi J b (fun v I' => I' = I ∧ ((v = 1 ∧ ctF (I 79) (I 80) p q f S) ∨ (v = 0 ∧ ¬ ctF (I 79) (I 80) p q f S)))) := by
  have iff_ : (nI f).toInt = (f : Int) := nIint (by omega)
  have iS : (nI S).toInt = (S : Int) := nIint (by omega)
  obtain ⟨x1, x2⟩ := m21 hp hq
  refine ent9 (own := RX10) rfl rfl rfl (fun X hg hx C Z => ?_)
  subst hg
  have loop2 : ∀ (m k : Nat), m + k = S + 1 → (∀ o, o ≤ f → (I 79 (21 * o + q)).toInt ≤ (I 79 (21 * p + q)).toInt) → (∀ o, o < k → (I 80 (21 * p + o)).toInt ≤ (I 80 (21 * p + q)).toInt) → Aw X 46 [some (.ref 64), some (.int (nI p)), some (.int (nI q)), some (.int (nI f)), some (.int (nI S)), some (.int (nI k))] [] (st9 I J b) := by
    intro m
    induction m with
    | zero =>
      intro k hm h1 h2
      have ink : (nI k).toInt = (k : Int) := nIint (by omega)
      refine r_iload C dX10_isSelf_46 rfl ?_
      refine r_iload C dX10_isSelf_48 rfl ?_
      refine b_icgt C (tgt := 87) rfl rfl dX10_isSelf_50 rfl (fun h50_1 => ?_) (fun h50_1 => ?_)
      · refine r_iconst C (v := 1) dX10_isSelf_87 (by decide) ?_
        exact riz C Z dX10_isSelf_88 rfl ⟨rfl, Or.inl ⟨rfl, h1, fun o ho => h2 o (by omega)⟩⟩
      · exfalso; omega
    | succ m ih =>
      intro k hm h1 h2
      have ink : (nI k).toInt = (k : Int) := nIint (by omega)
      obtain ⟨y1, y2⟩ := m21 hp (show k ≤ 20 by omega)
      refine r_iload C dX10_isSelf_46 rfl ?_
      refine r_iload C dX10_isSelf_48 rfl ?_
      refine b_icgt C (tgt := 87) rfl rfl dX10_isSelf_50 rfl (fun h50_1 => ?_) (fun h50_1 => ?_)
      · exfalso; omega
      · refine r_aload_n C dX10_isSelf_53 rfl ?_
        refine r_getR C flX10_55 dX10_isSelf_54 rfl rfl rfl ?_
        refine r_bipush C (v := 21) dX10_isSelf_57 (by decide) ?_
        refine r_iload_n C dX10_isSelf_59 rfl ?_
        refine r_imul C dX10_isSelf_60 ?_
        refine r_iload C dX10_isSelf_61 rfl ?_
        refine r_iadd C dX10_isSelf_63 ?_
        refine r_iald C rfl dX10_isSelf_64 y2 ?_
        rw [y1]
        refine r_aload_n C dX10_isSelf_65 rfl ?_
        refine r_getR C flX10_55 dX10_isSelf_66 rfl rfl rfl ?_
        refine r_bipush C (v := 21) dX10_isSelf_69 (by decide) ?_
        refine r_iload_n C dX10_isSelf_71 rfl ?_
        refine r_imul C dX10_isSelf_72 ?_
        refine r_iload_n C dX10_isSelf_73 rfl ?_
        refine r_iadd C dX10_isSelf_74 ?_
        refine r_iald C rfl dX10_isSelf_75 x2 ?_
        rw [x1]
        refine b_icle C (tgt := 81) rfl rfl dX10_isSelf_76 rfl (fun h76_2 => ?_) (fun h76_2 => ?_)
        · refine r_iinc C (v := 1) dX10_isSelf_81 rfl (by decide) rfl ?_
          refine r_goto C (tgt := 46) dX10_isSelf_84 rfl ?_
          rw [nI_s]
          exact ih (k + 1) (by omega) h1 (fun o ho => by
            by_cases e : o = k
            · rw [e]; omega
            · exact h2 o (by omega))
        · refine r_iconst C (v := 0) dX10_isSelf_79 (by decide) ?_
          exact riz C Z dX10_isSelf_80 rfl ⟨rfl, Or.inr ⟨rfl, fun z => by have := z.2 k (by omega); omega⟩⟩
  have loop1 : ∀ (m k : Nat), m + k = f + 1 → (∀ o, o < k → (I 79 (21 * o + q)).toInt ≤ (I 79 (21 * p + q)).toInt) → Aw X 3 [some (.ref 64), some (.int (nI p)), some (.int (nI q)), some (.int (nI f)), some (.int (nI S)), some (.int (nI k))] [] (st9 I J b) := by
    intro m
    induction m with
    | zero =>
      intro k hm h1
      have ink : (nI k).toInt = (k : Int) := nIint (by omega)
      refine r_iload C dX10_isSelf_3 rfl ?_
      refine r_iload_n C dX10_isSelf_5 rfl ?_
      refine b_icgt C (tgt := 43) rfl rfl dX10_isSelf_6 rfl (fun h6_1 => ?_) (fun h6_1 => ?_)
      · refine r_iconst C (v := 0) dX10_isSelf_43 (by decide) ?_
        refine r_istore C dX10_isSelf_44 rfl rfl ?_
        exact loop2 (S + 1) 0 rfl (fun o ho => h1 o (by omega)) (fun o ho => absurd ho (Nat.not_lt_zero o))
      · exfalso; omega
    | succ m ih =>
      intro k hm h1
      have ink : (nI k).toInt = (k : Int) := nIint (by omega)
      obtain ⟨y1, y2⟩ := m21 (show k ≤ 20 by omega) hq
      refine r_iload C dX10_isSelf_3 rfl ?_
      refine r_iload_n C dX10_isSelf_5 rfl ?_
      refine b_icgt C (tgt := 43) rfl rfl dX10_isSelf_6 rfl (fun h6_1 => ?_) (fun h6_1 => ?_)
      · exfalso; omega
      · refine r_aload_n C dX10_isSelf_9 rfl ?_
        refine r_getR C flX10_52 dX10_isSelf_10 rfl rfl rfl ?_
        refine r_bipush C (v := 21) dX10_isSelf_13 (by decide) ?_
        refine r_iload C dX10_isSelf_15 rfl ?_
        refine r_imul C dX10_isSelf_17 ?_
        refine r_iload_n C dX10_isSelf_18 rfl ?_
        refine r_iadd C dX10_isSelf_19 ?_
        refine r_iald C rfl dX10_isSelf_20 y2 ?_
        rw [y1]
        refine r_aload_n C dX10_isSelf_21 rfl ?_
        refine r_getR C flX10_52 dX10_isSelf_22 rfl rfl rfl ?_
        refine r_bipush C (v := 21) dX10_isSelf_25 (by decide) ?_
        refine r_iload_n C dX10_isSelf_27 rfl ?_
        refine r_imul C dX10_isSelf_28 ?_
        refine r_iload_n C dX10_isSelf_29 rfl ?_
        refine r_iadd C dX10_isSelf_30 ?_
        refine r_iald C rfl dX10_isSelf_31 x2 ?_
        rw [x1]
        refine b_icle C (tgt := 37) rfl rfl dX10_isSelf_32 rfl (fun h32_2 => ?_) (fun h32_2 => ?_)
        · refine r_iinc C (v := 1) dX10_isSelf_37 rfl (by decide) rfl ?_
          refine r_goto C (tgt := 3) dX10_isSelf_40 rfl ?_
          rw [nI_s]
          exact ih (k + 1) (by omega) (fun o ho => by
            by_cases e : o = k
            · rw [e]; omega
            · exact h1 o (by omega))
        · refine r_iconst C (v := 0) dX10_isSelf_35 (by decide) ?_
          exact riz C Z dX10_isSelf_36 rfl ⟨rfl, Or.inr ⟨rfl, fun z => by have := z.1 k (by omega); omega⟩⟩
  refine r_iconst C (v := 0) dX10_isSelf_0 (by decide) ?_
  refine r_istore C dX10_isSelf_1 rfl rfl ?_
  exact loop1 (f + 1) 0 rfl (fun o ho => absurd ho (Nat.not_lt_zero o))
/-- no pair before (p, q) is content -/
def noB (A B : Nat → Nat → Int32) (f S p q : Nat) : Prop := (∀ i j, i < p → j ≤ S → ¬ ctG A B f S i j) ∧ ∀ j, j < q → ¬ ctG A B f S p j
/-- the first content pair before (p, q), or none -/
def slP (A B : Nat → Nat → Int32) (f S p q : Nat) (v : Int32) : Prop := (0 ≤ v.toInt ∧ slQ A B f S v) ∨ (v = -2 ∧ noB A B f S p q)
theorem ct_iff {A B : Nat → Nat → Int32} {f S p q : Nat} {I : Is} (hp : p ≤ f) (hq : q ≤ S) (h79 : flF A S (f + 1) 0 (I 79)) (h80 : flF B S (f + 1) 0 (I 80)) : ctF (I 79) (I 80) p q f S ↔ ctG A B f S p q := by
  unfold ctF ctG
  constructor
  · rintro ⟨h1, h2⟩
    refine ⟨fun o ho => ?_, fun o ho => ?_⟩
    · rw [← h79.1 o q (by omega) hq, ← h79.1 p q (by omega) hq]; exact h1 o ho
    · rw [← h80.1 p o (by omega) ho, ← h80.1 p q (by omega) hq]; exact h2 o ho
  · rintro ⟨h1, h2⟩
    refine ⟨fun o ho => ?_, fun o ho => ?_⟩
    · rw [h79.1 o q (by omega) hq, h79.1 p q (by omega) hq]; exact h1 o ho
    · rw [h80.1 p o (by omega) ho, h80.1 p q (by omega) hq]; exact h2 o ho
theorem fl_cg {A : Nat → Nat → Int32} {S i j : Nat} {r r' : Nat → Int32} (e : r' = r) (h : flF A S i j r) : flF A S i j r' := by rw [e]; exact h
set_option maxRecDepth 100000 in
set_option maxHeartbeats 400000 in
theorem sX10_both {g : Gb} {d : Nat} (hd : 85 ≤ d) (n w : Int32) (I : Is) (J : Js) (b : Bool) (hN : NM I) (hv : VOk (gvT I)) : MC9 g d mX10_both [.ref 64, .int n, .int w] I J b (Qi J b (fun v I' => (¬ (inR n 60 ∧ inR w 1) ∧ v = -1 ∧ I' = I) ∨ ((inR n 60 ∧ inR w 1) ∧ (I 64 6).toInt < 2 ∧ v = -5 ∧ I' = I) ∨ ((inR n 60 ∧ inR w 1) ∧ 2 ≤ (I 64 6).toInt ∧ w = 0 ∧ slQ (fun i j => (boG I (ix n) i j).2.2.2.2.1 0) (fun i j => (boG I (ix n) i j).2.2.2.2.1 1) (ix (I 65 0)) (ix (I 65 8)) v ∧ FrM (79 :: 80 :: RTM) FTM I I') ∨ ((inR n 60 ∧ inR w 1) ∧ 2 ≤ (I 64 6).toInt ∧ ¬ w = 0 ∧ v = (toF (boV I (ix n)) (ix (I 65 8)) (ix (I 65 0) + 1) 0 (-2) (-1)).1 ∧ FrM (79 :: 80 :: RTM) FTM I I'))) := by
  have hs0 := hN.1.1
  have hs3 := hN.1.2.1
  refine ent9 (own := RX10) rfl rfl rfl (fun X hg hx C Z => ?_)
  subst hg
  obtain ⟨f, hf⟩ : ∃ f, f = ix (I 65 0) := ⟨_, rfl⟩
  obtain ⟨S, hS⟩ : ∃ S, S = ix (I 65 8) := ⟨_, rfl⟩
  obtain ⟨A, hA⟩ : ∃ A, A = (fun i j => (boG I (ix n) i j).2.2.2.2.1 0) := ⟨_, rfl⟩
  obtain ⟨B, hB⟩ : ∃ B, B = (fun i j => (boG I (ix n) i j).2.2.2.2.1 1) := ⟨_, rfl⟩
  rw [← hf, ← hS, ← hA, ← hB] at Z
  have body : (inR n 60 ∧ inR w 1) → 2 ≤ (I 64 6).toInt → Aw X 30 [some (.ref 64), some (.int n), some (.int w), none, none, none, none, none, none, none] [] (st9 I J b) := by
    intro hin hs2
    have wz : ¬ w = 1 → ¬ w = 0 → False := fun a1 a2 => by
      have b1 := ne_int a1
      have b2 := ne_int a2
      have z1 : (1 : Int32).toInt = 1 := rfl
      have z0 : (0 : Int32).toInt = 0 := rfl
      obtain ⟨c1, c2⟩ := hin.2
      omega
    have hr0 : 0 ≤ (I 65 0).toInt ∧ (I 65 0).toInt ≤ 20 := (hN.1.2.2.1 0 (by omega)).1
    have hr8 : 0 ≤ (I 65 8).toInt ∧ (I 65 8).toInt ≤ 20 := (hN.1.2.2.1 1 (by omega)).1
    have hf9 : f ≤ 20 := by have := ix_nn hr0.1; omega
    have hS9 : S ≤ 20 := by have := ix_nn hr8.1; omega
    have i0 : I 65 0 = nI f := Int32.toInt_inj.mp (by rw [nIint (by omega)]; have := ix_nn hr0.1; omega)
    have i8 : I 65 8 = nI S := Int32.toInt_inj.mp (by rw [nIint (by omega)]; have := ix_nn hr8.1; omega)
    have iff_ : (nI f).toInt = (f : Int) := nIint (by omega)
    have iS : (nI S).toInt = (S : Int) := nIint (by omega)
    -- the search
    have out2 : ∀ (mo p : Nat) (be mm : Int32) (I' : Is) (x8 x9 : Option Value), mo + p = f + 1 → FrM (79 :: 80 :: RTM) FTM I I' → flF A S (f + 1) 0 (I' 79) → flF B S (f + 1) 0 (I' 80) → (w = 0 → slP A B f S p 0 be) → (¬ w = 0 → toF (boV I (ix n)) S mo p be mm = toF (boV I (ix n)) S (f + 1) 0 (-2) (-1)) → Aw X 167 [some (.ref 64), some (.int n), some (.int w), some (.int (nI f)), some (.int (nI S)), some (.int be), some (.int mm), some (.int (nI p)), x8, x9] [] (st9 I' J b) := by
      intro mo
      induction mo with
      | zero =>
        intro p be mm I' x8 x9 hm hF h79 h80 h0 h1
        have inp : (nI p).toInt = (p : Int) := nIint (by omega)
        refine r_iload C dX10_both_167 rfl ?_
        refine r_iload_n C dX10_both_169 rfl ?_
        refine b_icgt C (tgt := 283) rfl rfl dX10_both_170 rfl (fun h170_1 => ?_) (fun h170_1 => ?_)
        · have hpf : p = f + 1 := by omega
          rw [hpf] at h0
          have fin0 : w = 0 → slQ A B f S be := fun hw => by
            rcases h0 hw with z | ⟨z1, z2⟩
            · exact z.2
            · exact Or.inr ⟨z1, fun i j hi hj => z2.1 i j (by omega) hj⟩
          refine r_iload C dX10_both_283 rfl ?_
          exact ri C Z dX10_both_285 (show (_ ∨ _ ∨ _ ∨ _) from by
          by_cases hw : w = 0
          · exact Or.inr (Or.inr (Or.inl ⟨hin, hs2, hw, fin0 hw, hF⟩))
          · exact Or.inr (Or.inr (Or.inr ⟨hin, hs2, hw, congrArg Prod.fst (h1 hw), hF⟩)))
        · exfalso; omega
      | succ mo iho =>
        intro p be mm I' x8 x9 hm hF h79 h80 h0 h1
        have inp : (nI p).toInt = (p : Int) := nIint (by omega)
        have e65 : I' 65 = I 65 := hF.1 65 (by decide) (by decide)
        have inn : ∀ (m q : Nat) (be mm : Int32) (x9 : Option Value), m + q = S + 1 → (w = 0 → slP A B f S p q be) → (¬ w = 0 → toF (boV I (ix n)) S mo (p + 1) (tiF (boV I (ix n)) p m q be mm).1 (tiF (boV I (ix n)) p m q be mm).2 = toF (boV I (ix n)) S (f + 1) 0 (-2) (-1)) → Aw X 176 [some (.ref 64), some (.int n), some (.int w), some (.int (nI f)), some (.int (nI S)), some (.int be), some (.int mm), some (.int (nI p)), some (.int (nI q)), x9] [] (st9 I' J b) := by
          intro m
          induction m with
          | zero =>
            intro q be mm x9 hm2 g0 g1
            have inq : (nI q).toInt = (q : Int) := nIint (by omega)
            refine r_iload C dX10_both_176 rfl ?_
            refine r_iload C dX10_both_178 rfl ?_
            refine b_icgt C (tgt := 277) rfl rfl dX10_both_180 rfl (fun h180_1 => ?_) (fun h180_1 => ?_)
            · refine r_iinc C (v := 1) dX10_both_277 rfl (by decide) rfl ?_
              refine r_goto C (tgt := 167) dX10_both_280 rfl ?_
              rw [nI_s]
              exact iho (p + 1) be mm I' _ _ (by omega) hF h79 h80 (fun hw => by
                rcases g0 hw with z | ⟨z1, z2⟩
                · exact Or.inl z
                · refine Or.inr ⟨z1, fun i j hi hj => ?_, fun j hj => absurd hj (Nat.not_lt_zero j)⟩
                  by_cases e : i = p
                  · rw [e]; exact z2.2 j (by omega)
                  · exact z2.1 i j (by omega) hj) g1
            · exfalso; omega
          | succ m ihi =>
            intro q be mm x9 hm2 g0 g1
            have inq : (nI q).toInt = (q : Int) := nIint (by omega)
            obtain ⟨y1, y2⟩ := m21 (show p ≤ 20 by omega) (show q ≤ 20 by omega)
            have hvA : I' 79 (21 * p + q) = A p q := h79.1 p q (by omega) (by omega)
            have hvB : I' 80 (21 * p + q) = B p q := h80.1 p q (by omega) (by omega)
            have hV : A p q * swF (I 65) 0 + B p q * swF (I 65) 1 = boV I (ix n) p q := by rw [hA, hB]; rfl
            have hti : tiF (boV I (ix n)) p (m + 1) q be mm = if mm.toInt < (boV I (ix n) p q).toInt then tiF (boV I (ix n)) p m (q + 1) (100 * nI p + nI q) (boV I (ix n) p q) else tiF (boV I (ix n)) p m (q + 1) be mm := rfl
            have hct := ct_iff (show p ≤ f by omega) (show q ≤ S by omega) h79 h80
            refine r_iload C dX10_both_176 rfl ?_
            refine r_iload C dX10_both_178 rfl ?_
            refine b_icgt C (tgt := 277) rfl rfl dX10_both_180 rfl (fun h180_1 => ?_) (fun h180_1 => ?_)
            · exfalso; omega
            · refine r_aload_n C dX10_both_183 rfl ?_
              refine r_iconst C (v := 0) dX10_both_184 (by decide) ?_
              refine r_aload_n C dX10_both_185 rfl ?_
              refine r_getR C flX10_52 dX10_both_186 rfl rfl rfl ?_
              refine r_bipush C (v := 21) dX10_both_189 (by decide) ?_
              refine r_iload C dX10_both_191 rfl ?_
              refine r_imul C dX10_both_193 ?_
              refine r_iload C dX10_both_194 rfl ?_
              refine r_iadd C dX10_both_196 ?_
              refine r_iald C rfl dX10_both_197 y2 ?_
              rw [y1, hvA]
              refine cV (ci := 10) C hx (sX10_sweetOf (d := d - 1) (by omega) 0 (by decide) _ I' J b) moX10_sweetOf mlX10_265 miX10_sweetOf msX10_sweetOf dX10_both_198 rfl rfl rfl rfl rfl (by omega) rfl rfl (kp ?_)
              refine r_aload_n C dX10_both_201 rfl ?_
              refine r_iconst C (v := 1) dX10_both_202 (by decide) ?_
              refine r_aload_n C dX10_both_203 rfl ?_
              refine r_getR C flX10_55 dX10_both_204 rfl rfl rfl ?_
              refine r_bipush C (v := 21) dX10_both_207 (by decide) ?_
              refine r_iload C dX10_both_209 rfl ?_
              refine r_imul C dX10_both_211 ?_
              refine r_iload C dX10_both_212 rfl ?_
              refine r_iadd C dX10_both_214 ?_
              refine r_iald C rfl dX10_both_215 y2 ?_
              rw [y1, hvB]
              refine cV (ci := 10) C hx (sX10_sweetOf (d := d - 1) (by omega) 1 (by decide) _ I' J b) moX10_sweetOf mlX10_265 miX10_sweetOf msX10_sweetOf dX10_both_216 rfl rfl rfl rfl rfl (by omega) rfl rfl (kp ?_)
              refine r_iadd C dX10_both_219 ?_
              rw [e65, hV]
              refine r_istore C dX10_both_220 rfl rfl ?_
              refine r_iload_n C dX10_both_222 rfl ?_
              refine r_iconst C (v := 1) dX10_both_223 (by decide) ?_
              refine r_icne C (tgt := 234) dX10_both_224 rfl (fun h224_4 => ?_) (fun h224_4 => ?_)
              · refine r_iload_n C dX10_both_234 rfl ?_
                refine r_ifne C (tgt := 271) dX10_both_235 rfl (fun h235_5 => ?_) (fun h235_5 => ?_)
                · refine r_iinc C (v := 1) dX10_both_271 rfl (by decide) rfl ?_
                  refine r_goto C (tgt := 176) dX10_both_274 rfl ?_
                  exfalso; exact wz (by assumption) (by assumption)
                · refine r_iload C dX10_both_238 rfl ?_
                  refine b_ifge C (tgt := 271) dX10_both_240 rfl (fun h240_6 => ?_) (fun h240_6 => ?_)
                  · refine r_iinc C (v := 1) dX10_both_271 rfl (by decide) rfl ?_
                    refine r_goto C (tgt := 176) dX10_both_274 rfl ?_
                    rw [nI_s]
                    have w0 : w = 0 := by assumption
                    exact ihi (q + 1) _ _ _ (by omega) (fun _ => by
                      rcases g0 w0 with z | z
                      · exact Or.inl z
                      · exfalso; have hh : 0 ≤ be.toInt := by assumption
                        rw [z.1] at hh; exact absurd hh (by decide)) (fun hw => absurd w0 hw)
                  · refine r_aload_n C dX10_both_243 rfl ?_
                    refine r_iload C dX10_both_244 rfl ?_
                    refine r_iload C dX10_both_246 rfl ?_
                    refine r_iload_n C dX10_both_248 rfl ?_
                    refine r_iload C dX10_both_249 rfl ?_
                    refine cV (ci := 10) C hx (sX10_isSelf (d := d - 1) (by omega) p q f S (by omega) (by omega) hf9 hS9 I' J b) moX10_isSelf mlX10_284 miX10_isSelf msX10_isSelf dX10_both_251 rfl rfl rfl rfl rfl (by omega) rfl rfl (ki (fun v_251_7 I_251_7 q_251_7 => ?_))
                    obtain ⟨rfl, hsf⟩ := q_251_7
                    refine r_ifeq C (tgt := 271) dX10_both_254 rfl (fun h254_8 => ?_) (fun h254_8 => ?_)
                    · refine r_iinc C (v := 1) dX10_both_271 rfl (by decide) rfl ?_
                      refine r_goto C (tgt := 176) dX10_both_274 rfl ?_
                      rw [nI_s]
                      have w0 : w = 0 := by assumption
                      have hn0 : slP A B f S p q be := g0 w0
                      have hno : noB A B f S p q := by
                        rcases hn0 with z | z
                        · exfalso; have := z.1; omega
                        · exact z.2
                      have hb2 : be = -2 := by
                        rcases hn0 with z | z
                        · exfalso; have := z.1; omega
                        · exact z.1
                      have hnot : ¬ ctG A B f S p q := fun z => (hsf.resolve_left (fun y => absurd (y.1.symm.trans (by assumption)) (by decide))).2 (hct.mpr z)
                      exact ihi (q + 1) _ _ _ (by omega) (fun _ => Or.inr ⟨hb2, hno.1, fun j hj => by
                        by_cases e : j = q
                        · rw [e]; exact hnot
                        · exact hno.2 j (by omega)⟩) (fun hw => absurd w0 hw)
                    · refine r_bipush C (v := 100) dX10_both_257 (by decide) ?_
                      refine r_iload C dX10_both_259 rfl ?_
                      refine r_imul C dX10_both_261 ?_
                      refine r_iload C dX10_both_262 rfl ?_
                      refine r_iadd C dX10_both_264 ?_
                      refine r_istore C dX10_both_265 rfl rfl ?_
                      refine r_iload C dX10_both_267 rfl ?_
                      refine r_istore C dX10_both_269 rfl rfl ?_
                      refine r_iinc C (v := 1) dX10_both_271 rfl (by decide) rfl ?_
                      refine r_goto C (tgt := 176) dX10_both_274 rfl ?_
                      rw [nI_s]
                      have w0 : w = 0 := by assumption
                      have hn0 : slP A B f S p q be := g0 w0
                      have hno : noB A B f S p q := by
                        rcases hn0 with z | z
                        · exfalso; have := z.1; omega
                        · exact z.2
                      have hb2 : be = -2 := by
                        rcases hn0 with z | z
                        · exfalso; have := z.1; omega
                        · exact z.1
                      have hyes : ctG A B f S p q := hct.mp (hsf.resolve_right (fun z => absurd z.1 (by assumption))).2
                      have e9 : (100 * nI p + nI q : Int32).toInt = 100 * (p : Int) + q := by
                        have e1 : (100 : Int32).toInt = 100 := rfl
                        have em : (100 * nI p : Int32).toInt = 100 * (p : Int) := by rw [tI_mul (by rw [e1, inp]; omega) (by rw [e1, inp]; omega), e1, inp]
                        rw [tI_add (by omega) (by omega), em, inq]
                      exact ihi (q + 1) _ _ _ (by omega) (fun _ => Or.inl ⟨by omega, Or.inl ⟨p, q, by omega, by omega, rfl, hyes, fun i' j' hj hi => hno.1 i' j' hi hj, hno.2⟩⟩) (fun hw => absurd w0 hw)
              · refine r_iload C dX10_both_227 rfl ?_
                refine r_iload C dX10_both_229 rfl ?_
                refine b_icgt C (tgt := 257) rfl rfl dX10_both_231 rfl (fun h231_9 => ?_) (fun h231_9 => ?_)
                · refine r_bipush C (v := 100) dX10_both_257 (by decide) ?_
                  refine r_iload C dX10_both_259 rfl ?_
                  refine r_imul C dX10_both_261 ?_
                  refine r_iload C dX10_both_262 rfl ?_
                  refine r_iadd C dX10_both_264 ?_
                  refine r_istore C dX10_both_265 rfl rfl ?_
                  refine r_iload C dX10_both_267 rfl ?_
                  refine r_istore C dX10_both_269 rfl rfl ?_
                  refine r_iinc C (v := 1) dX10_both_271 rfl (by decide) rfl ?_
                  refine r_goto C (tgt := 176) dX10_both_274 rfl ?_
                  rw [nI_s]
                  have w1 : w = 1 := by assumption
                  exact ihi (q + 1) _ _ _ (by omega) (fun hw => absurd (w1.symm.trans hw) (by decide)) (fun hw => by
                    have h2 := g1 hw
                    rw [hti, if_pos (by assumption)] at h2
                    exact h2)
                · refine r_iload_n C dX10_both_234 rfl ?_
                  refine r_ifne C (tgt := 271) dX10_both_235 rfl (fun h235_10 => ?_) (fun h235_10 => ?_)
                  · refine r_iinc C (v := 1) dX10_both_271 rfl (by decide) rfl ?_
                    refine r_goto C (tgt := 176) dX10_both_274 rfl ?_
                    rw [nI_s]
                    exact ihi (q + 1) _ _ _ (by omega) (fun hw => absurd hw (by assumption)) (fun hw => by
                      have h2 := g1 hw
                      rw [hti, if_neg (by omega)] at h2
                      exact h2)
                  · exact absurd ((show w = 1 by assumption).symm.trans (show w = 0 by assumption)) (by decide)
        refine r_iload C dX10_both_167 rfl ?_
        refine r_iload_n C dX10_both_169 rfl ?_
        refine b_icgt C (tgt := 283) rfl rfl dX10_both_170 rfl (fun h170_1 => ?_) (fun h170_1 => ?_)
        · exfalso; omega
        · refine r_iconst C (v := 0) dX10_both_173 (by decide) ?_
          refine r_istore C dX10_both_174 rfl rfl ?_
          exact inn (S + 1) 0 be mm _ (by omega) (fun hw => h0 hw) (fun hw => h1 hw)
    have out1 : ∀ (mo p : Nat) (I' : Is) (x8 x9 : Option Value), mo + p = f + 1 → FrM (65 :: 79 :: 80 :: RTM) FTM I I' → (∀ k, k ≠ 0 → k ≠ 8 → I' 65 k = I 65 k) → flF A S p 0 (I' 79) → flF B S p 0 (I' 80) → Aw X 56 [some (.ref 64), some (.int n), some (.int w), some (.int (nI f)), some (.int (nI S)), some (.int (-2)), some (.int (-1)), some (.int (nI p)), x8, x9] [] (st9 I' J b) := by
      intro mo
      induction mo with
      | zero =>
        intro p I' x8 x9 hm hF hk h79 h80
        have inp : (nI p).toInt = (p : Int) := nIint (by omega)
        have hpf : p = f + 1 := by omega
        rw [hpf] at h79 h80
        rw [hpf]
        rw [hpf] at inp
        have hFe : FrM (79 :: 80 :: RTM) FTM I (u2 (u2 I' 65 0 (nI f)) 65 8 (nI S)) := by
          refine ⟨fun c hc hl => ?_, fun k hk2 => hF.2 k hk2⟩
          by_cases e : c = 65
          · subst e
            funext k
            show st65 I' (nI f) (nI S) 65 k = I 65 k
            rw [st65_ap]
            by_cases e8 : k = 8
            · rw [if_pos e8, e8, i8]
            · rw [if_neg e8]
              by_cases e0 : k = 0
              · rw [if_pos e0, e0, i0]
              · rw [if_neg e0]; exact hk k e0 e8
          · rw [u2_row e, u2_row e]
            exact hF.1 c hc (fun z => by rcases List.mem_cons.mp z with y | y; exact e y; exact hl y)
        refine r_iload C dX10_both_56 rfl ?_
        refine r_iload_n C dX10_both_58 rfl ?_
        refine b_icgt C (tgt := 148) rfl rfl dX10_both_59 rfl (fun h59_1 => ?_) (fun h59_1 => ?_)
        · refine r_aload_n C dX10_both_148 rfl ?_
          refine r_getR C flX10_9 dX10_both_149 rfl rfl rfl ?_
          refine r_iconst C (v := 0) dX10_both_152 (by decide) ?_
          refine r_iload_n C dX10_both_153 rfl ?_
          refine r_iast C rfl dX10_both_154 (vin (by decide) (by decide)) ?_
          refine r_aload_n C dX10_both_155 rfl ?_
          refine r_getR C flX10_9 dX10_both_156 rfl rfl rfl ?_
          refine r_bipush C (v := 8) dX10_both_159 (by decide) ?_
          refine r_iload C dX10_both_161 rfl ?_
          refine r_iast C rfl dX10_both_163 (vin (by decide) (by decide)) ?_
          refine r_iconst C (v := 0) dX10_both_164 (by decide) ?_
          refine r_istore C dX10_both_165 rfl rfl ?_
          exact out2 (f + 1) 0 _ _ _ _ _ rfl hFe h79 h80 (fun _ => Or.inr ⟨rfl, fun i j hi => absurd hi (Nat.not_lt_zero i), fun j hj => absurd hj (Nat.not_lt_zero j)⟩) (fun _ => rfl)
        · exfalso; omega
      | succ mo iho =>
        intro p I' x8 x9 hm hF hk h79 h80
        have inp : (nI p).toInt = (p : Int) := nIint (by omega)
        have inn : ∀ (m q : Nat) (I' : Is) (x9 : Option Value), m + q = S + 1 → FrM (65 :: 79 :: 80 :: RTM) FTM I I' → (∀ k, k ≠ 0 → k ≠ 8 → I' 65 k = I 65 k) → flF A S p q (I' 79) → flF B S p q (I' 80) → Aw X 65 [some (.ref 64), some (.int n), some (.int w), some (.int (nI f)), some (.int (nI S)), some (.int (-2)), some (.int (-1)), some (.int (nI p)), some (.int (nI q)), x9] [] (st9 I' J b) := by
          intro m
          induction m with
          | zero =>
            intro q I' x9 hm2 hF hk h79 h80
            have inq : (nI q).toInt = (q : Int) := nIint (by omega)
            rw [show q = S + 1 by omega] at h79 h80
            refine r_iload C dX10_both_65 rfl ?_
            refine r_iload C dX10_both_67 rfl ?_
            refine b_icgt C (tgt := 142) rfl rfl dX10_both_69 rfl (fun h69_1 => ?_) (fun h69_1 => ?_)
            · refine r_iinc C (v := 1) dX10_both_142 rfl (by decide) rfl ?_
              refine r_goto C (tgt := 56) dX10_both_145 rfl ?_
              rw [nI_s]
              exact iho (p + 1) I' _ _ (by omega) hF hk h79.row h80.row
            · exfalso; omega
          | succ m ihi =>
            intro q I' x9 hm2 hF hk h79 h80
            have inq : (nI q).toInt = (q : Int) := nIint (by omega)
            obtain ⟨y1, y2⟩ := m21 (show p ≤ 20 by omega) (show q ≤ 20 by omega)
            obtain ⟨I1, hI1⟩ : ∃ z, z = u2 (u2 I' 65 0 (nI p)) 65 8 (nI q) := ⟨_, rfl⟩
            have r65 : I1 65 = st65 I (nI p) (nI q) 65 := by
              rw [hI1]
              funext k
              show st65 I' (nI p) (nI q) 65 k = _
              rw [st65_ap, st65_ap]
              by_cases e8 : k = 8
              · rw [if_pos e8, if_pos e8]
              · rw [if_neg e8, if_neg e8]
                by_cases e0 : k = 0
                · rw [if_pos e0, if_pos e0]
                · rw [if_neg e0, if_neg e0]; exact hk k e0 e8
            have hF1 : FrM (65 :: 79 :: 80 :: RTM) FTM I I1 := by rw [hI1]; exact (hF.st (by decide) (by decide)).st (by decide) (by decide)
            have hen : enM I1 = enM (st65 I (nI p) (nI q)) := by
              have e71 : I1 71 = (st65 I (nI p) (nI q)) 71 := hF1.1 71 (by decide) (by decide)
              have e14 : I1 64 14 = (st65 I (nI p) (nI q)) 64 14 := hF1.2 14 (by decide)
              have e6 : I1 64 6 = (st65 I (nI p) (nI q)) 64 6 := hF1.2 6 (by decide)
              unfold enM
              rw [wtM_congr r65 e71 e14, r65, e6]
            have hgt : gvT I1 = gvT I := gvT_fr hF1 (by decide) (by decide) (by decide) (by decide) (by decide) (by decide) (by decide)
            have hN1 : NM I1 := by
              have e6 : I1 64 6 = I 64 6 := hF1.2 6 (by decide)
              refine ⟨?_, by rw [hF1.2 14 (by decide)]; exact hN.2⟩
              rw [e6, r65, show st65 I (nI p) (nI q) 65 = fun k => if k = 8 * 1 + 0 then nI q else (fun k => if k = 8 * 0 + 0 then nI p else I 65 k) k from funext (st65_ap I (nI p) (nI q))]
              exact NW_upd (NW_upd hN.1 (by omega) (Or.inl ⟨rfl, by omega, by omega⟩)) (by omega) (Or.inl ⟨rfl, by omega, by omega⟩)
            have hvb : VOk (bgF (gvT I1)) := by rw [hgt]; exact hv
            have n79 : I1 79 = I' 79 := by rw [hI1, u2_row (by decide), u2_row (by decide)]
            have n80 : I1 80 = I' 80 := by rw [hI1, u2_row (by decide), u2_row (by decide)]
            have k65 : ∀ k, k ≠ 0 → k ≠ 8 → I1 65 k = I 65 k := fun k h0 h8 => by rw [r65, st65_ap, if_neg h8, if_neg h0]
            refine r_iload C dX10_both_65 rfl ?_
            refine r_iload C dX10_both_67 rfl ?_
            refine b_icgt C (tgt := 142) rfl rfl dX10_both_69 rfl (fun h69_1 => ?_) (fun h69_1 => ?_)
            · exfalso; omega
            · refine r_aload_n C dX10_both_72 rfl ?_
              refine r_getR C flX10_9 dX10_both_73 rfl rfl rfl ?_
              refine r_iconst C (v := 0) dX10_both_76 (by decide) ?_
              refine r_iload C dX10_both_77 rfl ?_
              refine r_iast C rfl dX10_both_79 (vin (by decide) (by decide)) ?_
              refine r_aload_n C dX10_both_80 rfl ?_
              refine r_getR C flX10_9 dX10_both_81 rfl rfl rfl ?_
              refine r_bipush C (v := 8) dX10_both_84 (by decide) ?_
              refine r_iload C dX10_both_86 rfl ?_
              refine r_iast C rfl dX10_both_88 (vin (by decide) (by decide)) ?_
              refine (show Aw X 89 _ _ (st9 (u2 (u2 I' 65 0 (nI p)) 65 8 (nI q)) J b) from ?_)
              rw [← hI1]
              refine r_aload_n C dX10_both_89 rfl ?_
              refine cV (ci := 10) C hx (sX10_begins1 (d := d - 1) (by omega) I1 J b) moX10_begins1 mlX10_258 miX10_begins1 msX10_begins1 dX10_both_90 rfl rfl rfl rfl rfl (by omega) rfl rfl (kv (fun I_90_2 q_90_2 => ?_))
              have hT := th_bg (I := I1) hN1 FrM.rf q_90_2
              refine r_aload_n C dX10_both_93 rfl ?_
              refine r_iload_n C dX10_both_94 rfl ?_
              refine cV (ci := 10) C hx (sX10_goes (d := d - 1) (by omega) (ix n) n (ix_of0 hin.1.1) I1 _ J b hN1 (hvb) hT) moX10_goes mlX10_261 miX10_goes msX10_goes dX10_both_95 rfl rfl rfl rfl rfl (by omega) rfl rfl (kv (fun I_95_3 q_95_3 => ?_))
              have hT2 := q_95_3
              rw [hen, hgt] at hT2
              have hq1 := hT2.1
              have va : I_95_3 74 0 = A p q := by rw [hA]; exact hT2.2.1.2.2.2.2.1 0 (by decide)
              have vb : I_95_3 74 1 = B p q := by rw [hB]; exact hT2.2.1.2.2.2.2.1 1 (by decide)
              refine r_aload_n C dX10_both_98 rfl ?_
              refine r_getR C flX10_52 dX10_both_99 rfl rfl rfl ?_
              refine r_bipush C (v := 21) dX10_both_102 (by decide) ?_
              refine r_iload C dX10_both_104 rfl ?_
              refine r_imul C dX10_both_106 ?_
              refine r_iload C dX10_both_107 rfl ?_
              refine r_iadd C dX10_both_109 ?_
              refine r_aload_n C dX10_both_110 rfl ?_
              refine r_getR C flX10_37 dX10_both_111 rfl rfl rfl ?_
              refine r_iconst C (v := 0) dX10_both_114 (by decide) ?_
              refine r_iald C rfl dX10_both_115 (vin (by decide) (by decide)) ?_
              refine r_iast C rfl dX10_both_116 y2 ?_
              rw [y1]
              refine r_aload_n C dX10_both_117 rfl ?_
              refine r_getR C flX10_55 dX10_both_118 rfl rfl rfl ?_
              refine r_bipush C (v := 21) dX10_both_121 (by decide) ?_
              refine r_iload C dX10_both_123 rfl ?_
              refine r_imul C dX10_both_125 ?_
              refine r_iload C dX10_both_126 rfl ?_
              refine r_iadd C dX10_both_128 ?_
              refine r_aload_n C dX10_both_129 rfl ?_
              refine r_getR C flX10_37 dX10_both_130 rfl rfl rfl ?_
              refine r_iconst C (v := 1) dX10_both_133 (by decide) ?_
              refine r_iald C rfl dX10_both_134 (vin (by decide) (by decide)) ?_
              refine r_iast C rfl dX10_both_135 y2 ?_
              rw [y1]
              refine r_iinc C (v := 1) dX10_both_136 rfl (by decide) rfl ?_
              refine r_goto C (tgt := 65) dX10_both_139 rfl ?_
              rw [nI_s]
              exact ihi (q + 1) _ _ (by omega) (((hF1.tr hq1 (by decide) (by decide) (by decide) (by decide)).st (by decide) (by decide)).st (by decide) (by decide)) (fun k h0 h8 => by
                rw [u2_row (t := 80) (t' := 65) (by decide), u2_row (t := 79) (t' := 65) (by decide), hq1.1 65 (by decide) (by decide)]; exact k65 k h0 h8) (fl_cg (u2_row (t := 80) (t' := 79) (by decide)) (flF.step (fl_cg ((hq1.1 79 (by decide) (by decide)).trans n79) h79) hS9 (by omega) va)) (flF.step (fl_cg ((u2_row (t := 79) (t' := 80) (by decide)).trans ((hq1.1 80 (by decide) (by decide)).trans n80)) h80) hS9 (by omega) vb)
        refine r_iload C dX10_both_56 rfl ?_
        refine r_iload_n C dX10_both_58 rfl ?_
        refine b_icgt C (tgt := 148) rfl rfl dX10_both_59 rfl (fun h59_1 => ?_) (fun h59_1 => ?_)
        · exfalso; omega
        · refine r_iconst C (v := 0) dX10_both_62 (by decide) ?_
          refine r_istore C dX10_both_63 rfl rfl ?_
          exact inn (S + 1) 0 I' _ rfl hF hk h79 h80
    refine r_aload_n C dX10_both_30 rfl ?_
    refine r_getR C flX10_9 dX10_both_31 rfl rfl rfl ?_
    refine r_iconst C (v := 0) dX10_both_34 (by decide) ?_
    refine r_iald C rfl dX10_both_35 (vin (by decide) (by decide)) ?_
    rw [show I 65 (ix 0) = nI f from i0]
    refine r_istore_n C dX10_both_36 rfl rfl ?_
    refine r_aload_n C dX10_both_37 rfl ?_
    refine r_getR C flX10_9 dX10_both_38 rfl rfl rfl ?_
    refine r_bipush C (v := 8) dX10_both_41 (by decide) ?_
    refine r_iald C rfl dX10_both_43 (vin (by decide) (by decide)) ?_
    rw [show I 65 (ix 8) = nI S from i8]
    refine r_istore C dX10_both_44 rfl rfl ?_
    refine r_bipush C (v := -2) dX10_both_46 (by decide) ?_
    refine r_istore C dX10_both_48 rfl rfl ?_
    refine r_iconst C (v := -1) dX10_both_50 (by decide) ?_
    refine r_istore C dX10_both_51 rfl rfl ?_
    refine r_iconst C (v := 0) dX10_both_53 (by decide) ?_
    refine r_istore C dX10_both_54 rfl rfl ?_
    exact out1 (f + 1) 0 I _ _ rfl FrM.rf (fun _ _ _ => rfl) ⟨fun i j hi => absurd hi (Nat.not_lt_zero i), fun j hj => absurd hj (Nat.not_lt_zero j)⟩ ⟨fun i j hi => absurd hi (Nat.not_lt_zero i), fun j hj => absurd hj (Nat.not_lt_zero j)⟩
  refine r_iload_n C dX10_both_0 rfl ?_
  refine cS C hx (sX10_isSoon (d := d - 1) (by omega) _ I J b) moX10_isSoon mlX10_278 mtX10_isSoon dX10_both_1 rfl rfl (by omega) rfl rfl (kp ?_)
  refine z_ifeq C (tgt := 17) dX10_both_4 rfl (fun h4_2 => ?_) (fun h4_2 => ?_)
  · refine r_iconst C (v := -1) dX10_both_17 (by decide) ?_
    exact ri C Z dX10_both_18 (show (_ ∨ _ ∨ _ ∨ _) from Or.inl ⟨fun z => absurd z.1 (by assumption), rfl, rfl⟩)
  · refine r_iload_n C dX10_both_7 rfl ?_
    refine r_i2l C dX10_both_8 ?_
    refine r_lconst C (v := 0) dX10_both_9 (by decide) ?_
    refine r_lconst C (v := 1) dX10_both_10 (by decide) ?_
    refine cS C hx (sWi (d := d - 1) _ (lo := 0) (hi := 1) rfl rfl I J b) moX10_within mlX10_105 mtX10_within dX10_both_11 rfl rfl (by omega) rfl rfl (kp ?_)
    refine z_ifne C (tgt := 19) dX10_both_14 rfl (fun h14_4 => ?_) (fun h14_4 => ?_)
    · have hin : (inR n 60 ∧ inR w 1) := ⟨by assumption, by assumption⟩
      refine r_aload_n C dX10_both_19 rfl ?_
      refine r_getI C flX10_102 dX10_both_20 rfl rfl ?_
      refine r_iconst C (v := 2) dX10_both_23 (by decide) ?_
      refine b_icge C (tgt := 30) (my := 2) rfl rfl dX10_both_24 rfl (fun h24_5 => ?_) (fun h24_5 => ?_)
      · exact body hin (by assumption)
      · refine r_bipush C (v := -5) dX10_both_27 (by decide) ?_
        exact ri C Z dX10_both_29 (show (_ ∨ _ ∨ _ ∨ _) from Or.inr (Or.inl ⟨hin, by assumption, rfl, rfl⟩))
    · refine r_iconst C (v := -1) dX10_both_17 (by decide) ?_
      exact ri C Z dX10_both_18 (show (_ ∨ _ ∨ _ ∨ _) from Or.inl ⟨fun z => absurd z.2 (by assumption), rfl, rfl⟩)
