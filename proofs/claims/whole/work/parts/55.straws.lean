def apF (J : Js) (t : Nat) (p : Int32) (I : Is) (v : Int32) (I' : Is) : Prop := (¬ (fitP 0 ((J (t + 1) (ix p)).toInt32) ∧ fitP 1 ((J (t + 1) (ix (p + 1))).toInt32) ∧ fitP 2 ((J (t + 1) (ix (p + 2))).toInt32)) ∧ v = 0 ∧ I' = I) ∨ ((fitP 0 ((J (t + 1) (ix p)).toInt32) ∧ fitP 1 ((J (t + 1) (ix (p + 1))).toInt32) ∧ fitP 2 ((J (t + 1) (ix (p + 2))).toInt32)) ∧ ∃ q : Int32, ((3 ≤ (I 1 1).toInt ∧ q = -3 ∧ I' = I) ∨ ((I 1 1).toInt < 3 ∧ q = I 1 1 + 1 - 1 ∧ I' 1 1 = I 1 1 + 1 ∧ (∀ k, I' 2 k = if 8 * ix (I 1 1) ≤ k ∧ k < 8 * ix (I 1 1) + 8 then nwF ((J (t + 1) (ix p)).toInt32) ((J (t + 1) (ix (p + 1))).toInt32) ((J (t + 1) (ix (p + 2))).toInt32) (k - 8 * ix (I 1 1)) else I 2 k) ∧ Fr [1, 2] I I')) ∧ v = if q.toInt < 0 then 0 else 1)
def srF (J : Js) (t : Nat) : Nat → Int32 → Int32 → Is → Int32 → Is → Prop
  | 0, c, _, I, v, I' => v = c ∧ I' = I
  | m + 1, c, p, I, v, I' => if 0 ≤ p.toInt ∧ 0 ≤ (3 : Int32).toInt ∧ p.toInt + (3 : Int32).toInt ≤ (I t 1).toInt then ∃ q I1, apF J t p I q I1 ∧ (if q = 0 then v = c ∧ I' = I1 else srF J t m (c + 1) (p + 3) I1 v I') else v = c ∧ I' = I
theorem ap_keep {J : Js} {t : Nat} (ht : isSh t) {p v : Int32} {I I' : Is} (h0 : 0 ≤ (I 1 1).toInt) (h : apF J t p I v I') : 0 ≤ (I' 1 1).toInt ∧ I' t = I t := by
  rcases h with ⟨-, -, e⟩ | ⟨-, q, h, -⟩
  · rw [e]; exact ⟨h0, rfl⟩
  · rcases h with ⟨-, -, e⟩ | ⟨hl, -, e, -, hF⟩
    · rw [e]; exact ⟨h0, rfl⟩
    · refine ⟨?_, hF t (by rcases ht with rfl | rfl | rfl | rfl | rfl | rfl <;> decide)⟩
      rw [e, tI_add (by rw [one_int]; omega) (by rw [one_int]; omega), one_int]; omega
set_option maxRecDepth 100000 in
theorem sX9_straws {g : Gb} {d : Nat} (hd : 4 ≤ d) (k i n : Int32) (I : Is) (J : Js) (b : Bool) (hsz : ∀ t, isSh t → 0 ≤ (I t 1).toInt ∧ (I t 1).toInt ≤ 60) (h0 : 0 ≤ (I 1 1).toInt) : MC9 g d mX9_straws [.ref 0, .int k, .int i, .int n] I J b (Qi J b (fun v I' => (¬ (inR k 5 ∧ 1 ≤ n.toInt ∧ n.toInt ≤ 3) ∧ v = -1 ∧ I' = I) ∨ ((inR k 5 ∧ 1 ≤ n.toInt ∧ n.toInt ≤ 3) ∧ I (shT k) 0 = -2 ∧ v = 0 ∧ I' = I) ∨ ((inR k 5 ∧ 1 ≤ n.toInt ∧ n.toInt ≤ 3) ∧ ¬ I (shT k) 0 = -2 ∧ ¬ I (shT k) 0 = 0 ∧ v = -12 ∧ I' = I) ∨ ((inR k 5 ∧ 1 ≤ n.toInt ∧ n.toInt ≤ 3) ∧ ¬ I (shT k) 0 = -2 ∧ I (shT k) 0 = 0 ∧ srF J (shT k) n.toInt.toNat 0 i I v I'))) := by
  refine ent9 (own := RX9) rfl rfl rfl (fun X hg hx C Z => ?_)
  subst hg
  refine r_iload_n C dX9_straws_0 rfl ?_
  refine cS C hx (sX9_isShelf (d := d - 1) (by omega) _ I J b) moX9_isShelf mlX9_94 mtX9_isShelf dX9_straws_1 rfl rfl (by omega) rfl rfl (kp ?_)
  refine z_ifeq C (tgt := 17) dX9_straws_4 rfl (fun h4_2 => ?_) (fun h4_2 => ?_)
  · refine r_iconst C (v := -1) dX9_straws_17 (by decide) ?_
    exact ri C Z dX9_straws_18 (Or.inl ⟨fun z => absurd z.1 (by assumption), rfl, rfl⟩)
  · refine r_iload_n C dX9_straws_7 rfl ?_
    refine r_iconst C (v := 1) dX9_straws_8 (by decide) ?_
    refine b_iclt C (tgt := 17) (my := 1) rfl rfl dX9_straws_9 rfl (fun h9_3 => ?_) (fun h9_3 => ?_)
    · refine r_iconst C (v := -1) dX9_straws_17 (by decide) ?_
      exact ri C Z dX9_straws_18 (Or.inl ⟨fun z => by have := z.2.1; omega, rfl, rfl⟩)
    · refine r_iload_n C dX9_straws_12 rfl ?_
      refine r_iconst C (v := 3) dX9_straws_13 (by decide) ?_
      refine b_icle C (tgt := 19) (my := 3) rfl rfl dX9_straws_14 rfl (fun h14_4 => ?_) (fun h14_4 => ?_)
      · have hin : inR k 5 ∧ 1 ≤ n.toInt ∧ n.toInt ≤ 3 := ⟨by assumption, by omega, by omega⟩
        have hsh : inR k 5 := hin.1
        obtain ⟨h51, hT⟩ := sh_at b hsh
        obtain ⟨hc4, hr3, hc21, hl60⟩ := sh_all hT b
        refine r_aload_n C dX9_straws_19 rfl ?_
        refine r_getR C flX9_69 dX9_straws_20 rfl rfl rfl ?_
        refine r_iload_n C dX9_straws_23 rfl ?_
        refine r_qald C rfl dX9_straws_24 (vin hsh.1 (show k.toInt < 6 by have := hsh.2; omega)) h51 ?_
        refine r_astore C dX9_straws_25 rfl rfl ?_
        refine r_aload C dX9_straws_27 rfl ?_
        refine r_getI C flX9_98 dX9_straws_29 hc4 rfl ?_
        refine r_bipush C (v := -2) dX9_straws_32 (by decide) ?_
        refine r_icne C (tgt := 39) dX9_straws_34 rfl (fun h34_5 => ?_) (fun h34_5 => ?_)
        · refine r_aload C dX9_straws_39 rfl ?_
          refine r_getI C flX9_98 dX9_straws_41 hc4 rfl ?_
          refine r_ifeq C (tgt := 50) dX9_straws_44 rfl (fun h44_6 => ?_) (fun h44_6 => ?_)
          · have h00 : I (shT k) 0 = 0 := by assumption
            have h02 : ¬ I (shT k) 0 = -2 := by assumption
            refine r_iconst C (v := 0) dX9_straws_50 (by decide) ?_
            refine r_istore C dX9_straws_51 rfl rfl ?_
            refine r_iload_n C dX9_straws_53 rfl ?_
            refine r_istore C dX9_straws_54 rfl rfl ?_
            have loop : ∀ (m q : Nat) (p : Int32) (I1 : Is), m + q = n.toInt.toNat → 0 ≤ (I1 1 1).toInt → I1 (shT k) = I (shT k) → (∀ v I', srF J (shT k) m (nI q) p I1 v I' → srF J (shT k) n.toInt.toNat 0 i I v I') → Aw X 56 [some (.ref 0), some (.int k), some (.int i), some (.int n), some (.ref (shT k)), some (.int (nI q)), some (.int p)] [] (st9 I1 J b) := by
              intro m
              induction m with
              | zero =>
                intro q p I1 hm hI1 hIt hk
                have ini : (nI q).toInt = (q : Int) := nIint (by omega)
                refine r_iload C dX9_straws_56 rfl ?_
                refine r_iload_n C dX9_straws_58 rfl ?_
                refine b_icge C (tgt := 93) rfl rfl dX9_straws_59 rfl (fun h59_1 => ?_) (fun h59_1 => ?_)
                · refine r_iload C dX9_straws_93 rfl ?_
                  exact ri C Z dX9_straws_95 (Or.inr (Or.inr (Or.inr ⟨hin, h02, h00, hk _ _ ⟨rfl, rfl⟩⟩)))
                · exfalso; omega
              | succ m ih =>
                intro q p I1 hm hI1 hIt hk
                have ini : (nI q).toInt = (q : Int) := nIint (by omega)
                have hz := hsz _ hT
                have hz1 : 0 ≤ (I1 (shT k) 1).toInt ∧ (I1 (shT k) 1).toInt ≤ 60 := by rw [hIt]; exact hz
                have e3 : (3 : Int32).toInt = 3 := rfl
                refine r_iload C dX9_straws_56 rfl ?_
                refine r_iload_n C dX9_straws_58 rfl ?_
                refine b_icge C (tgt := 93) rfl rfl dX9_straws_59 rfl (fun h59_1 => ?_) (fun h59_1 => ?_)
                · exfalso; omega
                · refine r_aload C dX9_straws_62 rfl ?_
                  refine r_iload C dX9_straws_64 rfl ?_
                  refine r_iconst C (v := 3) dX9_straws_66 (by decide) ?_
                  refine cV (ci := 4) C hx (sX4_hasPlaces (d := d - 1) (by omega) (shT k) hc4 p 3 I1 J b hz1.1 hz1.2) moX4_hasPlaces mlX9_101 miX4_hasPlaces msX4_hasPlaces dX9_straws_67 rfl rfl hc4 rfl rfl (by omega) rfl rfl (kp ?_)
                  refine z_ifeq C (tgt := 93) dX9_straws_70 rfl (fun h70_3 => ?_) (fun h70_3 => ?_)
                  · refine r_iload C dX9_straws_93 rfl ?_
                    exact ri C Z dX9_straws_95 (Or.inr (Or.inr (Or.inr ⟨hin, h02, h00, hk _ _ (show ite _ _ _ by rw [if_neg (by assumption)]; exact ⟨rfl, rfl⟩)⟩)))
                  · have hp : 0 ≤ p.toInt ∧ 0 ≤ (3 : Int32).toInt ∧ p.toInt + (3 : Int32).toInt ≤ (I1 (shT k) 1).toInt := by assumption
                    refine r_aload_n C dX9_straws_73 rfl ?_
                    refine r_aload C dX9_straws_74 rfl ?_
                    refine r_iload C dX9_straws_76 rfl ?_
                    refine cV (ci := 9) C hx (sX9_addStraw (d := d - 1) (by omega) (shT k) hT p I1 J b hI1 ⟨by omega, by omega⟩) moX9_addStraw mlX9_104 miX9_addStraw msX9_addStraw dX9_straws_78 rfl rfl rfl rfl rfl (by omega) rfl rfl (ki (fun v_78_4 I_78_4 q_78_4 => ?_))
                    have hq : apF J (shT k) p I1 v_78_4 I_78_4 := q_78_4
                    have hkp := ap_keep hT hI1 hq
                    refine r_ifeq C (tgt := 93) dX9_straws_81 rfl (fun h81_5 => ?_) (fun h81_5 => ?_)
                    · refine r_iload C dX9_straws_93 rfl ?_
                      exact ri C Z dX9_straws_95 (Or.inr (Or.inr (Or.inr ⟨hin, h02, h00, hk _ _ (show ite _ _ _ by rw [if_pos hp]; exact ⟨_, _, hq, by rw [if_pos (by assumption)]; exact ⟨rfl, rfl⟩⟩)⟩)))
                    · refine r_iinc C (v := 1) dX9_straws_84 rfl (by decide) rfl ?_
                      refine r_iinc C (v := 3) dX9_straws_87 rfl (by decide) rfl ?_
                      refine r_goto C (tgt := 56) dX9_straws_90 rfl ?_
                      rw [nI_s]
                      exact ih (q + 1) _ _ (by omega) hkp.1 (hkp.2.trans hIt) (fun v I' hs => hk v I' (show ite _ _ _ by rw [if_pos hp]; exact ⟨_, _, hq, by rw [if_neg (by assumption), nI_s]; exact hs⟩))
            exact loop n.toInt.toNat 0 i I (by omega) h0 rfl (fun v I' h => h)
          · refine r_bipush C (v := -12) dX9_straws_47 (by decide) ?_
            exact ri C Z dX9_straws_49 (Or.inr (Or.inr (Or.inl ⟨hin, by assumption, by assumption, rfl, rfl⟩)))
        · refine r_iconst C (v := 0) dX9_straws_37 (by decide) ?_
          exact ri C Z dX9_straws_38 (Or.inr (Or.inl ⟨hin, by assumption, rfl, rfl⟩))
      · refine r_iconst C (v := -1) dX9_straws_17 (by decide) ?_
        exact ri C Z dX9_straws_18 (Or.inl ⟨fun z => by have := z.2.2; omega, rfl, rfl⟩)
