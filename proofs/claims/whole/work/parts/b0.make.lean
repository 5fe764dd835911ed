/-! the constructors, from the empty state on -/
def i0_ : Is := fun _ _ => 0
def j0_ : Js := fun _ _ => 0
def r0_ : Nat → Nat → Option Nat := fun _ _ => none
def Qc (σ1 : St) : Option Value → St → Prop := fun r σ' => r = none ∧ σ' = σ1
def Qw (v : Int32) (σ1 : St) : Option Value → St → Prop := fun r σ' => r = some (.int v) ∧ σ' = σ1
theorem kc {X : Cx} {pc n : Nat} {L : List (Option Value)} {rest : List Value} {σ1 : St} (k : Aw X pc L rest σ1) : ∀ (v : Option Value) (σ' : St), Qc σ1 v σ' → σ'.1 = n → Aw X pc L (v.toList ++ rest) σ' := by
  rintro v σ' ⟨rfl, rfl⟩ _
  exact k
theorem kw {X : Cx} {pc n : Nat} {L : List (Option Value)} {rest : List Value} {w : Int32} {σ1 : St} (k : Aw X pc L (.int w :: rest) σ1) : ∀ (v : Option Value) (σ' : St), Qw w σ1 v σ' → σ'.1 = n → Aw X pc L (v.toList ++ rest) σ' := by
  rintro v σ' ⟨rfl, rfl⟩ _
  exact k
set_option maxRecDepth 100000 in
theorem sG_place {g : Gb} {d : Nat} (w : Int32) (σ : St) : MC g d mX3_glassPlace [.int w] σ σ.1 (Qw (24 + w - 8) σ) := by
  refine mc_entry (own := RX3) rfl rfl rfl (fun X hg hxn C Z hnm => ?_)
  subst hg
  refine r_bipush C (v := 24) dX3_glassPlace_0 (by decide) ?_
  refine r_iload_n C dX3_glassPlace_2 rfl ?_
  refine r_iadd C dX3_glassPlace_3 ?_
  refine r_bipush C (v := 8) dX3_glassPlace_4 (by decide) ?_
  refine r_isub C dX3_glassPlace_6 ?_
  exact r_iret C Z rfl dX3_glassPlace_7 ⟨rfl, rfl⟩
def iK_1 : Is := (u2 (u2 (u2 (u2 i0_ 2 24 1) 2 25 0) 2 26 1) 2 27 0)
def rK_1 : Nat → Nat → Option Nat := (u2 r0_ 1 0 (some 2))
set_option maxRecDepth 100000 in
theorem sK_1 {g : Gb} {d : Nat} (hd : 1 ≤ d) : MC g d mX3_init [.ref 1] (2, i0_, j0_, r0_) 3 (Qc (3, iK_1, j0_, rK_1)) := by
  refine mc_entry (own := RX3) rfl rfl rfl (fun X hg hxn C Z hnm => ?_)
  subst hg
  have hxn : x_n X = 2 := hxn
  refine r_aload_n C dX3_init_0 rfl ?_
  refine r_obj C mlX3_3 dX3_init_1 (by omega) rfl (by decide) ?_
  refine r_aload_n C dX3_init_4 rfl ?_
  refine r_bipush C (v := 28) dX3_init_5 (by decide) ?_
  refine r_newi C (N := 28) rfl rfl (by decide) (by decide) (by decide) (by rw [hxn]; decide) (by decide) (by decide) na_int dX3_init_7 (fun _ => rfl) ?_
  refine r_putR C flX3_9 dX3_init_9 (Or.inr ⟨rfl, hnm, rfl⟩) rfl rfl (fun _ => rfl) (fun _ => rfl) ?_
  refine r_bipush C (v := 8) dX3_init_12 (by decide) ?_
  refine r_istore_n C dX3_init_14 rfl rfl ?_
  refine r_iload_n C dX3_init_15 rfl ?_
  refine r_bipush C (v := 11) dX3_init_16 (by decide) ?_
  refine b_icgt C (tgt := 41) (mx := 8) (my := 11) rfl rfl dX3_init_18 rfl (fun h => absurd h (by decide)) (fun _ => ?_)
  refine r_aload_n C dX3_init_21 rfl ?_
  refine r_getR C (r := 2) flX3_9 dX3_init_22 rfl rfl rfl ?_
  refine r_iload_n C dX3_init_25 rfl ?_
  refine r_callS C (sG_place (d := d - 1) 8 _) moX3_glassPlace mlX3_15 mtX3_glassPlace dX3_init_26 rfl rfl (by omega) (by rw [hxn]; decide) (by decide) (by decide) (by decide) rfl (by decide) (kw ?_)
  rw [show (24 + 8 - 8 : Int32) = 24 from rfl]
  refine r_gets C (j := 2) rfl gsX3_19 dX3_init_29 ?_
  refine r_iload_n C dX3_init_32 rfl ?_
  refine r_iaro C (j := 2) rfl dX3_init_33 (vin (by decide) (show (8 : Int32).toInt < 12 by decide)) ?_
  rw [show roF (x_g X) 2 (ix 8) = 1 from rfl]
  refine r_iast C rfl dX3_init_34 (vin (by decide) (show (24 : Int32).toInt < 28 by decide)) ?_
  rw [show ix 24 = 24 from rfl]
  refine r_iinc C (v := 1) dX3_init_35 rfl (by decide) rfl ?_
  rw [show (8 + 1 : Int32) = 9 from rfl]
  refine r_goto C (tgt := 15) dX3_init_38 rfl ?_
  refine r_iload_n C dX3_init_15 rfl ?_
  refine r_bipush C (v := 11) dX3_init_16 (by decide) ?_
  refine b_icgt C (tgt := 41) (mx := 9) (my := 11) rfl rfl dX3_init_18 rfl (fun h => absurd h (by decide)) (fun _ => ?_)
  refine r_aload_n C dX3_init_21 rfl ?_
  refine r_getR C (r := 2) flX3_9 dX3_init_22 rfl rfl rfl ?_
  refine r_iload_n C dX3_init_25 rfl ?_
  refine r_callS C (sG_place (d := d - 1) 9 _) moX3_glassPlace mlX3_15 mtX3_glassPlace dX3_init_26 rfl rfl (by omega) (by rw [hxn]; decide) (by decide) (by decide) (by decide) rfl (by decide) (kw ?_)
  rw [show (24 + 9 - 8 : Int32) = 25 from rfl]
  refine r_gets C (j := 2) rfl gsX3_19 dX3_init_29 ?_
  refine r_iload_n C dX3_init_32 rfl ?_
  refine r_iaro C (j := 2) rfl dX3_init_33 (vin (by decide) (show (9 : Int32).toInt < 12 by decide)) ?_
  rw [show roF (x_g X) 2 (ix 9) = 0 from rfl]
  refine r_iast C rfl dX3_init_34 (vin (by decide) (show (25 : Int32).toInt < 28 by decide)) ?_
  rw [show ix 25 = 25 from rfl]
  refine r_iinc C (v := 1) dX3_init_35 rfl (by decide) rfl ?_
  rw [show (9 + 1 : Int32) = 10 from rfl]
  refine r_goto C (tgt := 15) dX3_init_38 rfl ?_
  refine r_iload_n C dX3_init_15 rfl ?_
  refine r_bipush C (v := 11) dX3_init_16 (by decide) ?_
  refine b_icgt C (tgt := 41) (mx := 10) (my := 11) rfl rfl dX3_init_18 rfl (fun h => absurd h (by decide)) (fun _ => ?_)
  refine r_aload_n C dX3_init_21 rfl ?_
  refine r_getR C (r := 2) flX3_9 dX3_init_22 rfl rfl rfl ?_
  refine r_iload_n C dX3_init_25 rfl ?_
  refine r_callS C (sG_place (d := d - 1) 10 _) moX3_glassPlace mlX3_15 mtX3_glassPlace dX3_init_26 rfl rfl (by omega) (by rw [hxn]; decide) (by decide) (by decide) (by decide) rfl (by decide) (kw ?_)
  rw [show (24 + 10 - 8 : Int32) = 26 from rfl]
  refine r_gets C (j := 2) rfl gsX3_19 dX3_init_29 ?_
  refine r_iload_n C dX3_init_32 rfl ?_
  refine r_iaro C (j := 2) rfl dX3_init_33 (vin (by decide) (show (10 : Int32).toInt < 12 by decide)) ?_
  rw [show roF (x_g X) 2 (ix 10) = 1 from rfl]
  refine r_iast C rfl dX3_init_34 (vin (by decide) (show (26 : Int32).toInt < 28 by decide)) ?_
  rw [show ix 26 = 26 from rfl]
  refine r_iinc C (v := 1) dX3_init_35 rfl (by decide) rfl ?_
  rw [show (10 + 1 : Int32) = 11 from rfl]
  refine r_goto C (tgt := 15) dX3_init_38 rfl ?_
  refine r_iload_n C dX3_init_15 rfl ?_
  refine r_bipush C (v := 11) dX3_init_16 (by decide) ?_
  refine b_icgt C (tgt := 41) (mx := 11) (my := 11) rfl rfl dX3_init_18 rfl (fun h => absurd h (by decide)) (fun _ => ?_)
  refine r_aload_n C dX3_init_21 rfl ?_
  refine r_getR C (r := 2) flX3_9 dX3_init_22 rfl rfl rfl ?_
  refine r_iload_n C dX3_init_25 rfl ?_
  refine r_callS C (sG_place (d := d - 1) 11 _) moX3_glassPlace mlX3_15 mtX3_glassPlace dX3_init_26 rfl rfl (by omega) (by rw [hxn]; decide) (by decide) (by decide) (by decide) rfl (by decide) (kw ?_)
  rw [show (24 + 11 - 8 : Int32) = 27 from rfl]
  refine r_gets C (j := 2) rfl gsX3_19 dX3_init_29 ?_
  refine r_iload_n C dX3_init_32 rfl ?_
  refine r_iaro C (j := 2) rfl dX3_init_33 (vin (by decide) (show (11 : Int32).toInt < 12 by decide)) ?_
  rw [show roF (x_g X) 2 (ix 11) = 0 from rfl]
  refine r_iast C rfl dX3_init_34 (vin (by decide) (show (27 : Int32).toInt < 28 by decide)) ?_
  rw [show ix 27 = 27 from rfl]
  refine r_iinc C (v := 1) dX3_init_35 rfl (by decide) rfl ?_
  rw [show (11 + 1 : Int32) = 12 from rfl]
  refine r_goto C (tgt := 15) dX3_init_38 rfl ?_
  refine r_iload_n C dX3_init_15 rfl ?_
  refine r_bipush C (v := 11) dX3_init_16 (by decide) ?_
  refine b_icgt C (tgt := 41) (mx := 12) (my := 11) rfl rfl dX3_init_18 rfl (fun _ => ?_) (fun h => absurd h (by decide))
  exact r_vret C Z rfl dX3_init_41 ⟨rfl, rfl⟩
def iK_5 : Is := iK_1
def rK_5 : Nat → Nat → Option Nat := (u2 (u2 (u2 (u2 (u2 rK_1 0 0 (some 1)) 3 0 (some 4)) 5 0 (some 6)) 5 1 (some 7)) 5 2 (some 8))
set_option maxRecDepth 100000 in
theorem sK_5 {g : Gb} {d : Nat} (hd : 1 ≤ d) : MC g d mX7_init [.ref 5] (6, iK_1, j0_, (u2 (u2 rK_1 0 0 (some 1)) 3 0 (some 4))) 9 (Qc (9, iK_5, j0_, rK_5)) := by
  refine mc_entry (own := RX7) rfl rfl rfl (fun X hg hxn C Z hnm => ?_)
  subst hg
  have hxn : x_n X = 6 := hxn
  refine r_aload_n C dX7_init_0 rfl ?_
  refine r_obj C mlX7_1 dX7_init_1 (by omega) rfl (by decide) ?_
  refine r_aload_n C dX7_init_4 rfl ?_
  refine r_bipush C (v := 120) dX7_init_5 (by decide) ?_
  refine r_newi C (N := 120) rfl rfl (by decide) (by decide) (by decide) (by rw [hxn]; decide) (by decide) (by decide) na_int dX7_init_7 (fun _ => rfl) ?_
  refine r_putR C flX7_9 dX7_init_9 (Or.inr ⟨rfl, hnm, rfl⟩) rfl rfl (fun _ => rfl) (fun _ => rfl) ?_
  refine r_aload_n C dX7_init_12 rfl ?_
  refine r_bipush C (v := 120) dX7_init_13 (by decide) ?_
  refine r_newi C (N := 120) rfl rfl (by decide) (by decide) (by decide) (by rw [hxn]; decide) (by decide) (by decide) na_int dX7_init_15 (fun _ => rfl) ?_
  refine r_putR C flX7_15 dX7_init_17 (Or.inr ⟨rfl, hnm, rfl⟩) rfl rfl (fun _ => rfl) (fun _ => rfl) ?_
  refine r_aload_n C dX7_init_20 rfl ?_
  refine r_bipush C (v := 120) dX7_init_21 (by decide) ?_
  refine r_newz C (N := 120) rfl rfl (by decide) (by decide) (by decide) (by rw [hxn]; decide) (by decide) (by decide) na_boolean dX7_init_23 (fun _ => rfl) ?_
  refine r_putR C flX7_18 dX7_init_25 (Or.inr ⟨rfl, hnm, rfl⟩) rfl rfl (fun _ => rfl) (fun _ => rfl) ?_
  exact r_vret C Z rfl dX7_init_28 ⟨rfl, rfl⟩
def iK_3 : Is := iK_5
def rK_3 : Nat → Nat → Option Nat := (u2 rK_5 3 2 (some 5))
set_option maxRecDepth 100000 in
theorem sK_3 {g : Gb} {d : Nat} (hd : 2 ≤ d) : MC g d mX6_init [.ref 3] (4, iK_1, j0_, (u2 rK_1 0 0 (some 1))) 9 (Qc (9, iK_3, j0_, rK_3)) := by
  refine mc_entry (own := RX6) rfl rfl rfl (fun X hg hxn C Z hnm => ?_)
  subst hg
  have hxn : x_n X = 4 := hxn
  refine r_aload_n C dX6_init_0 rfl ?_
  refine r_obj C mlX6_1 dX6_init_1 (by omega) rfl (by decide) ?_
  refine r_aload_n C dX6_init_4 rfl ?_
  refine r_bipush C (v := 120) dX6_init_5 (by decide) ?_
  refine r_newi C (N := 120) rfl rfl (by decide) (by decide) (by decide) (by rw [hxn]; decide) (by decide) (by decide) na_int dX6_init_7 (fun _ => rfl) ?_
  refine r_putR C flX6_9 dX6_init_9 (Or.inr ⟨rfl, hnm, rfl⟩) rfl rfl (fun _ => rfl) (fun _ => rfl) ?_
  refine r_aload_n C dX6_init_12 rfl ?_
  refine r_new C (c := 7) (by decide) rfl (by rw [hxn]; decide) (by decide) (by decide) klX6_13 nw7 ni7 dX6_init_13 (fun _ => rfl) (fun _ => rfl) ?_
  refine r_dup C dX6_init_16 rfl ?_
  refine r_callI C rfl (sK_5 (d := d - 1) (by omega)) moX7_init mlX6_15 miX7_init rfl dX6_init_17 rfl rfl (by omega) (by rw [hxn]; decide) (by decide) (by decide) (by decide) rfl (by decide) (kc ?_)
  refine r_putR C flX6_16 dX6_init_20 (Or.inl rfl) rfl rfl (fun _ => rfl) (fun _ => rfl) ?_
  exact r_vret C Z rfl dX6_init_23 ⟨rfl, rfl⟩
def iK_10 : Is := iK_3
def rK_10 : Nat → Nat → Option Nat := (u2 (u2 (u2 (u2 rK_3 0 1 (some 3)) 10 0 (some 11)) 10 1 (some 12)) 10 2 (some 13))
set_option maxRecDepth 100000 in
theorem sK_10 {g : Gb} {d : Nat} (hd : 1 ≤ d) : MC g d mX7_init [.ref 10] (11, iK_3, j0_, (u2 rK_3 0 1 (some 3))) 14 (Qc (14, iK_10, j0_, rK_10)) := by
  refine mc_entry (own := RX7) rfl rfl rfl (fun X hg hxn C Z hnm => ?_)
  subst hg
  have hxn : x_n X = 11 := hxn
  refine r_aload_n C dX7_init_0 rfl ?_
  refine r_obj C mlX7_1 dX7_init_1 (by omega) rfl (by decide) ?_
  refine r_aload_n C dX7_init_4 rfl ?_
  refine r_bipush C (v := 120) dX7_init_5 (by decide) ?_
  refine r_newi C (N := 120) rfl rfl (by decide) (by decide) (by decide) (by rw [hxn]; decide) (by decide) (by decide) na_int dX7_init_7 (fun _ => rfl) ?_
  refine r_putR C flX7_9 dX7_init_9 (Or.inr ⟨rfl, hnm, rfl⟩) rfl rfl (fun _ => rfl) (fun _ => rfl) ?_
  refine r_aload_n C dX7_init_12 rfl ?_
  refine r_bipush C (v := 120) dX7_init_13 (by decide) ?_
  refine r_newi C (N := 120) rfl rfl (by decide) (by decide) (by decide) (by rw [hxn]; decide) (by decide) (by decide) na_int dX7_init_15 (fun _ => rfl) ?_
  refine r_putR C flX7_15 dX7_init_17 (Or.inr ⟨rfl, hnm, rfl⟩) rfl rfl (fun _ => rfl) (fun _ => rfl) ?_
  refine r_aload_n C dX7_init_20 rfl ?_
  refine r_bipush C (v := 120) dX7_init_21 (by decide) ?_
  refine r_newz C (N := 120) rfl rfl (by decide) (by decide) (by decide) (by rw [hxn]; decide) (by decide) (by decide) na_boolean dX7_init_23 (fun _ => rfl) ?_
  refine r_putR C flX7_18 dX7_init_25 (Or.inr ⟨rfl, hnm, rfl⟩) rfl rfl (fun _ => rfl) (fun _ => rfl) ?_
  exact r_vret C Z rfl dX7_init_28 ⟨rfl, rfl⟩
def iK_9 : Is := iK_10
def rK_9 : Nat → Nat → Option Nat := (u2 (u2 (u2 (u2 rK_10 9 0 (some 10)) 9 2 (some 14)) 9 3 (some 15)) 9 1 (some 1))
set_option maxRecDepth 100000 in
theorem sK_9 {g : Gb} {d : Nat} (hd : 2 ≤ d) : MC g d mX2_init [.ref 9, .ref 1] (10, iK_3, j0_, (u2 rK_3 0 1 (some 3))) 16 (Qc (16, iK_9, j0_, rK_9)) := by
  refine mc_entry (own := RX2) rfl rfl rfl (fun X hg hxn C Z hnm => ?_)
  subst hg
  have hxn : x_n X = 10 := hxn
  refine r_aload_n C dX2_init_0 rfl ?_
  refine r_obj C mlX2_3 dX2_init_1 (by omega) rfl (by decide) ?_
  refine r_aload_n C dX2_init_4 rfl ?_
  refine r_new C (c := 7) (by decide) rfl (by rw [hxn]; decide) (by decide) (by decide) klX2_9 nw7 ni7 dX2_init_5 (fun _ => rfl) (fun _ => rfl) ?_
  refine r_dup C dX2_init_8 rfl ?_
  refine r_callI C rfl (sK_10 (d := d - 1) (by omega)) moX7_init mlX2_11 miX7_init rfl dX2_init_9 rfl rfl (by omega) (by rw [hxn]; decide) (by decide) (by decide) (by decide) rfl (by decide) (kc ?_)
  refine r_putR C flX2_12 dX2_init_12 (Or.inl rfl) rfl rfl (fun _ => rfl) (fun _ => rfl) ?_
  refine r_aload_n C dX2_init_15 rfl ?_
  refine r_bipush C (v := 6) dX2_init_16 (by decide) ?_
  refine r_newi C (N := 6) rfl rfl (by decide) (by decide) (by decide) (by rw [hxn]; decide) (by decide) (by decide) na_int dX2_init_18 (fun _ => rfl) ?_
  refine r_putR C flX2_18 dX2_init_20 (Or.inr ⟨rfl, hnm, rfl⟩) rfl rfl (fun _ => rfl) (fun _ => rfl) ?_
  refine r_aload_n C dX2_init_23 rfl ?_
  refine r_bipush C (v := 120) dX2_init_24 (by decide) ?_
  refine r_newi C (N := 120) rfl rfl (by decide) (by decide) (by decide) (by rw [hxn]; decide) (by decide) (by decide) na_int dX2_init_26 (fun _ => rfl) ?_
  refine r_putR C flX2_24 dX2_init_28 (Or.inr ⟨rfl, hnm, rfl⟩) rfl rfl (fun _ => rfl) (fun _ => rfl) ?_
  refine r_aload_n C dX2_init_31 rfl ?_
  refine r_aload_n C dX2_init_32 rfl ?_
  refine r_putR C flX2_27 dX2_init_33 (Or.inr ⟨rfl, hnm, rfl⟩) rfl rfl (fun _ => rfl) (fun _ => rfl) ?_
  exact r_vret C Z rfl dX2_init_36 ⟨rfl, rfl⟩
def iK_16 : Is := (u2 iK_9 16 0 200)
def rK_16 : Nat → Nat → Option Nat := (u2 (u2 (u2 (u2 (u2 (u2 (u2 (u2 rK_9 0 2 (some 9)) 16 5 (some 17)) 16 6 (some 18)) 16 7 (some 19)) 16 8 (some 20)) 16 9 (some 21)) 16 10 (some 1)) 16 11 (some 9))
set_option maxRecDepth 100000 in
theorem sK_16 {g : Gb} {d : Nat} (hd : 1 ≤ d) : MC g d mX1_init [.ref 16, .ref 1, .ref 9] (17, iK_9, j0_, (u2 rK_9 0 2 (some 9))) 22 (Qc (22, iK_16, j0_, rK_16)) := by
  refine mc_entry (own := RX1) rfl rfl rfl (fun X hg hxn C Z hnm => ?_)
  subst hg
  have hxn : x_n X = 17 := hxn
  refine r_aload_n C dX1_init_0 rfl ?_
  refine r_obj C mlX1_3 dX1_init_1 (by omega) rfl (by decide) ?_
  refine r_aload_n C dX1_init_4 rfl ?_
  refine r_sipush C (v := 200) dX1_init_5 (by decide) ?_
  refine r_putI C flX1_9 dX1_init_8 rfl rfl rfl rfl rfl ?_
  refine r_aload_n C dX1_init_11 rfl ?_
  refine r_iconst C (v := 3) dX1_init_12 (by decide) ?_
  refine r_newi C (N := 3) rfl rfl (by decide) (by decide) (by decide) (by rw [hxn]; decide) (by decide) (by decide) na_int dX1_init_13 (fun _ => rfl) ?_
  refine r_putR C flX1_15 dX1_init_15 (Or.inr ⟨rfl, hnm, rfl⟩) rfl rfl (fun _ => rfl) (fun _ => rfl) ?_
  refine r_aload_n C dX1_init_18 rfl ?_
  refine r_iconst C (v := 3) dX1_init_19 (by decide) ?_
  refine r_newi C (N := 3) rfl rfl (by decide) (by decide) (by decide) (by rw [hxn]; decide) (by decide) (by decide) na_int dX1_init_20 (fun _ => rfl) ?_
  refine r_putR C flX1_19 dX1_init_22 (Or.inr ⟨rfl, hnm, rfl⟩) rfl rfl (fun _ => rfl) (fun _ => rfl) ?_
  refine r_aload_n C dX1_init_25 rfl ?_
  refine r_iconst C (v := 3) dX1_init_26 (by decide) ?_
  refine r_newi C (N := 3) rfl rfl (by decide) (by decide) (by decide) (by rw [hxn]; decide) (by decide) (by decide) na_int dX1_init_27 (fun _ => rfl) ?_
  refine r_putR C flX1_22 dX1_init_29 (Or.inr ⟨rfl, hnm, rfl⟩) rfl rfl (fun _ => rfl) (fun _ => rfl) ?_
  refine r_aload_n C dX1_init_32 rfl ?_
  refine r_iconst C (v := 3) dX1_init_33 (by decide) ?_
  refine r_newi C (N := 3) rfl rfl (by decide) (by decide) (by decide) (by rw [hxn]; decide) (by decide) (by decide) na_int dX1_init_34 (fun _ => rfl) ?_
  refine r_putR C flX1_25 dX1_init_36 (Or.inr ⟨rfl, hnm, rfl⟩) rfl rfl (fun _ => rfl) (fun _ => rfl) ?_
  refine r_aload_n C dX1_init_39 rfl ?_
  refine r_iconst C (v := 3) dX1_init_40 (by decide) ?_
  refine r_newi C (N := 3) rfl rfl (by decide) (by decide) (by decide) (by rw [hxn]; decide) (by decide) (by decide) na_int dX1_init_41 (fun _ => rfl) ?_
  refine r_putR C flX1_28 dX1_init_43 (Or.inr ⟨rfl, hnm, rfl⟩) rfl rfl (fun _ => rfl) (fun _ => rfl) ?_
  refine r_aload_n C dX1_init_46 rfl ?_
  refine r_aload_n C dX1_init_47 rfl ?_
  refine r_putR C flX1_31 dX1_init_48 (Or.inr ⟨rfl, hnm, rfl⟩) rfl rfl (fun _ => rfl) (fun _ => rfl) ?_
  refine r_aload_n C dX1_init_51 rfl ?_
  refine r_aload_n C dX1_init_52 rfl ?_
  refine r_putR C flX1_35 dX1_init_53 (Or.inr ⟨rfl, hnm, rfl⟩) rfl rfl (fun _ => rfl) (fun _ => rfl) ?_
  exact r_vret C Z rfl dX1_init_56 ⟨rfl, rfl⟩
def iK_22 : Is := (u2 iK_16 22 0 200)
def rK_22 : Nat → Nat → Option Nat := (u2 (u2 (u2 (u2 (u2 (u2 (u2 (u2 rK_16 0 3 (some 16)) 22 5 (some 23)) 22 6 (some 24)) 22 7 (some 25)) 22 8 (some 26)) 22 9 (some 27)) 22 10 (some 1)) 22 11 (some 9))
set_option maxRecDepth 100000 in
theorem sK_22 {g : Gb} {d : Nat} (hd : 1 ≤ d) : MC g d mX1_init [.ref 22, .ref 1, .ref 9] (23, iK_16, j0_, (u2 rK_16 0 3 (some 16))) 28 (Qc (28, iK_22, j0_, rK_22)) := by
  refine mc_entry (own := RX1) rfl rfl rfl (fun X hg hxn C Z hnm => ?_)
  subst hg
  have hxn : x_n X = 23 := hxn
  refine r_aload_n C dX1_init_0 rfl ?_
  refine r_obj C mlX1_3 dX1_init_1 (by omega) rfl (by decide) ?_
  refine r_aload_n C dX1_init_4 rfl ?_
  refine r_sipush C (v := 200) dX1_init_5 (by decide) ?_
  refine r_putI C flX1_9 dX1_init_8 rfl rfl rfl rfl rfl ?_
  refine r_aload_n C dX1_init_11 rfl ?_
  refine r_iconst C (v := 3) dX1_init_12 (by decide) ?_
  refine r_newi C (N := 3) rfl rfl (by decide) (by decide) (by decide) (by rw [hxn]; decide) (by decide) (by decide) na_int dX1_init_13 (fun _ => rfl) ?_
  refine r_putR C flX1_15 dX1_init_15 (Or.inr ⟨rfl, hnm, rfl⟩) rfl rfl (fun _ => rfl) (fun _ => rfl) ?_
  refine r_aload_n C dX1_init_18 rfl ?_
  refine r_iconst C (v := 3) dX1_init_19 (by decide) ?_
  refine r_newi C (N := 3) rfl rfl (by decide) (by decide) (by decide) (by rw [hxn]; decide) (by decide) (by decide) na_int dX1_init_20 (fun _ => rfl) ?_
  refine r_putR C flX1_19 dX1_init_22 (Or.inr ⟨rfl, hnm, rfl⟩) rfl rfl (fun _ => rfl) (fun _ => rfl) ?_
  refine r_aload_n C dX1_init_25 rfl ?_
  refine r_iconst C (v := 3) dX1_init_26 (by decide) ?_
  refine r_newi C (N := 3) rfl rfl (by decide) (by decide) (by decide) (by rw [hxn]; decide) (by decide) (by decide) na_int dX1_init_27 (fun _ => rfl) ?_
  refine r_putR C flX1_22 dX1_init_29 (Or.inr ⟨rfl, hnm, rfl⟩) rfl rfl (fun _ => rfl) (fun _ => rfl) ?_
  refine r_aload_n C dX1_init_32 rfl ?_
  refine r_iconst C (v := 3) dX1_init_33 (by decide) ?_
  refine r_newi C (N := 3) rfl rfl (by decide) (by decide) (by decide) (by rw [hxn]; decide) (by decide) (by decide) na_int dX1_init_34 (fun _ => rfl) ?_
  refine r_putR C flX1_25 dX1_init_36 (Or.inr ⟨rfl, hnm, rfl⟩) rfl rfl (fun _ => rfl) (fun _ => rfl) ?_
  refine r_aload_n C dX1_init_39 rfl ?_
  refine r_iconst C (v := 3) dX1_init_40 (by decide) ?_
  refine r_newi C (N := 3) rfl rfl (by decide) (by decide) (by decide) (by rw [hxn]; decide) (by decide) (by decide) na_int dX1_init_41 (fun _ => rfl) ?_
  refine r_putR C flX1_28 dX1_init_43 (Or.inr ⟨rfl, hnm, rfl⟩) rfl rfl (fun _ => rfl) (fun _ => rfl) ?_
  refine r_aload_n C dX1_init_46 rfl ?_
  refine r_aload_n C dX1_init_47 rfl ?_
  refine r_putR C flX1_31 dX1_init_48 (Or.inr ⟨rfl, hnm, rfl⟩) rfl rfl (fun _ => rfl) (fun _ => rfl) ?_
  refine r_aload_n C dX1_init_51 rfl ?_
  refine r_aload_n C dX1_init_52 rfl ?_
  refine r_putR C flX1_35 dX1_init_53 (Or.inr ⟨rfl, hnm, rfl⟩) rfl rfl (fun _ => rfl) (fun _ => rfl) ?_
  exact r_vret C Z rfl dX1_init_56 ⟨rfl, rfl⟩
def iK_32 : Is := (u2 iK_22 32 0 200)
def rK_32 : Nat → Nat → Option Nat := (u2 (u2 (u2 (u2 (u2 (u2 (u2 (u2 (u2 (u2 (u2 (u2 (u2 rK_22 0 4 (some 22)) 28 5 (some 29)) 28 6 (some 30)) 28 7 (some 31)) 28 1 (some 1)) 28 2 (some 16)) 32 5 (some 33)) 32 6 (some 34)) 32 7 (some 35)) 32 8 (some 36)) 32 9 (some 37)) 32 10 (some 1)) 32 11 (some 9))
set_option maxRecDepth 100000 in
theorem sK_32 {g : Gb} {d : Nat} (hd : 1 ≤ d) : MC g d mX1_init [.ref 32, .ref 1, .ref 9] (33, iK_22, j0_, (u2 (u2 (u2 (u2 (u2 (u2 rK_22 0 4 (some 22)) 28 5 (some 29)) 28 6 (some 30)) 28 7 (some 31)) 28 1 (some 1)) 28 2 (some 16))) 38 (Qc (38, iK_32, j0_, rK_32)) := by
  refine mc_entry (own := RX1) rfl rfl rfl (fun X hg hxn C Z hnm => ?_)
  subst hg
  have hxn : x_n X = 33 := hxn
  refine r_aload_n C dX1_init_0 rfl ?_
  refine r_obj C mlX1_3 dX1_init_1 (by omega) rfl (by decide) ?_
  refine r_aload_n C dX1_init_4 rfl ?_
  refine r_sipush C (v := 200) dX1_init_5 (by decide) ?_
  refine r_putI C flX1_9 dX1_init_8 rfl rfl rfl rfl rfl ?_
  refine r_aload_n C dX1_init_11 rfl ?_
  refine r_iconst C (v := 3) dX1_init_12 (by decide) ?_
  refine r_newi C (N := 3) rfl rfl (by decide) (by decide) (by decide) (by rw [hxn]; decide) (by decide) (by decide) na_int dX1_init_13 (fun _ => rfl) ?_
  refine r_putR C flX1_15 dX1_init_15 (Or.inr ⟨rfl, hnm, rfl⟩) rfl rfl (fun _ => rfl) (fun _ => rfl) ?_
  refine r_aload_n C dX1_init_18 rfl ?_
  refine r_iconst C (v := 3) dX1_init_19 (by decide) ?_
  refine r_newi C (N := 3) rfl rfl (by decide) (by decide) (by decide) (by rw [hxn]; decide) (by decide) (by decide) na_int dX1_init_20 (fun _ => rfl) ?_
  refine r_putR C flX1_19 dX1_init_22 (Or.inr ⟨rfl, hnm, rfl⟩) rfl rfl (fun _ => rfl) (fun _ => rfl) ?_
  refine r_aload_n C dX1_init_25 rfl ?_
  refine r_iconst C (v := 3) dX1_init_26 (by decide) ?_
  refine r_newi C (N := 3) rfl rfl (by decide) (by decide) (by decide) (by rw [hxn]; decide) (by decide) (by decide) na_int dX1_init_27 (fun _ => rfl) ?_
  refine r_putR C flX1_22 dX1_init_29 (Or.inr ⟨rfl, hnm, rfl⟩) rfl rfl (fun _ => rfl) (fun _ => rfl) ?_
  refine r_aload_n C dX1_init_32 rfl ?_
  refine r_iconst C (v := 3) dX1_init_33 (by decide) ?_
  refine r_newi C (N := 3) rfl rfl (by decide) (by decide) (by decide) (by rw [hxn]; decide) (by decide) (by decide) na_int dX1_init_34 (fun _ => rfl) ?_
  refine r_putR C flX1_25 dX1_init_36 (Or.inr ⟨rfl, hnm, rfl⟩) rfl rfl (fun _ => rfl) (fun _ => rfl) ?_
  refine r_aload_n C dX1_init_39 rfl ?_
  refine r_iconst C (v := 3) dX1_init_40 (by decide) ?_
  refine r_newi C (N := 3) rfl rfl (by decide) (by decide) (by decide) (by rw [hxn]; decide) (by decide) (by decide) na_int dX1_init_41 (fun _ => rfl) ?_
  refine r_putR C flX1_28 dX1_init_43 (Or.inr ⟨rfl, hnm, rfl⟩) rfl rfl (fun _ => rfl) (fun _ => rfl) ?_
  refine r_aload_n C dX1_init_46 rfl ?_
  refine r_aload_n C dX1_init_47 rfl ?_
  refine r_putR C flX1_31 dX1_init_48 (Or.inr ⟨rfl, hnm, rfl⟩) rfl rfl (fun _ => rfl) (fun _ => rfl) ?_
  refine r_aload_n C dX1_init_51 rfl ?_
  refine r_aload_n C dX1_init_52 rfl ?_
  refine r_putR C flX1_35 dX1_init_53 (Or.inr ⟨rfl, hnm, rfl⟩) rfl rfl (fun _ => rfl) (fun _ => rfl) ?_
  exact r_vret C Z rfl dX1_init_56 ⟨rfl, rfl⟩
def iK_38 : Is := (u2 iK_32 38 0 200)
def rK_38 : Nat → Nat → Option Nat := (u2 (u2 (u2 (u2 (u2 (u2 (u2 (u2 rK_32 28 3 (some 32)) 38 5 (some 39)) 38 6 (some 40)) 38 7 (some 41)) 38 8 (some 42)) 38 9 (some 43)) 38 10 (some 1)) 38 11 (some 9))
set_option maxRecDepth 100000 in
theorem sK_38 {g : Gb} {d : Nat} (hd : 1 ≤ d) : MC g d mX1_init [.ref 38, .ref 1, .ref 9] (39, iK_32, j0_, (u2 rK_32 28 3 (some 32))) 44 (Qc (44, iK_38, j0_, rK_38)) := by
  refine mc_entry (own := RX1) rfl rfl rfl (fun X hg hxn C Z hnm => ?_)
  subst hg
  have hxn : x_n X = 39 := hxn
  refine r_aload_n C dX1_init_0 rfl ?_
  refine r_obj C mlX1_3 dX1_init_1 (by omega) rfl (by decide) ?_
  refine r_aload_n C dX1_init_4 rfl ?_
  refine r_sipush C (v := 200) dX1_init_5 (by decide) ?_
  refine r_putI C flX1_9 dX1_init_8 rfl rfl rfl rfl rfl ?_
  refine r_aload_n C dX1_init_11 rfl ?_
  refine r_iconst C (v := 3) dX1_init_12 (by decide) ?_
  refine r_newi C (N := 3) rfl rfl (by decide) (by decide) (by decide) (by rw [hxn]; decide) (by decide) (by decide) na_int dX1_init_13 (fun _ => rfl) ?_
  refine r_putR C flX1_15 dX1_init_15 (Or.inr ⟨rfl, hnm, rfl⟩) rfl rfl (fun _ => rfl) (fun _ => rfl) ?_
  refine r_aload_n C dX1_init_18 rfl ?_
  refine r_iconst C (v := 3) dX1_init_19 (by decide) ?_
  refine r_newi C (N := 3) rfl rfl (by decide) (by decide) (by decide) (by rw [hxn]; decide) (by decide) (by decide) na_int dX1_init_20 (fun _ => rfl) ?_
  refine r_putR C flX1_19 dX1_init_22 (Or.inr ⟨rfl, hnm, rfl⟩) rfl rfl (fun _ => rfl) (fun _ => rfl) ?_
  refine r_aload_n C dX1_init_25 rfl ?_
  refine r_iconst C (v := 3) dX1_init_26 (by decide) ?_
  refine r_newi C (N := 3) rfl rfl (by decide) (by decide) (by decide) (by rw [hxn]; decide) (by decide) (by decide) na_int dX1_init_27 (fun _ => rfl) ?_
  refine r_putR C flX1_22 dX1_init_29 (Or.inr ⟨rfl, hnm, rfl⟩) rfl rfl (fun _ => rfl) (fun _ => rfl) ?_
  refine r_aload_n C dX1_init_32 rfl ?_
  refine r_iconst C (v := 3) dX1_init_33 (by decide) ?_
  refine r_newi C (N := 3) rfl rfl (by decide) (by decide) (by decide) (by rw [hxn]; decide) (by decide) (by decide) na_int dX1_init_34 (fun _ => rfl) ?_
  refine r_putR C flX1_25 dX1_init_36 (Or.inr ⟨rfl, hnm, rfl⟩) rfl rfl (fun _ => rfl) (fun _ => rfl) ?_
  refine r_aload_n C dX1_init_39 rfl ?_
  refine r_iconst C (v := 3) dX1_init_40 (by decide) ?_
  refine r_newi C (N := 3) rfl rfl (by decide) (by decide) (by decide) (by rw [hxn]; decide) (by decide) (by decide) na_int dX1_init_41 (fun _ => rfl) ?_
  refine r_putR C flX1_28 dX1_init_43 (Or.inr ⟨rfl, hnm, rfl⟩) rfl rfl (fun _ => rfl) (fun _ => rfl) ?_
  refine r_aload_n C dX1_init_46 rfl ?_
  refine r_aload_n C dX1_init_47 rfl ?_
  refine r_putR C flX1_31 dX1_init_48 (Or.inr ⟨rfl, hnm, rfl⟩) rfl rfl (fun _ => rfl) (fun _ => rfl) ?_
  refine r_aload_n C dX1_init_51 rfl ?_
  refine r_aload_n C dX1_init_52 rfl ?_
  refine r_putR C flX1_35 dX1_init_53 (Or.inr ⟨rfl, hnm, rfl⟩) rfl rfl (fun _ => rfl) (fun _ => rfl) ?_
  exact r_vret C Z rfl dX1_init_56 ⟨rfl, rfl⟩
def iK_28 : Is := iK_38
def rK_28 : Nat → Nat → Option Nat := (u2 rK_38 28 4 (some 38))
set_option maxRecDepth 100000 in
theorem sK_28 {g : Gb} {d : Nat} (hd : 2 ≤ d) : MC g d mX8_init [.ref 28, .ref 1, .ref 9, .ref 16] (29, iK_22, j0_, (u2 rK_22 0 4 (some 22))) 44 (Qc (44, iK_28, j0_, rK_28)) := by
  refine mc_entry (own := RX8) rfl rfl rfl (fun X hg hxn C Z hnm => ?_)
  subst hg
  have hxn : x_n X = 29 := hxn
  refine r_aload_n C dX8_init_0 rfl ?_
  refine r_obj C mlX8_3 dX8_init_1 (by omega) rfl (by decide) ?_
  refine r_aload_n C dX8_init_4 rfl ?_
  refine r_sipush C (v := 1000) dX8_init_5 (by decide) ?_
  refine r_newi C (N := 1000) rfl rfl (by decide) (by decide) (by decide) (by rw [hxn]; decide) (by decide) (by decide) na_int dX8_init_8 (fun _ => rfl) ?_
  refine r_putR C flX8_9 dX8_init_10 (Or.inr ⟨rfl, hnm, rfl⟩) rfl rfl (fun _ => rfl) (fun _ => rfl) ?_
  refine r_aload_n C dX8_init_13 rfl ?_
  refine r_sipush C (v := 441) dX8_init_14 (by decide) ?_
  refine r_newi C (N := 441) rfl rfl (by decide) (by decide) (by decide) (by rw [hxn]; decide) (by decide) (by decide) na_int dX8_init_17 (fun _ => rfl) ?_
  refine r_putR C flX8_15 dX8_init_19 (Or.inr ⟨rfl, hnm, rfl⟩) rfl rfl (fun _ => rfl) (fun _ => rfl) ?_
  refine r_aload_n C dX8_init_22 rfl ?_
  refine r_sipush C (v := 441) dX8_init_23 (by decide) ?_
  refine r_newi C (N := 441) rfl rfl (by decide) (by decide) (by decide) (by rw [hxn]; decide) (by decide) (by decide) na_int dX8_init_26 (fun _ => rfl) ?_
  refine r_putR C flX8_18 dX8_init_28 (Or.inr ⟨rfl, hnm, rfl⟩) rfl rfl (fun _ => rfl) (fun _ => rfl) ?_
  refine r_aload_n C dX8_init_31 rfl ?_
  refine r_aload_n C dX8_init_32 rfl ?_
  refine r_putR C flX8_21 dX8_init_33 (Or.inr ⟨rfl, hnm, rfl⟩) rfl rfl (fun _ => rfl) (fun _ => rfl) ?_
  refine r_aload_n C dX8_init_36 rfl ?_
  refine r_aload_n C dX8_init_37 rfl ?_
  refine r_putR C flX8_25 dX8_init_38 (Or.inr ⟨rfl, hnm, rfl⟩) rfl rfl (fun _ => rfl) (fun _ => rfl) ?_
  refine r_aload_n C dX8_init_41 rfl ?_
  refine r_new C (c := 1) (by decide) rfl (by rw [hxn]; decide) (by decide) (by decide) klX8_29 nw1 ni1 dX8_init_42 (fun _ => rfl) (fun _ => rfl) ?_
  refine r_dup C dX8_init_45 rfl ?_
  refine r_aload_n C dX8_init_46 rfl ?_
  refine r_aload_n C dX8_init_47 rfl ?_
  refine r_callI C rfl (sK_32 (d := d - 1) (by omega)) moX1_init mlX8_31 miX1_init rfl dX8_init_48 rfl rfl (by omega) (by rw [hxn]; decide) (by decide) (by decide) (by decide) rfl (by decide) (kc ?_)
  refine r_putR C flX8_34 dX8_init_51 (Or.inr ⟨rfl, hnm, rfl⟩) rfl rfl (fun _ => rfl) (fun _ => rfl) ?_
  refine r_aload_n C dX8_init_54 rfl ?_
  refine r_new C (c := 1) (by decide) rfl (by rw [hxn]; decide) (by decide) (by decide) klX8_29 nw1 ni1 dX8_init_55 (fun _ => rfl) (fun _ => rfl) ?_
  refine r_dup C dX8_init_58 rfl ?_
  refine r_aload_n C dX8_init_59 rfl ?_
  refine r_aload_n C dX8_init_60 rfl ?_
  refine r_callI C rfl (sK_38 (d := d - 1) (by omega)) moX1_init mlX8_31 miX1_init rfl dX8_init_61 rfl rfl (by omega) (by rw [hxn]; decide) (by decide) (by decide) (by decide) rfl (by decide) (kc ?_)
  refine r_putR C flX8_37 dX8_init_64 (Or.inr ⟨rfl, hnm, rfl⟩) rfl rfl (fun _ => rfl) (fun _ => rfl) ?_
  exact r_vret C Z rfl dX8_init_67 ⟨rfl, rfl⟩
def iK_44 : Is := iK_28
def rK_44 : Nat → Nat → Option Nat := (u2 (u2 (u2 (u2 rK_28 0 5 (some 28)) 44 2 (some 45)) 44 3 (some 46)) 44 4 (some 47))
set_option maxRecDepth 100000 in
theorem sK_44 {g : Gb} {d : Nat} (hd : 1 ≤ d) : MC g d mX0_init [.ref 44] (45, iK_28, j0_, (u2 rK_28 0 5 (some 28))) 48 (Qc (48, iK_44, j0_, rK_44)) := by
  refine mc_entry (own := RX0) rfl rfl rfl (fun X hg hxn C Z hnm => ?_)
  subst hg
  have hxn : x_n X = 45 := hxn
  refine r_aload_n C dX0_init_0 rfl ?_
  refine r_obj C mlX0_1 dX0_init_1 (by omega) rfl (by decide) ?_
  refine r_aload_n C dX0_init_4 rfl ?_
  refine r_bipush C (v := 40) dX0_init_5 (by decide) ?_
  refine r_newi C (N := 40) rfl rfl (by decide) (by decide) (by decide) (by rw [hxn]; decide) (by decide) (by decide) na_int dX0_init_7 (fun _ => rfl) ?_
  refine r_putR C flX0_9 dX0_init_9 (Or.inr ⟨rfl, hnm, rfl⟩) rfl rfl (fun _ => rfl) (fun _ => rfl) ?_
  refine r_aload_n C dX0_init_12 rfl ?_
  refine r_bipush C (v := 40) dX0_init_13 (by decide) ?_
  refine r_newi C (N := 40) rfl rfl (by decide) (by decide) (by decide) (by rw [hxn]; decide) (by decide) (by decide) na_int dX0_init_15 (fun _ => rfl) ?_
  refine r_putR C flX0_13 dX0_init_17 (Or.inr ⟨rfl, hnm, rfl⟩) rfl rfl (fun _ => rfl) (fun _ => rfl) ?_
  refine r_aload_n C dX0_init_20 rfl ?_
  refine r_bipush C (v := 40) dX0_init_21 (by decide) ?_
  refine r_newi C (N := 40) rfl rfl (by decide) (by decide) (by decide) (by rw [hxn]; decide) (by decide) (by decide) na_int dX0_init_23 (fun _ => rfl) ?_
  refine r_putR C flX0_16 dX0_init_25 (Or.inr ⟨rfl, hnm, rfl⟩) rfl rfl (fun _ => rfl) (fun _ => rfl) ?_
  exact r_vret C Z rfl dX0_init_28 ⟨rfl, rfl⟩
def iK_48 : Is := iK_44
def rK_48 : Nat → Nat → Option Nat := (u2 (u2 (u2 rK_44 0 6 (some 44)) 48 2 (some 49)) 48 3 (some 50))
set_option maxRecDepth 100000 in
theorem sK_48 {g : Gb} {d : Nat} (hd : 1 ≤ d) : MC g d mX5_init [.ref 48] (49, iK_44, j0_, (u2 rK_44 0 6 (some 44))) 51 (Qc (51, iK_48, j0_, rK_48)) := by
  refine mc_entry (own := RX5) rfl rfl rfl (fun X hg hxn C Z hnm => ?_)
  subst hg
  have hxn : x_n X = 49 := hxn
  refine r_aload_n C dX5_init_0 rfl ?_
  refine r_obj C mlX5_3 dX5_init_1 (by omega) rfl (by decide) ?_
  refine r_aload_n C dX5_init_4 rfl ?_
  refine r_bipush C (v := 50) dX5_init_5 (by decide) ?_
  refine r_newi C (N := 50) rfl rfl (by decide) (by decide) (by decide) (by rw [hxn]; decide) (by decide) (by decide) na_int dX5_init_7 (fun _ => rfl) ?_
  refine r_putR C flX5_11 dX5_init_9 (Or.inr ⟨rfl, hnm, rfl⟩) rfl rfl (fun _ => rfl) (fun _ => rfl) ?_
  refine r_aload_n C dX5_init_12 rfl ?_
  refine r_bipush C (v := 24) dX5_init_13 (by decide) ?_
  refine r_newi C (N := 24) rfl rfl (by decide) (by decide) (by decide) (by rw [hxn]; decide) (by decide) (by decide) na_int dX5_init_15 (fun _ => rfl) ?_
  refine r_putR C flX5_15 dX5_init_17 (Or.inr ⟨rfl, hnm, rfl⟩) rfl rfl (fun _ => rfl) (fun _ => rfl) ?_
  exact r_vret C Z rfl dX5_init_20 ⟨rfl, rfl⟩
def iK_52 : Is := (u2 iK_48 52 0 (-2))
def rK_52 : Nat → Nat → Option Nat := (u2 (u2 (u2 rK_48 0 7 (some 48)) 0 8 (some 51)) 52 3 (some 53))
set_option maxRecDepth 100000 in
theorem sK_52 {g : Gb} {d : Nat} (hd : 1 ≤ d) : MC g d mX4_init [.ref 52] (53, iK_48, j0_, (u2 (u2 rK_48 0 7 (some 48)) 0 8 (some 51))) 54 (Qc (54, iK_52, j0_, rK_52)) := by
  refine mc_entry (own := RX4) rfl rfl rfl (fun X hg hxn C Z hnm => ?_)
  subst hg
  have hxn : x_n X = 53 := hxn
  refine r_aload_n C dX4_init_0 rfl ?_
  refine r_obj C mlX4_3 dX4_init_1 (by omega) rfl (by decide) ?_
  refine r_aload_n C dX4_init_4 rfl ?_
  refine r_bipush C (v := -2) dX4_init_5 (by decide) ?_
  refine r_putI C flX4_9 dX4_init_7 rfl rfl rfl rfl rfl ?_
  refine r_aload_n C dX4_init_10 rfl ?_
  refine r_bipush C (v := 60) dX4_init_11 (by decide) ?_
  refine r_newl C (N := 60) rfl rfl (by decide) (by decide) (by decide) (by rw [hxn]; decide) (by decide) (by decide) na_long dX4_init_13 (fun _ => rfl) ?_
  refine r_putR C flX4_15 dX4_init_15 (Or.inr ⟨rfl, hnm, rfl⟩) rfl rfl (fun _ => rfl) (fun _ => rfl) ?_
  exact r_vret C Z rfl dX4_init_18 ⟨rfl, rfl⟩
def iK_54 : Is := (u2 iK_52 54 0 (-2))
def rK_54 : Nat → Nat → Option Nat := (u2 (u2 rK_52 51 0 (some 52)) 54 3 (some 55))
set_option maxRecDepth 100000 in
theorem sK_54 {g : Gb} {d : Nat} (hd : 1 ≤ d) : MC g d mX4_init [.ref 54] (55, iK_52, j0_, (u2 rK_52 51 0 (some 52))) 56 (Qc (56, iK_54, j0_, rK_54)) := by
  refine mc_entry (own := RX4) rfl rfl rfl (fun X hg hxn C Z hnm => ?_)
  subst hg
  have hxn : x_n X = 55 := hxn
  refine r_aload_n C dX4_init_0 rfl ?_
  refine r_obj C mlX4_3 dX4_init_1 (by omega) rfl (by decide) ?_
  refine r_aload_n C dX4_init_4 rfl ?_
  refine r_bipush C (v := -2) dX4_init_5 (by decide) ?_
  refine r_putI C flX4_9 dX4_init_7 rfl rfl rfl rfl rfl ?_
  refine r_aload_n C dX4_init_10 rfl ?_
  refine r_bipush C (v := 60) dX4_init_11 (by decide) ?_
  refine r_newl C (N := 60) rfl rfl (by decide) (by decide) (by decide) (by rw [hxn]; decide) (by decide) (by decide) na_long dX4_init_13 (fun _ => rfl) ?_
  refine r_putR C flX4_15 dX4_init_15 (Or.inr ⟨rfl, hnm, rfl⟩) rfl rfl (fun _ => rfl) (fun _ => rfl) ?_
  exact r_vret C Z rfl dX4_init_18 ⟨rfl, rfl⟩
def iK_56 : Is := (u2 iK_54 56 0 (-2))
def rK_56 : Nat → Nat → Option Nat := (u2 (u2 rK_54 51 1 (some 54)) 56 3 (some 57))
set_option maxRecDepth 100000 in
theorem sK_56 {g : Gb} {d : Nat} (hd : 1 ≤ d) : MC g d mX4_init [.ref 56] (57, iK_54, j0_, (u2 rK_54 51 1 (some 54))) 58 (Qc (58, iK_56, j0_, rK_56)) := by
  refine mc_entry (own := RX4) rfl rfl rfl (fun X hg hxn C Z hnm => ?_)
  subst hg
  have hxn : x_n X = 57 := hxn
  refine r_aload_n C dX4_init_0 rfl ?_
  refine r_obj C mlX4_3 dX4_init_1 (by omega) rfl (by decide) ?_
  refine r_aload_n C dX4_init_4 rfl ?_
  refine r_bipush C (v := -2) dX4_init_5 (by decide) ?_
  refine r_putI C flX4_9 dX4_init_7 rfl rfl rfl rfl rfl ?_
  refine r_aload_n C dX4_init_10 rfl ?_
  refine r_bipush C (v := 60) dX4_init_11 (by decide) ?_
  refine r_newl C (N := 60) rfl rfl (by decide) (by decide) (by decide) (by rw [hxn]; decide) (by decide) (by decide) na_long dX4_init_13 (fun _ => rfl) ?_
  refine r_putR C flX4_15 dX4_init_15 (Or.inr ⟨rfl, hnm, rfl⟩) rfl rfl (fun _ => rfl) (fun _ => rfl) ?_
  exact r_vret C Z rfl dX4_init_18 ⟨rfl, rfl⟩
def iK_58 : Is := (u2 iK_56 58 0 (-2))
def rK_58 : Nat → Nat → Option Nat := (u2 (u2 rK_56 51 2 (some 56)) 58 3 (some 59))
set_option maxRecDepth 100000 in
theorem sK_58 {g : Gb} {d : Nat} (hd : 1 ≤ d) : MC g d mX4_init [.ref 58] (59, iK_56, j0_, (u2 rK_56 51 2 (some 56))) 60 (Qc (60, iK_58, j0_, rK_58)) := by
  refine mc_entry (own := RX4) rfl rfl rfl (fun X hg hxn C Z hnm => ?_)
  subst hg
  have hxn : x_n X = 59 := hxn
  refine r_aload_n C dX4_init_0 rfl ?_
  refine r_obj C mlX4_3 dX4_init_1 (by omega) rfl (by decide) ?_
  refine r_aload_n C dX4_init_4 rfl ?_
  refine r_bipush C (v := -2) dX4_init_5 (by decide) ?_
  refine r_putI C flX4_9 dX4_init_7 rfl rfl rfl rfl rfl ?_
  refine r_aload_n C dX4_init_10 rfl ?_
  refine r_bipush C (v := 60) dX4_init_11 (by decide) ?_
  refine r_newl C (N := 60) rfl rfl (by decide) (by decide) (by decide) (by rw [hxn]; decide) (by decide) (by decide) na_long dX4_init_13 (fun _ => rfl) ?_
  refine r_putR C flX4_15 dX4_init_15 (Or.inr ⟨rfl, hnm, rfl⟩) rfl rfl (fun _ => rfl) (fun _ => rfl) ?_
  exact r_vret C Z rfl dX4_init_18 ⟨rfl, rfl⟩
def iK_60 : Is := (u2 iK_58 60 0 (-2))
def rK_60 : Nat → Nat → Option Nat := (u2 (u2 rK_58 51 3 (some 58)) 60 3 (some 61))
set_option maxRecDepth 100000 in
theorem sK_60 {g : Gb} {d : Nat} (hd : 1 ≤ d) : MC g d mX4_init [.ref 60] (61, iK_58, j0_, (u2 rK_58 51 3 (some 58))) 62 (Qc (62, iK_60, j0_, rK_60)) := by
  refine mc_entry (own := RX4) rfl rfl rfl (fun X hg hxn C Z hnm => ?_)
  subst hg
  have hxn : x_n X = 61 := hxn
  refine r_aload_n C dX4_init_0 rfl ?_
  refine r_obj C mlX4_3 dX4_init_1 (by omega) rfl (by decide) ?_
  refine r_aload_n C dX4_init_4 rfl ?_
  refine r_bipush C (v := -2) dX4_init_5 (by decide) ?_
  refine r_putI C flX4_9 dX4_init_7 rfl rfl rfl rfl rfl ?_
  refine r_aload_n C dX4_init_10 rfl ?_
  refine r_bipush C (v := 60) dX4_init_11 (by decide) ?_
  refine r_newl C (N := 60) rfl rfl (by decide) (by decide) (by decide) (by rw [hxn]; decide) (by decide) (by decide) na_long dX4_init_13 (fun _ => rfl) ?_
  refine r_putR C flX4_15 dX4_init_15 (Or.inr ⟨rfl, hnm, rfl⟩) rfl rfl (fun _ => rfl) (fun _ => rfl) ?_
  exact r_vret C Z rfl dX4_init_18 ⟨rfl, rfl⟩
def iK_62 : Is := (u2 iK_60 62 0 (-2))
def rK_62 : Nat → Nat → Option Nat := (u2 (u2 rK_60 51 4 (some 60)) 62 3 (some 63))
set_option maxRecDepth 100000 in
theorem sK_62 {g : Gb} {d : Nat} (hd : 1 ≤ d) : MC g d mX4_init [.ref 62] (63, iK_60, j0_, (u2 rK_60 51 4 (some 60))) 64 (Qc (64, iK_62, j0_, rK_62)) := by
  refine mc_entry (own := RX4) rfl rfl rfl (fun X hg hxn C Z hnm => ?_)
  subst hg
  have hxn : x_n X = 63 := hxn
  refine r_aload_n C dX4_init_0 rfl ?_
  refine r_obj C mlX4_3 dX4_init_1 (by omega) rfl (by decide) ?_
  refine r_aload_n C dX4_init_4 rfl ?_
  refine r_bipush C (v := -2) dX4_init_5 (by decide) ?_
  refine r_putI C flX4_9 dX4_init_7 rfl rfl rfl rfl rfl ?_
  refine r_aload_n C dX4_init_10 rfl ?_
  refine r_bipush C (v := 60) dX4_init_11 (by decide) ?_
  refine r_newl C (N := 60) rfl rfl (by decide) (by decide) (by decide) (by rw [hxn]; decide) (by decide) (by decide) na_long dX4_init_13 (fun _ => rfl) ?_
  refine r_putR C flX4_15 dX4_init_15 (Or.inr ⟨rfl, hnm, rfl⟩) rfl rfl (fun _ => rfl) (fun _ => rfl) ?_
  exact r_vret C Z rfl dX4_init_18 ⟨rfl, rfl⟩
def iK_0 : Is := (u2 iK_62 0 9 0)
def rK_0 : Nat → Nat → Option Nat := (u2 rK_62 51 5 (some 62))
set_option maxRecDepth 100000 in
theorem sK_0 {g : Gb} {d : Nat} (hd : 3 ≤ d) : MC g d mX9_init [.ref 0] (1, i0_, j0_, r0_) 64 (Qc (64, iK_0, j0_, rK_0)) := by
  refine mc_entry (own := RX9) rfl rfl rfl (fun X hg hxn C Z hnm => ?_)
  subst hg
  have hxn : x_n X = 1 := hxn
  refine r_aload_n C dX9_init_0 rfl ?_
  refine r_obj C mlX9_1 dX9_init_1 (by omega) rfl (by decide) ?_
  refine r_aload_n C dX9_init_4 rfl ?_
  refine r_new C (c := 3) (by decide) rfl (by rw [hxn]; decide) (by decide) (by decide) klX9_7 nw3 ni3 dX9_init_5 (fun _ => rfl) (fun _ => rfl) ?_
  refine r_dup C dX9_init_8 rfl ?_
  refine r_callI C rfl (sK_1 (d := d - 1) (by omega)) moX3_init mlX9_9 miX3_init rfl dX9_init_9 rfl rfl (by omega) (by rw [hxn]; decide) (by decide) (by decide) (by decide) rfl (by decide) (kc ?_)
  refine r_putR C flX9_10 dX9_init_12 (Or.inr ⟨rfl, hnm, rfl⟩) rfl rfl (fun _ => rfl) (fun _ => rfl) ?_
  refine r_aload_n C dX9_init_15 rfl ?_
  refine r_new C (c := 6) (by decide) rfl (by rw [hxn]; decide) (by decide) (by decide) klX9_16 nw6 ni6 dX9_init_16 (fun _ => rfl) (fun _ => rfl) ?_
  refine r_dup C dX9_init_19 rfl ?_
  refine r_callI C rfl (sK_3 (d := d - 1) (by omega)) moX6_init mlX9_18 miX6_init rfl dX9_init_20 rfl rfl (by omega) (by rw [hxn]; decide) (by decide) (by decide) (by decide) rfl (by decide) (kc ?_)
  refine r_putR C flX9_19 dX9_init_23 (Or.inr ⟨rfl, hnm, rfl⟩) rfl rfl (fun _ => rfl) (fun _ => rfl) ?_
  refine r_aload_n C dX9_init_26 rfl ?_
  refine r_new C (c := 2) (by decide) rfl (by rw [hxn]; decide) (by decide) (by decide) klX9_23 nw2 ni2 dX9_init_27 (fun _ => rfl) (fun _ => rfl) ?_
  refine r_dup C dX9_init_30 rfl ?_
  refine r_aload_n C dX9_init_31 rfl ?_
  refine r_getR C (r := 1) flX9_10 dX9_init_32 rfl rfl rfl ?_
  refine r_callI C rfl (sK_9 (d := d - 1) (by omega)) moX2_init mlX9_25 miX2_init rfl dX9_init_35 rfl rfl (by omega) (by rw [hxn]; decide) (by decide) (by decide) (by decide) rfl (by decide) (kc ?_)
  refine r_putR C flX9_28 dX9_init_38 (Or.inr ⟨rfl, hnm, rfl⟩) rfl rfl (fun _ => rfl) (fun _ => rfl) ?_
  refine r_aload_n C dX9_init_41 rfl ?_
  refine r_new C (c := 1) (by decide) rfl (by rw [hxn]; decide) (by decide) (by decide) klX9_32 nw1 ni1 dX9_init_42 (fun _ => rfl) (fun _ => rfl) ?_
  refine r_dup C dX9_init_45 rfl ?_
  refine r_aload_n C dX9_init_46 rfl ?_
  refine r_getR C (r := 1) flX9_10 dX9_init_47 rfl rfl rfl ?_
  refine r_aload_n C dX9_init_50 rfl ?_
  refine r_getR C (r := 9) flX9_28 dX9_init_51 rfl rfl rfl ?_
  refine r_callI C rfl (sK_16 (d := d - 1) (by omega)) moX1_init mlX9_34 miX1_init rfl dX9_init_54 rfl rfl (by omega) (by rw [hxn]; decide) (by decide) (by decide) (by decide) rfl (by decide) (kc ?_)
  refine r_putR C flX9_37 dX9_init_57 (Or.inr ⟨rfl, hnm, rfl⟩) rfl rfl (fun _ => rfl) (fun _ => rfl) ?_
  refine r_aload_n C dX9_init_60 rfl ?_
  refine r_new C (c := 1) (by decide) rfl (by rw [hxn]; decide) (by decide) (by decide) klX9_32 nw1 ni1 dX9_init_61 (fun _ => rfl) (fun _ => rfl) ?_
  refine r_dup C dX9_init_64 rfl ?_
  refine r_aload_n C dX9_init_65 rfl ?_
  refine r_getR C (r := 1) flX9_10 dX9_init_66 rfl rfl rfl ?_
  refine r_aload_n C dX9_init_69 rfl ?_
  refine r_getR C (r := 9) flX9_28 dX9_init_70 rfl rfl rfl ?_
  refine r_callI C rfl (sK_22 (d := d - 1) (by omega)) moX1_init mlX9_34 miX1_init rfl dX9_init_73 rfl rfl (by omega) (by rw [hxn]; decide) (by decide) (by decide) (by decide) rfl (by decide) (kc ?_)
  refine r_putR C flX9_41 dX9_init_76 (Or.inr ⟨rfl, hnm, rfl⟩) rfl rfl (fun _ => rfl) (fun _ => rfl) ?_
  refine r_aload_n C dX9_init_79 rfl ?_
  refine r_new C (c := 8) (by decide) rfl (by rw [hxn]; decide) (by decide) (by decide) klX9_44 nw8 ni8 dX9_init_80 (fun _ => rfl) (fun _ => rfl) ?_
  refine r_dup C dX9_init_83 rfl ?_
  refine r_aload_n C dX9_init_84 rfl ?_
  refine r_getR C (r := 1) flX9_10 dX9_init_85 rfl rfl rfl ?_
  refine r_aload_n C dX9_init_88 rfl ?_
  refine r_getR C (r := 9) flX9_28 dX9_init_89 rfl rfl rfl ?_
  refine r_aload_n C dX9_init_92 rfl ?_
  refine r_getR C (r := 16) flX9_37 dX9_init_93 rfl rfl rfl ?_
  refine r_callI C rfl (sK_28 (d := d - 1) (by omega)) moX8_init mlX9_46 miX8_init rfl dX9_init_96 rfl rfl (by omega) (by rw [hxn]; decide) (by decide) (by decide) (by decide) rfl (by decide) (kc ?_)
  refine r_putR C flX9_49 dX9_init_99 (Or.inr ⟨rfl, hnm, rfl⟩) rfl rfl (fun _ => rfl) (fun _ => rfl) ?_
  refine r_aload_n C dX9_init_102 rfl ?_
  refine r_new C (c := 0) (by decide) rfl (by rw [hxn]; decide) (by decide) (by decide) klX9_53 nw0 ni0 dX9_init_103 (fun _ => rfl) (fun _ => rfl) ?_
  refine r_dup C dX9_init_106 rfl ?_
  refine r_callI C rfl (sK_44 (d := d - 1) (by omega)) moX0_init mlX9_55 miX0_init rfl dX9_init_107 rfl rfl (by omega) (by rw [hxn]; decide) (by decide) (by decide) (by decide) rfl (by decide) (kc ?_)
  refine r_putR C flX9_56 dX9_init_110 (Or.inr ⟨rfl, hnm, rfl⟩) rfl rfl (fun _ => rfl) (fun _ => rfl) ?_
  refine r_aload_n C dX9_init_113 rfl ?_
  refine r_new C (c := 5) (by decide) rfl (by rw [hxn]; decide) (by decide) (by decide) klX9_60 nw5 ni5 dX9_init_114 (fun _ => rfl) (fun _ => rfl) ?_
  refine r_dup C dX9_init_117 rfl ?_
  refine r_callI C rfl (sK_48 (d := d - 1) (by omega)) moX5_init mlX9_62 miX5_init rfl dX9_init_118 rfl rfl (by omega) (by rw [hxn]; decide) (by decide) (by decide) (by decide) rfl (by decide) (kc ?_)
  refine r_putR C flX9_63 dX9_init_121 (Or.inr ⟨rfl, hnm, rfl⟩) rfl rfl (fun _ => rfl) (fun _ => rfl) ?_
  refine r_aload_n C dX9_init_124 rfl ?_
  refine r_bipush C (v := 6) dX9_init_125 (by decide) ?_
  refine r_newq C (N := 6) rfl rfl (by decide) (by decide) (by decide) (by rw [hxn]; decide) (by decide) (by decide) klX9_67 dX9_init_127 (fun _ => rfl) ?_
  refine r_putR C flX9_69 dX9_init_130 (Or.inr ⟨rfl, hnm, rfl⟩) rfl rfl (fun _ => rfl) (fun _ => rfl) ?_
  refine r_iconst C (v := 0) dX9_init_133 (by decide) ?_
  refine r_istore_n C dX9_init_134 rfl rfl ?_
  refine r_iload_n C dX9_init_135 rfl ?_
  refine r_bipush C (v := 6) dX9_init_136 (by decide) ?_
  refine b_icge C (tgt := 160) (mx := 0) (my := 6) rfl rfl dX9_init_138 rfl (fun h => absurd h (by decide)) (fun _ => ?_)
  refine r_aload_n C dX9_init_141 rfl ?_
  refine r_getR C (r := 51) flX9_69 dX9_init_142 rfl rfl rfl ?_
  refine r_iload_n C dX9_init_145 rfl ?_
  refine r_new C (c := 4) (by decide) rfl (by rw [hxn]; decide) (by decide) (by decide) klX9_67 nw4 ni4 dX9_init_146 (fun _ => rfl) (fun _ => rfl) ?_
  refine r_dup C dX9_init_149 rfl ?_
  refine r_callI C rfl (sK_52 (d := d - 1) (by omega)) moX4_init mlX9_73 miX4_init rfl dX9_init_150 rfl rfl (by omega) (by rw [hxn]; decide) (by decide) (by decide) (by decide) rfl (by decide) (kc ?_)
  refine r_qast C rfl rfl dX9_init_153 (vin (by decide) (show (0 : Int32).toInt < 6 by decide)) ?_
  rw [show ix 0 = 0 from rfl]
  refine r_iinc C (v := 1) dX9_init_154 rfl (by decide) rfl ?_
  rw [show (0 + 1 : Int32) = 1 from rfl]
  refine r_goto C (tgt := 135) dX9_init_157 rfl ?_
  refine r_iload_n C dX9_init_135 rfl ?_
  refine r_bipush C (v := 6) dX9_init_136 (by decide) ?_
  refine b_icge C (tgt := 160) (mx := 1) (my := 6) rfl rfl dX9_init_138 rfl (fun h => absurd h (by decide)) (fun _ => ?_)
  refine r_aload_n C dX9_init_141 rfl ?_
  refine r_getR C (r := 51) flX9_69 dX9_init_142 rfl rfl rfl ?_
  refine r_iload_n C dX9_init_145 rfl ?_
  refine r_new C (c := 4) (by decide) rfl (by rw [hxn]; decide) (by decide) (by decide) klX9_67 nw4 ni4 dX9_init_146 (fun _ => rfl) (fun _ => rfl) ?_
  refine r_dup C dX9_init_149 rfl ?_
  refine r_callI C rfl (sK_54 (d := d - 1) (by omega)) moX4_init mlX9_73 miX4_init rfl dX9_init_150 rfl rfl (by omega) (by rw [hxn]; decide) (by decide) (by decide) (by decide) rfl (by decide) (kc ?_)
  refine r_qast C rfl rfl dX9_init_153 (vin (by decide) (show (1 : Int32).toInt < 6 by decide)) ?_
  rw [show ix 1 = 1 from rfl]
  refine r_iinc C (v := 1) dX9_init_154 rfl (by decide) rfl ?_
  rw [show (1 + 1 : Int32) = 2 from rfl]
  refine r_goto C (tgt := 135) dX9_init_157 rfl ?_
  refine r_iload_n C dX9_init_135 rfl ?_
  refine r_bipush C (v := 6) dX9_init_136 (by decide) ?_
  refine b_icge C (tgt := 160) (mx := 2) (my := 6) rfl rfl dX9_init_138 rfl (fun h => absurd h (by decide)) (fun _ => ?_)
  refine r_aload_n C dX9_init_141 rfl ?_
  refine r_getR C (r := 51) flX9_69 dX9_init_142 rfl rfl rfl ?_
  refine r_iload_n C dX9_init_145 rfl ?_
  refine r_new C (c := 4) (by decide) rfl (by rw [hxn]; decide) (by decide) (by decide) klX9_67 nw4 ni4 dX9_init_146 (fun _ => rfl) (fun _ => rfl) ?_
  refine r_dup C dX9_init_149 rfl ?_
  refine r_callI C rfl (sK_56 (d := d - 1) (by omega)) moX4_init mlX9_73 miX4_init rfl dX9_init_150 rfl rfl (by omega) (by rw [hxn]; decide) (by decide) (by decide) (by decide) rfl (by decide) (kc ?_)
  refine r_qast C rfl rfl dX9_init_153 (vin (by decide) (show (2 : Int32).toInt < 6 by decide)) ?_
  rw [show ix 2 = 2 from rfl]
  refine r_iinc C (v := 1) dX9_init_154 rfl (by decide) rfl ?_
  rw [show (2 + 1 : Int32) = 3 from rfl]
  refine r_goto C (tgt := 135) dX9_init_157 rfl ?_
  refine r_iload_n C dX9_init_135 rfl ?_
  refine r_bipush C (v := 6) dX9_init_136 (by decide) ?_
  refine b_icge C (tgt := 160) (mx := 3) (my := 6) rfl rfl dX9_init_138 rfl (fun h => absurd h (by decide)) (fun _ => ?_)
  refine r_aload_n C dX9_init_141 rfl ?_
  refine r_getR C (r := 51) flX9_69 dX9_init_142 rfl rfl rfl ?_
  refine r_iload_n C dX9_init_145 rfl ?_
  refine r_new C (c := 4) (by decide) rfl (by rw [hxn]; decide) (by decide) (by decide) klX9_67 nw4 ni4 dX9_init_146 (fun _ => rfl) (fun _ => rfl) ?_
  refine r_dup C dX9_init_149 rfl ?_
  refine r_callI C rfl (sK_58 (d := d - 1) (by omega)) moX4_init mlX9_73 miX4_init rfl dX9_init_150 rfl rfl (by omega) (by rw [hxn]; decide) (by decide) (by decide) (by decide) rfl (by decide) (kc ?_)
  refine r_qast C rfl rfl dX9_init_153 (vin (by decide) (show (3 : Int32).toInt < 6 by decide)) ?_
  rw [show ix 3 = 3 from rfl]
  refine r_iinc C (v := 1) dX9_init_154 rfl (by decide) rfl ?_
  rw [show (3 + 1 : Int32) = 4 from rfl]
  refine r_goto C (tgt := 135) dX9_init_157 rfl ?_
  refine r_iload_n C dX9_init_135 rfl ?_
  refine r_bipush C (v := 6) dX9_init_136 (by decide) ?_
  refine b_icge C (tgt := 160) (mx := 4) (my := 6) rfl rfl dX9_init_138 rfl (fun h => absurd h (by decide)) (fun _ => ?_)
  refine r_aload_n C dX9_init_141 rfl ?_
  refine r_getR C (r := 51) flX9_69 dX9_init_142 rfl rfl rfl ?_
  refine r_iload_n C dX9_init_145 rfl ?_
  refine r_new C (c := 4) (by decide) rfl (by rw [hxn]; decide) (by decide) (by decide) klX9_67 nw4 ni4 dX9_init_146 (fun _ => rfl) (fun _ => rfl) ?_
  refine r_dup C dX9_init_149 rfl ?_
  refine r_callI C rfl (sK_60 (d := d - 1) (by omega)) moX4_init mlX9_73 miX4_init rfl dX9_init_150 rfl rfl (by omega) (by rw [hxn]; decide) (by decide) (by decide) (by decide) rfl (by decide) (kc ?_)
  refine r_qast C rfl rfl dX9_init_153 (vin (by decide) (show (4 : Int32).toInt < 6 by decide)) ?_
  rw [show ix 4 = 4 from rfl]
  refine r_iinc C (v := 1) dX9_init_154 rfl (by decide) rfl ?_
  rw [show (4 + 1 : Int32) = 5 from rfl]
  refine r_goto C (tgt := 135) dX9_init_157 rfl ?_
  refine r_iload_n C dX9_init_135 rfl ?_
  refine r_bipush C (v := 6) dX9_init_136 (by decide) ?_
  refine b_icge C (tgt := 160) (mx := 5) (my := 6) rfl rfl dX9_init_138 rfl (fun h => absurd h (by decide)) (fun _ => ?_)
  refine r_aload_n C dX9_init_141 rfl ?_
  refine r_getR C (r := 51) flX9_69 dX9_init_142 rfl rfl rfl ?_
  refine r_iload_n C dX9_init_145 rfl ?_
  refine r_new C (c := 4) (by decide) rfl (by rw [hxn]; decide) (by decide) (by decide) klX9_67 nw4 ni4 dX9_init_146 (fun _ => rfl) (fun _ => rfl) ?_
  refine r_dup C dX9_init_149 rfl ?_
  refine r_callI C rfl (sK_62 (d := d - 1) (by omega)) moX4_init mlX9_73 miX4_init rfl dX9_init_150 rfl rfl (by omega) (by rw [hxn]; decide) (by decide) (by decide) (by decide) rfl (by decide) (kc ?_)
  refine r_qast C rfl rfl dX9_init_153 (vin (by decide) (show (5 : Int32).toInt < 6 by decide)) ?_
  rw [show ix 5 = 5 from rfl]
  refine r_iinc C (v := 1) dX9_init_154 rfl (by decide) rfl ?_
  rw [show (5 + 1 : Int32) = 6 from rfl]
  refine r_goto C (tgt := 135) dX9_init_157 rfl ?_
  refine r_iload_n C dX9_init_135 rfl ?_
  refine r_bipush C (v := 6) dX9_init_136 (by decide) ?_
  refine b_icge C (tgt := 160) (mx := 6) (my := 6) rfl rfl dX9_init_138 rfl (fun _ => ?_) (fun h => absurd h (by decide))
  refine r_aload_n C dX9_init_160 rfl ?_
  refine r_iconst C (v := 0) dX9_init_161 (by decide) ?_
  refine r_putI C flX9_74 dX9_init_162 rfl rfl rfl rfl rfl ?_
  exact r_vret C Z rfl dX9_init_165 ⟨rfl, rfl⟩
def iK_64 : Is := (u2 (u2 (u2 (u2 (u2 (u2 (u2 (u2 (u2 (u2 iK_0 87 0 (-1)) 87 1 (-1)) 87 2 (-1)) 87 3 (-1)) 87 4 (-1)) 87 5 (-1)) 64 14 (-1)) 65 24 1) 65 26 1) 64 7 200)
def rK_64 : Nat → Nat → Option Nat := (u2 (u2 (u2 (u2 (u2 (u2 (u2 (u2 (u2 (u2 (u2 (u2 (u2 (u2 (u2 (u2 (u2 (u2 (u2 (u2 (u2 (u2 (u2 (u2 (u2 (u2 rK_0 64 0 (some 65)) 64 1 (some 66)) 64 2 (some 67)) 64 3 (some 68)) 64 10 (some 69)) 64 11 (some 70)) 64 13 (some 71)) 64 20 (some 72)) 64 24 (some 73)) 64 25 (some 74)) 64 26 (some 75)) 64 27 (some 76)) 64 31 (some 77)) 64 32 (some 78)) 64 33 (some 79)) 64 34 (some 80)) 64 35 (some 81)) 64 36 (some 82)) 64 37 (some 83)) 64 42 (some 84)) 64 44 (some 85)) 64 45 (some 86)) 64 49 (some 87)) 64 50 (some 88)) 64 51 (some 89)) 64 52 (some 90))
set_option maxRecDepth 100000 in
theorem sK_64 {g : Gb} {d : Nat} (hd : 1 ≤ d) : MC g d mX10_init [.ref 64] (65, iK_0, j0_, rK_0) 91 (Qc (91, iK_64, j0_, rK_64)) := by
  refine mc_entry (own := RX10) rfl rfl rfl (fun X hg hxn C Z hnm => ?_)
  subst hg
  have hxn : x_n X = 65 := hxn
  refine r_aload_n C dX10_init_0 rfl ?_
  refine r_obj C mlX10_3 dX10_init_1 (by omega) rfl (by decide) ?_
  refine r_aload_n C dX10_init_4 rfl ?_
  refine r_bipush C (v := 28) dX10_init_5 (by decide) ?_
  refine r_newi C (N := 28) rfl rfl (by decide) (by decide) (by decide) (by rw [hxn]; decide) (by decide) (by decide) na_int dX10_init_7 (fun _ => rfl) ?_
  refine r_putR C flX10_9 dX10_init_9 (Or.inr ⟨rfl, hnm, rfl⟩) rfl rfl (fun _ => rfl) (fun _ => rfl) ?_
  refine r_aload_n C dX10_init_12 rfl ?_
  refine r_bipush C (v := 40) dX10_init_13 (by decide) ?_
  refine r_newi C (N := 40) rfl rfl (by decide) (by decide) (by decide) (by rw [hxn]; decide) (by decide) (by decide) na_int dX10_init_15 (fun _ => rfl) ?_
  refine r_putR C flX10_13 dX10_init_17 (Or.inr ⟨rfl, hnm, rfl⟩) rfl rfl (fun _ => rfl) (fun _ => rfl) ?_
  refine r_aload_n C dX10_init_20 rfl ?_
  refine r_bipush C (v := 40) dX10_init_21 (by decide) ?_
  refine r_newi C (N := 40) rfl rfl (by decide) (by decide) (by decide) (by rw [hxn]; decide) (by decide) (by decide) na_int dX10_init_23 (fun _ => rfl) ?_
  refine r_putR C flX10_16 dX10_init_25 (Or.inr ⟨rfl, hnm, rfl⟩) rfl rfl (fun _ => rfl) (fun _ => rfl) ?_
  refine r_aload_n C dX10_init_28 rfl ?_
  refine r_bipush C (v := 40) dX10_init_29 (by decide) ?_
  refine r_newi C (N := 40) rfl rfl (by decide) (by decide) (by decide) (by rw [hxn]; decide) (by decide) (by decide) na_int dX10_init_31 (fun _ => rfl) ?_
  refine r_putR C flX10_19 dX10_init_33 (Or.inr ⟨rfl, hnm, rfl⟩) rfl rfl (fun _ => rfl) (fun _ => rfl) ?_
  refine r_aload_n C dX10_init_36 rfl ?_
  refine r_iconst C (v := 3) dX10_init_37 (by decide) ?_
  refine r_newi C (N := 3) rfl rfl (by decide) (by decide) (by decide) (by rw [hxn]; decide) (by decide) (by decide) na_int dX10_init_38 (fun _ => rfl) ?_
  refine r_putR C flX10_22 dX10_init_40 (Or.inr ⟨rfl, hnm, rfl⟩) rfl rfl (fun _ => rfl) (fun _ => rfl) ?_
  refine r_aload_n C dX10_init_43 rfl ?_
  refine r_bipush C (v := 120) dX10_init_44 (by decide) ?_
  refine r_newi C (N := 120) rfl rfl (by decide) (by decide) (by decide) (by rw [hxn]; decide) (by decide) (by decide) na_int dX10_init_46 (fun _ => rfl) ?_
  refine r_putR C flX10_25 dX10_init_48 (Or.inr ⟨rfl, hnm, rfl⟩) rfl rfl (fun _ => rfl) (fun _ => rfl) ?_
  refine r_aload_n C dX10_init_51 rfl ?_
  refine r_bipush C (v := 120) dX10_init_52 (by decide) ?_
  refine r_newi C (N := 120) rfl rfl (by decide) (by decide) (by decide) (by rw [hxn]; decide) (by decide) (by decide) na_int dX10_init_54 (fun _ => rfl) ?_
  refine r_putR C flX10_28 dX10_init_56 (Or.inr ⟨rfl, hnm, rfl⟩) rfl rfl (fun _ => rfl) (fun _ => rfl) ?_
  refine r_aload_n C dX10_init_59 rfl ?_
  refine r_bipush C (v := 6) dX10_init_60 (by decide) ?_
  refine r_newi C (N := 6) rfl rfl (by decide) (by decide) (by decide) (by rw [hxn]; decide) (by decide) (by decide) na_int dX10_init_62 (fun _ => rfl) ?_
  refine r_putR C flX10_31 dX10_init_64 (Or.inr ⟨rfl, hnm, rfl⟩) rfl rfl (fun _ => rfl) (fun _ => rfl) ?_
  refine r_aload_n C dX10_init_67 rfl ?_
  refine r_iconst C (v := 3) dX10_init_68 (by decide) ?_
  refine r_newi C (N := 3) rfl rfl (by decide) (by decide) (by decide) (by rw [hxn]; decide) (by decide) (by decide) na_int dX10_init_69 (fun _ => rfl) ?_
  refine r_putR C flX10_34 dX10_init_71 (Or.inr ⟨rfl, hnm, rfl⟩) rfl rfl (fun _ => rfl) (fun _ => rfl) ?_
  refine r_aload_n C dX10_init_74 rfl ?_
  refine r_iconst C (v := 3) dX10_init_75 (by decide) ?_
  refine r_newi C (N := 3) rfl rfl (by decide) (by decide) (by decide) (by rw [hxn]; decide) (by decide) (by decide) na_int dX10_init_76 (fun _ => rfl) ?_
  refine r_putR C flX10_37 dX10_init_78 (Or.inr ⟨rfl, hnm, rfl⟩) rfl rfl (fun _ => rfl) (fun _ => rfl) ?_
  refine r_aload_n C dX10_init_81 rfl ?_
  refine r_iconst C (v := 3) dX10_init_82 (by decide) ?_
  refine r_newi C (N := 3) rfl rfl (by decide) (by decide) (by decide) (by rw [hxn]; decide) (by decide) (by decide) na_int dX10_init_83 (fun _ => rfl) ?_
  refine r_putR C flX10_40 dX10_init_85 (Or.inr ⟨rfl, hnm, rfl⟩) rfl rfl (fun _ => rfl) (fun _ => rfl) ?_
  refine r_aload_n C dX10_init_88 rfl ?_
  refine r_iconst C (v := 3) dX10_init_89 (by decide) ?_
  refine r_newi C (N := 3) rfl rfl (by decide) (by decide) (by decide) (by rw [hxn]; decide) (by decide) (by decide) na_int dX10_init_90 (fun _ => rfl) ?_
  refine r_putR C flX10_43 dX10_init_92 (Or.inr ⟨rfl, hnm, rfl⟩) rfl rfl (fun _ => rfl) (fun _ => rfl) ?_
  refine r_aload_n C dX10_init_95 rfl ?_
  refine r_sipush C (v := 1000) dX10_init_96 (by decide) ?_
  refine r_newi C (N := 1000) rfl rfl (by decide) (by decide) (by decide) (by rw [hxn]; decide) (by decide) (by decide) na_int dX10_init_99 (fun _ => rfl) ?_
  refine r_putR C flX10_46 dX10_init_101 (Or.inr ⟨rfl, hnm, rfl⟩) rfl rfl (fun _ => rfl) (fun _ => rfl) ?_
  refine r_aload_n C dX10_init_104 rfl ?_
  refine r_sipush C (v := 1000) dX10_init_105 (by decide) ?_
  refine r_newi C (N := 1000) rfl rfl (by decide) (by decide) (by decide) (by rw [hxn]; decide) (by decide) (by decide) na_int dX10_init_108 (fun _ => rfl) ?_
  refine r_putR C flX10_49 dX10_init_110 (Or.inr ⟨rfl, hnm, rfl⟩) rfl rfl (fun _ => rfl) (fun _ => rfl) ?_
  refine r_aload_n C dX10_init_113 rfl ?_
  refine r_sipush C (v := 441) dX10_init_114 (by decide) ?_
  refine r_newi C (N := 441) rfl rfl (by decide) (by decide) (by decide) (by rw [hxn]; decide) (by decide) (by decide) na_int dX10_init_117 (fun _ => rfl) ?_
  refine r_putR C flX10_52 dX10_init_119 (Or.inr ⟨rfl, hnm, rfl⟩) rfl rfl (fun _ => rfl) (fun _ => rfl) ?_
  refine r_aload_n C dX10_init_122 rfl ?_
  refine r_sipush C (v := 441) dX10_init_123 (by decide) ?_
  refine r_newi C (N := 441) rfl rfl (by decide) (by decide) (by decide) (by rw [hxn]; decide) (by decide) (by decide) na_int dX10_init_126 (fun _ => rfl) ?_
  refine r_putR C flX10_55 dX10_init_128 (Or.inr ⟨rfl, hnm, rfl⟩) rfl rfl (fun _ => rfl) (fun _ => rfl) ?_
  refine r_aload_n C dX10_init_131 rfl ?_
  refine r_iconst C (v := 3) dX10_init_132 (by decide) ?_
  refine r_newi C (N := 3) rfl rfl (by decide) (by decide) (by decide) (by rw [hxn]; decide) (by decide) (by decide) na_int dX10_init_133 (fun _ => rfl) ?_
  refine r_putR C flX10_58 dX10_init_135 (Or.inr ⟨rfl, hnm, rfl⟩) rfl rfl (fun _ => rfl) (fun _ => rfl) ?_
  refine r_aload_n C dX10_init_138 rfl ?_
  refine r_iconst C (v := 3) dX10_init_139 (by decide) ?_
  refine r_newi C (N := 3) rfl rfl (by decide) (by decide) (by decide) (by rw [hxn]; decide) (by decide) (by decide) na_int dX10_init_140 (fun _ => rfl) ?_
  refine r_putR C flX10_61 dX10_init_142 (Or.inr ⟨rfl, hnm, rfl⟩) rfl rfl (fun _ => rfl) (fun _ => rfl) ?_
  refine r_aload_n C dX10_init_145 rfl ?_
  refine r_iconst C (v := 3) dX10_init_146 (by decide) ?_
  refine r_newi C (N := 3) rfl rfl (by decide) (by decide) (by decide) (by rw [hxn]; decide) (by decide) (by decide) na_int dX10_init_147 (fun _ => rfl) ?_
  refine r_putR C flX10_64 dX10_init_149 (Or.inr ⟨rfl, hnm, rfl⟩) rfl rfl (fun _ => rfl) (fun _ => rfl) ?_
  refine r_aload_n C dX10_init_152 rfl ?_
  refine r_bipush C (v := 17) dX10_init_153 (by decide) ?_
  refine r_newi C (N := 17) rfl rfl (by decide) (by decide) (by decide) (by rw [hxn]; decide) (by decide) (by decide) na_int dX10_init_155 (fun _ => rfl) ?_
  refine r_putR C flX10_67 dX10_init_157 (Or.inr ⟨rfl, hnm, rfl⟩) rfl rfl (fun _ => rfl) (fun _ => rfl) ?_
  refine r_aload_n C dX10_init_160 rfl ?_
  refine r_bipush C (v := 50) dX10_init_161 (by decide) ?_
  refine r_newi C (N := 50) rfl rfl (by decide) (by decide) (by decide) (by rw [hxn]; decide) (by decide) (by decide) na_int dX10_init_163 (fun _ => rfl) ?_
  refine r_putR C flX10_70 dX10_init_165 (Or.inr ⟨rfl, hnm, rfl⟩) rfl rfl (fun _ => rfl) (fun _ => rfl) ?_
  refine r_aload_n C dX10_init_168 rfl ?_
  refine r_bipush C (v := 24) dX10_init_169 (by decide) ?_
  refine r_newi C (N := 24) rfl rfl (by decide) (by decide) (by decide) (by rw [hxn]; decide) (by decide) (by decide) na_int dX10_init_171 (fun _ => rfl) ?_
  refine r_putR C flX10_73 dX10_init_173 (Or.inr ⟨rfl, hnm, rfl⟩) rfl rfl (fun _ => rfl) (fun _ => rfl) ?_
  refine r_aload_n C dX10_init_176 rfl ?_
  refine r_bipush C (v := 6) dX10_init_177 (by decide) ?_
  refine r_newi C (N := 6) rfl rfl (by decide) (by decide) (by decide) (by rw [hxn]; decide) (by decide) (by decide) na_int dX10_init_179 (fun _ => rfl) ?_
  refine r_putR C flX10_76 dX10_init_181 (Or.inr ⟨rfl, hnm, rfl⟩) rfl rfl (fun _ => rfl) (fun _ => rfl) ?_
  refine r_aload_n C dX10_init_184 rfl ?_
  refine r_bipush C (v := 6) dX10_init_185 (by decide) ?_
  refine r_newi C (N := 6) rfl rfl (by decide) (by decide) (by decide) (by rw [hxn]; decide) (by decide) (by decide) na_int dX10_init_187 (fun _ => rfl) ?_
  refine r_putR C flX10_79 dX10_init_189 (Or.inr ⟨rfl, hnm, rfl⟩) rfl rfl (fun _ => rfl) (fun _ => rfl) ?_
  refine r_aload_n C dX10_init_192 rfl ?_
  refine r_sipush C (v := 360) dX10_init_193 (by decide) ?_
  refine r_newl C (N := 360) rfl rfl (by decide) (by decide) (by decide) (by rw [hxn]; decide) (by decide) (by decide) na_long dX10_init_196 (fun _ => rfl) ?_
  refine r_putR C flX10_82 dX10_init_198 (Or.inr ⟨rfl, hnm, rfl⟩) rfl rfl (fun _ => rfl) (fun _ => rfl) ?_
  refine r_aload_n C dX10_init_201 rfl ?_
  refine r_bipush C (v := 60) dX10_init_202 (by decide) ?_
  refine r_newl C (N := 60) rfl rfl (by decide) (by decide) (by decide) (by rw [hxn]; decide) (by decide) (by decide) na_long dX10_init_204 (fun _ => rfl) ?_
  refine r_putR C flX10_86 dX10_init_206 (Or.inr ⟨rfl, hnm, rfl⟩) rfl rfl (fun _ => rfl) (fun _ => rfl) ?_
  refine r_iconst C (v := 0) dX10_init_209 (by decide) ?_
  refine r_istore_n C dX10_init_210 rfl rfl ?_
  refine r_iload_n C dX10_init_211 rfl ?_
  refine r_bipush C (v := 6) dX10_init_212 (by decide) ?_
  refine b_icge C (tgt := 230) (mx := 0) (my := 6) rfl rfl dX10_init_214 rfl (fun h => absurd h (by decide)) (fun _ => ?_)
  refine r_aload_n C dX10_init_217 rfl ?_
  refine r_getR C (r := 87) flX10_76 dX10_init_218 rfl rfl rfl ?_
  refine r_iload_n C dX10_init_221 rfl ?_
  refine r_iconst C (v := -1) dX10_init_222 (by decide) ?_
  refine r_iast C rfl dX10_init_223 (vin (by decide) (show (0 : Int32).toInt < 6 by decide)) ?_
  rw [show ix 0 = 0 from rfl]
  refine r_iinc C (v := 1) dX10_init_224 rfl (by decide) rfl ?_
  rw [show (0 + 1 : Int32) = 1 from rfl]
  refine r_goto C (tgt := 211) dX10_init_227 rfl ?_
  refine r_iload_n C dX10_init_211 rfl ?_
  refine r_bipush C (v := 6) dX10_init_212 (by decide) ?_
  refine b_icge C (tgt := 230) (mx := 1) (my := 6) rfl rfl dX10_init_214 rfl (fun h => absurd h (by decide)) (fun _ => ?_)
  refine r_aload_n C dX10_init_217 rfl ?_
  refine r_getR C (r := 87) flX10_76 dX10_init_218 rfl rfl rfl ?_
  refine r_iload_n C dX10_init_221 rfl ?_
  refine r_iconst C (v := -1) dX10_init_222 (by decide) ?_
  refine r_iast C rfl dX10_init_223 (vin (by decide) (show (1 : Int32).toInt < 6 by decide)) ?_
  rw [show ix 1 = 1 from rfl]
  refine r_iinc C (v := 1) dX10_init_224 rfl (by decide) rfl ?_
  rw [show (1 + 1 : Int32) = 2 from rfl]
  refine r_goto C (tgt := 211) dX10_init_227 rfl ?_
  refine r_iload_n C dX10_init_211 rfl ?_
  refine r_bipush C (v := 6) dX10_init_212 (by decide) ?_
  refine b_icge C (tgt := 230) (mx := 2) (my := 6) rfl rfl dX10_init_214 rfl (fun h => absurd h (by decide)) (fun _ => ?_)
  refine r_aload_n C dX10_init_217 rfl ?_
  refine r_getR C (r := 87) flX10_76 dX10_init_218 rfl rfl rfl ?_
  refine r_iload_n C dX10_init_221 rfl ?_
  refine r_iconst C (v := -1) dX10_init_222 (by decide) ?_
  refine r_iast C rfl dX10_init_223 (vin (by decide) (show (2 : Int32).toInt < 6 by decide)) ?_
  rw [show ix 2 = 2 from rfl]
  refine r_iinc C (v := 1) dX10_init_224 rfl (by decide) rfl ?_
  rw [show (2 + 1 : Int32) = 3 from rfl]
  refine r_goto C (tgt := 211) dX10_init_227 rfl ?_
  refine r_iload_n C dX10_init_211 rfl ?_
  refine r_bipush C (v := 6) dX10_init_212 (by decide) ?_
  refine b_icge C (tgt := 230) (mx := 3) (my := 6) rfl rfl dX10_init_214 rfl (fun h => absurd h (by decide)) (fun _ => ?_)
  refine r_aload_n C dX10_init_217 rfl ?_
  refine r_getR C (r := 87) flX10_76 dX10_init_218 rfl rfl rfl ?_
  refine r_iload_n C dX10_init_221 rfl ?_
  refine r_iconst C (v := -1) dX10_init_222 (by decide) ?_
  refine r_iast C rfl dX10_init_223 (vin (by decide) (show (3 : Int32).toInt < 6 by decide)) ?_
  rw [show ix 3 = 3 from rfl]
  refine r_iinc C (v := 1) dX10_init_224 rfl (by decide) rfl ?_
  rw [show (3 + 1 : Int32) = 4 from rfl]
  refine r_goto C (tgt := 211) dX10_init_227 rfl ?_
  refine r_iload_n C dX10_init_211 rfl ?_
  refine r_bipush C (v := 6) dX10_init_212 (by decide) ?_
  refine b_icge C (tgt := 230) (mx := 4) (my := 6) rfl rfl dX10_init_214 rfl (fun h => absurd h (by decide)) (fun _ => ?_)
  refine r_aload_n C dX10_init_217 rfl ?_
  refine r_getR C (r := 87) flX10_76 dX10_init_218 rfl rfl rfl ?_
  refine r_iload_n C dX10_init_221 rfl ?_
  refine r_iconst C (v := -1) dX10_init_222 (by decide) ?_
  refine r_iast C rfl dX10_init_223 (vin (by decide) (show (4 : Int32).toInt < 6 by decide)) ?_
  rw [show ix 4 = 4 from rfl]
  refine r_iinc C (v := 1) dX10_init_224 rfl (by decide) rfl ?_
  rw [show (4 + 1 : Int32) = 5 from rfl]
  refine r_goto C (tgt := 211) dX10_init_227 rfl ?_
  refine r_iload_n C dX10_init_211 rfl ?_
  refine r_bipush C (v := 6) dX10_init_212 (by decide) ?_
  refine b_icge C (tgt := 230) (mx := 5) (my := 6) rfl rfl dX10_init_214 rfl (fun h => absurd h (by decide)) (fun _ => ?_)
  refine r_aload_n C dX10_init_217 rfl ?_
  refine r_getR C (r := 87) flX10_76 dX10_init_218 rfl rfl rfl ?_
  refine r_iload_n C dX10_init_221 rfl ?_
  refine r_iconst C (v := -1) dX10_init_222 (by decide) ?_
  refine r_iast C rfl dX10_init_223 (vin (by decide) (show (5 : Int32).toInt < 6 by decide)) ?_
  rw [show ix 5 = 5 from rfl]
  refine r_iinc C (v := 1) dX10_init_224 rfl (by decide) rfl ?_
  rw [show (5 + 1 : Int32) = 6 from rfl]
  refine r_goto C (tgt := 211) dX10_init_227 rfl ?_
  refine r_iload_n C dX10_init_211 rfl ?_
  refine r_bipush C (v := 6) dX10_init_212 (by decide) ?_
  refine b_icge C (tgt := 230) (mx := 6) (my := 6) rfl rfl dX10_init_214 rfl (fun _ => ?_) (fun h => absurd h (by decide))
  refine r_aload_n C dX10_init_230 rfl ?_
  refine r_iconst C (v := -1) dX10_init_231 (by decide) ?_
  refine r_putI C flX10_89 dX10_init_232 rfl rfl rfl rfl rfl ?_
  refine r_aload_n C dX10_init_235 rfl ?_
  refine r_getR C (r := 65) flX10_9 dX10_init_236 rfl rfl rfl ?_
  refine r_bipush C (v := 24) dX10_init_239 (by decide) ?_
  refine r_iconst C (v := 1) dX10_init_241 (by decide) ?_
  refine r_iast C rfl dX10_init_242 (vin (by decide) (show (24 : Int32).toInt < 28 by decide)) ?_
  rw [show ix 24 = 24 from rfl]
  refine r_aload_n C dX10_init_243 rfl ?_
  refine r_getR C (r := 65) flX10_9 dX10_init_244 rfl rfl rfl ?_
  refine r_bipush C (v := 26) dX10_init_247 (by decide) ?_
  refine r_iconst C (v := 1) dX10_init_249 (by decide) ?_
  refine r_iast C rfl dX10_init_250 (vin (by decide) (show (26 : Int32).toInt < 28 by decide)) ?_
  rw [show ix 26 = 26 from rfl]
  refine r_aload_n C dX10_init_251 rfl ?_
  refine r_sipush C (v := 200) dX10_init_252 (by decide) ?_
  refine r_putI C flX10_93 dX10_init_255 rfl rfl rfl rfl rfl ?_
  exact r_vret C Z rfl dX10_init_258 ⟨rfl, rfl⟩
