/-! contracts of the finished system (91 cells): an answer of the state alone (MCp), an answer and new ints (MCi), new ints alone (MCv), a reference and new ints (MCr) -/
abbrev Is : Type := Nat → Nat → Int32
abbrev Js : Type := Nat → Nat → Int64
abbrev st9 (I : Is) (J : Js) (b : Bool) : St := (91, I, J, RR b)
def Qp (V : Int32) (I : Is) (J : Js) (b : Bool) : Option Value → St → Prop := fun r σ' => r = some (.int V) ∧ σ' = st9 I J b
def Qi (J : Js) (b : Bool) (q : Int32 → Is → Prop) : Option Value → St → Prop := fun r σ' => ∃ v I', r = some (.int v) ∧ σ' = st9 I' J b ∧ q v I'
def Qv (J : Js) (b : Bool) (q : Is → Prop) : Option Value → St → Prop := fun r σ' => ∃ I', r = none ∧ σ' = st9 I' J b ∧ q I'
def Qr (J : Js) (b : Bool) (q : Nat → Is → Prop) : Option Value → St → Prop := fun r σ' => ∃ t I', r = some (.ref t) ∧ σ' = st9 I' J b ∧ q t I'
def Qg (q : Option Value → Is → Js → Bool → Prop) : Option Value → St → Prop := fun r σ' => ∃ I' J' b', σ' = st9 I' J' b' ∧ q r I' J' b'
abbrev MC9 (g : Gb) (d : Nat) (M : Mt) (av : List Value) (I : Is) (J : Js) (b : Bool) (Q : Option Value → St → Prop) : Prop := MC g d M av (st9 I J b) 91 Q
theorem ent9 {g : Gb} {d : Nat} {M : Mt} {av : List Value} {I : Is} {J : Js} {b : Bool} {Q : Option Value → St → Prop} {own : String} (hpl : plainName M.1.cls = true) (hown : M.1.cls = own) (hn : Nat.ble (entA av).length M.2.2.1 = true)
    (h : ∀ X : Cx, x_g X = g → x_n X = 91 → Ok X own M.2.1 M.2.2.1 d 91 → Rt X M.2.2.2 91 Q → Aw X 0 (ent M.2.2.1 av) [] (st9 I J b)) : MC9 g d M av I J b Q :=
  mc_entry hpl hown hn (fun X hg hn C Z _ => h X hg hn C Z)
section FLAV
variable {X : Cx} {own : String} {cc : ByteArray} {nL d : Nat} {pc : Nat} {L : List (Option Value)} {S : List Value} {I : Is} {J : Js} {b : Bool}
theorem rp (C : Ok X own cc nL d 91) {V v : Int32} (Z : Rt X (some .int) 91 (Qp V I J b)) (hd : decode cc pc = .ok (.ireturn, 1)) (hv : v = V) : Aw X pc L [.int v] (st9 I J b) :=
  r_iret C Z rfl hd ⟨by rw [hv], rfl⟩
theorem rpz (C : Ok X own cc nL d 91) {V v : Int32} (Z : Rt X (some .boolean) 91 (Qp V I J b)) (hd : decode cc pc = .ok (.ireturn, 1)) (hn : narrow .boolean (.int v) = .int v) (hv : v = V) : Aw X pc L [.int v] (st9 I J b) :=
  r_zret C Z rfl hd hn ⟨by rw [hv], rfl⟩
theorem ri (C : Ok X own cc nL d 91) {v : Int32} {q : Int32 → Is → Prop} (Z : Rt X (some .int) 91 (Qi J b q)) (hd : decode cc pc = .ok (.ireturn, 1)) (hq : q v I) : Aw X pc L [.int v] (st9 I J b) :=
  r_iret C Z rfl hd ⟨v, I, rfl, rfl, hq⟩
theorem riz (C : Ok X own cc nL d 91) {v : Int32} {q : Int32 → Is → Prop} (Z : Rt X (some .boolean) 91 (Qi J b q)) (hd : decode cc pc = .ok (.ireturn, 1)) (hn : narrow .boolean (.int v) = .int v) (hq : q v I) : Aw X pc L [.int v] (st9 I J b) :=
  r_zret C Z rfl hd hn ⟨v, I, rfl, rfl, hq⟩
theorem rv (C : Ok X own cc nL d 91) {q : Is → Prop} (Z : Rt X none 91 (Qv J b q)) (hd : decode cc pc = .ok (.return_, 1)) (hq : q I) : Aw X pc L [] (st9 I J b) :=
  r_vret C Z rfl hd ⟨I, rfl, rfl, hq⟩
theorem rr (C : Ok X own cc nL d 91) {c : String} {t : Nat} {q : Nat → Is → Prop} (Z : Rt X (some (.object c)) 91 (Qr J b q)) (hd : decode cc pc = .ok (.areturn, 1)) (hq : q t I) : Aw X pc L [.ref t] (st9 I J b) :=
  r_aret C Z rfl hd ⟨t, I, rfl, rfl, hq⟩
theorem rgi (C : Ok X own cc nL d 91) {v : Int32} {q : Option Value → Is → Js → Bool → Prop} (Z : Rt X (some .int) 91 (Qg q)) (hd : decode cc pc = .ok (.ireturn, 1)) (hq : q (some (.int v)) I J b) : Aw X pc L [.int v] (st9 I J b) :=
  r_iret C Z rfl hd ⟨I, J, b, rfl, hq⟩
theorem rgl (C : Ok X own cc nL d 91) {v : Int64} {q : Option Value → Is → Js → Bool → Prop} (Z : Rt X (some .long) 91 (Qg q)) (hd : decode cc pc = .ok (.lreturn, 1)) (hq : q (some (.long v)) I J b) : Aw X pc L [.long v] (st9 I J b) :=
  r_lret C Z rfl hd ⟨I, J, b, rfl, hq⟩
theorem rgv (C : Ok X own cc nL d 91) {q : Option Value → Is → Js → Bool → Prop} (Z : Rt X none 91 (Qg q)) (hd : decode cc pc = .ok (.return_, 1)) (hq : q none I J b) : Aw X pc L [] (st9 I J b) :=
  r_vret C Z rfl hd ⟨I, J, b, rfl, hq⟩
/-- a call of an instance method -/
theorem cV (C : Ok X own cc nL d 91) (hx : x_n X = 91) {M : Mt} {k d' idx t ci : Nat} {As rest : List Value} {Q' : Option Value → St → Prop} (hM : MC9 (x_g X) d' M (.ref t :: As) I J b Q') (hm : mOk M k) (hl : Cond.methodLink own idx M.1 ∈ Wall) (hi : Cond.instanceMethod M.1 ∈ Wall) (hs : Cond.selects M.1.cls M.1 M.1 ∈ Wall)
    (hd : decode cc pc = .ok (.invokevirtual idx, 3)) (hS : As.reverse ++ .ref t :: rest = S) (hk : As.length = k) (hc : chk 91 t ci = true) (hci : Nat.blt ci 11 = true) (hnm : M.1.cls = nmOf ci) (hdd : d' + 1 ≤ d) (hL : L.length = nL) (hrest : Nat.ble (rest.map fun v => v.category).sum 8 = true)
    (kk : ∀ (v : Option Value) (σ' : St), Q' v σ' → Aw X (pc + 3) L (v.toList ++ rest) σ') : Aw X pc L S (st9 I J b) :=
  r_callV C hM hm hl hi hs hd hS hk hc (Nat.le_of_ble_eq_true hci) hnm hdd (Nat.le_of_eq hx) (Nat.le_refl _) (Nat.le_refl _) (Nat.le_refl _) hL (Nat.le_of_ble_eq_true hrest) (fun v σ' h _ => kk v σ' h)
theorem cS (C : Ok X own cc nL d 91) (hx : x_n X = 91) {M : Mt} {k d' idx : Nat} {As rest : List Value} {Q' : Option Value → St → Prop} (hM : MC9 (x_g X) d' M As I J b Q') (hm : mOk M k) (hl : Cond.methodLink own idx M.1 ∈ Wall) (hi : Cond.static M.1 ∈ Wall)
    (hd : decode cc pc = .ok (.invokestatic idx, 3)) (hS : As.reverse ++ rest = S) (hk : As.length = k) (hdd : d' + 1 ≤ d) (hL : L.length = nL) (hrest : Nat.ble (rest.map fun v => v.category).sum 8 = true)
    (kk : ∀ (v : Option Value) (σ' : St), Q' v σ' → Aw X (pc + 3) L (v.toList ++ rest) σ') : Aw X pc L S (st9 I J b) :=
  r_callS C hM hm hl hi hd hS hk hdd (Nat.le_of_eq hx) (Nat.le_refl _) (Nat.le_refl _) (Nat.le_refl _) hL (Nat.le_of_ble_eq_true hrest) (fun v σ' h _ => kk v σ' h)
theorem kp {V : Int32} {rest : List Value} (k : Aw X pc L (.int V :: rest) (st9 I J b)) : ∀ (v : Option Value) (σ' : St), Qp V I J b v σ' → Aw X pc L (v.toList ++ rest) σ' := by
  rintro v σ' ⟨rfl, rfl⟩
  exact k
theorem ki {q : Int32 → Is → Prop} {rest : List Value} (k : ∀ v I', q v I' → Aw X pc L (.int v :: rest) (st9 I' J b)) : ∀ (v : Option Value) (σ' : St), Qi J b q v σ' → Aw X pc L (v.toList ++ rest) σ' := by
  rintro v σ' ⟨w, I', rfl, rfl, h⟩
  exact k w I' h
theorem kv {q : Is → Prop} {rest : List Value} (k : ∀ I', q I' → Aw X pc L rest (st9 I' J b)) : ∀ (v : Option Value) (σ' : St), Qv J b q v σ' → Aw X pc L (v.toList ++ rest) σ' := by
  rintro v σ' ⟨I', rfl, rfl, h⟩
  exact k I' h
theorem kr {q : Nat → Is → Prop} {rest : List Value} (k : ∀ t I', q t I' → Aw X pc L (.ref t :: rest) (st9 I' J b)) : ∀ (v : Option Value) (σ' : St), Qr J b q v σ' → Aw X pc L (v.toList ++ rest) σ' := by
  rintro v σ' ⟨t, I', rfl, rfl, h⟩
  exact k t I' h
theorem kg {q : Option Value → Is → Js → Bool → Prop} {rest : List Value} (k : ∀ v I' J' b', q v I' J' b' → Aw X pc L (v.toList ++ rest) (st9 I' J' b')) : ∀ (v : Option Value) (σ' : St), Qg q v σ' → Aw X pc L (v.toList ++ rest) σ' := by
  rintro v σ' ⟨I', J', b', rfl, h⟩
  exact k v I' J' b' h
theorem cmin (C : Ok X own cc nL d 91) (hx : x_n X = 91) {idx : Nat} {x y : Int32} (hl : Cond.methodLink own idx Lib.Math.min.name ∈ Wall) (hd : decode cc pc = .ok (.invokestatic idx, 3)) (hdd : 1 ≤ d) (hL : L.length = nL) (hrest : Nat.ble (S.map fun v => v.category).sum 8 = true) (k : Aw X (pc + 3) L (.int (imin x y) :: S) (st9 I J b)) : Aw X pc L (.int y :: .int x :: S) (st9 I J b) :=
  r_mmin C hl hd hdd hL (Nat.le_of_eq hx) (Nat.le_refl _) (Nat.le_refl _) (Nat.le_of_ble_eq_true hrest) k
theorem cmax (C : Ok X own cc nL d 91) (hx : x_n X = 91) {idx : Nat} {x y : Int32} (hl : Cond.methodLink own idx Lib.Math.max.name ∈ Wall) (hd : decode cc pc = .ok (.invokestatic idx, 3)) (hdd : 1 ≤ d) (hL : L.length = nL) (hrest : Nat.ble (S.map fun v => v.category).sum 8 = true) (k : Aw X (pc + 3) L (.int (imax x y) :: S) (st9 I J b)) : Aw X pc L (.int y :: .int x :: S) (st9 I J b) :=
  r_mmax C hl hd hdd hL (Nat.le_of_eq hx) (Nat.le_refl _) (Nat.le_refl _) (Nat.le_of_ble_eq_true hrest) k
end FLAV
/-! branches, told in integers -/
section BR
variable {X : Cx} {own : String} {cc : ByteArray} {nL d n1 : Nat} {pc : Nat} {L : List (Option Value)} {S : List Value} {σ : St}
theorem b_iflt (C : Ok X own cc nL d n1) {x : Int32} {off : Int} {tgt : Nat} (hd : decode cc pc = .ok (.ifCond .lt off, 3)) (ht : (pc : Int) + off = (tgt : Int)) (kt : x.toInt < 0 → Aw X tgt L S σ) (kf : 0 ≤ x.toInt → Aw X (pc + 3) L S σ) : Aw X pc L (.int x :: S) σ :=
  r_iflt C hd ht (fun h => kt (Int32.lt_iff_toInt_lt.mp h)) (fun h => kf (Int.not_lt.mp fun z => h (Int32.lt_iff_toInt_lt.mpr z)))
theorem b_ifge (C : Ok X own cc nL d n1) {x : Int32} {off : Int} {tgt : Nat} (hd : decode cc pc = .ok (.ifCond .ge off, 3)) (ht : (pc : Int) + off = (tgt : Int)) (kt : 0 ≤ x.toInt → Aw X tgt L S σ) (kf : x.toInt < 0 → Aw X (pc + 3) L S σ) : Aw X pc L (.int x :: S) σ :=
  r_ifge C hd ht (fun h => kt (Int32.le_iff_toInt_le.mp h)) (fun h => kf (Int.not_le.mp fun z => h (Int32.le_iff_toInt_le.mpr z)))
theorem b_ifgt (C : Ok X own cc nL d n1) {x : Int32} {off : Int} {tgt : Nat} (hd : decode cc pc = .ok (.ifCond .gt off, 3)) (ht : (pc : Int) + off = (tgt : Int)) (kt : 0 < x.toInt → Aw X tgt L S σ) (kf : x.toInt ≤ 0 → Aw X (pc + 3) L S σ) : Aw X pc L (.int x :: S) σ :=
  r_ifgt C hd ht (fun h => kt (Int32.lt_iff_toInt_lt.mp h)) (fun h => kf (Int.not_lt.mp fun z => h (Int32.lt_iff_toInt_lt.mpr z)))
theorem b_ifle (C : Ok X own cc nL d n1) {x : Int32} {off : Int} {tgt : Nat} (hd : decode cc pc = .ok (.ifCond .le off, 3)) (ht : (pc : Int) + off = (tgt : Int)) (kt : x.toInt ≤ 0 → Aw X tgt L S σ) (kf : 0 < x.toInt → Aw X (pc + 3) L S σ) : Aw X pc L (.int x :: S) σ :=
  r_ifle C hd ht (fun h => kt (Int32.le_iff_toInt_le.mp h)) (fun h => kf (Int.not_le.mp fun z => h (Int32.le_iff_toInt_le.mpr z)))
theorem b_iclt (C : Ok X own cc nL d n1) {x y : Int32} {off : Int} {tgt : Nat} {mx my : Int} (hx : x.toInt = mx) (hy : y.toInt = my) (hd : decode cc pc = .ok (.if_icmp .lt off, 3)) (ht : (pc : Int) + off = (tgt : Int)) (kt : mx < my → Aw X tgt L S σ) (kf : my ≤ mx → Aw X (pc + 3) L S σ) : Aw X pc L (.int y :: .int x :: S) σ := by
  subst hx; subst hy
  exact r_iclt C hd ht (fun h => kt (Int32.lt_iff_toInt_lt.mp h)) (fun h => kf (Int.not_lt.mp fun z => h (Int32.lt_iff_toInt_lt.mpr z)))
theorem b_icge (C : Ok X own cc nL d n1) {x y : Int32} {off : Int} {tgt : Nat} {mx my : Int} (hx : x.toInt = mx) (hy : y.toInt = my) (hd : decode cc pc = .ok (.if_icmp .ge off, 3)) (ht : (pc : Int) + off = (tgt : Int)) (kt : my ≤ mx → Aw X tgt L S σ) (kf : mx < my → Aw X (pc + 3) L S σ) : Aw X pc L (.int y :: .int x :: S) σ := by
  subst hx; subst hy
  exact r_icge C hd ht (fun h => kt (Int32.le_iff_toInt_le.mp h)) (fun h => kf (Int.not_le.mp fun z => h (Int32.le_iff_toInt_le.mpr z)))
theorem b_icgt (C : Ok X own cc nL d n1) {x y : Int32} {off : Int} {tgt : Nat} {mx my : Int} (hx : x.toInt = mx) (hy : y.toInt = my) (hd : decode cc pc = .ok (.if_icmp .gt off, 3)) (ht : (pc : Int) + off = (tgt : Int)) (kt : my < mx → Aw X tgt L S σ) (kf : mx ≤ my → Aw X (pc + 3) L S σ) : Aw X pc L (.int y :: .int x :: S) σ := by
  subst hx; subst hy
  exact r_icgt C hd ht (fun h => kt (Int32.lt_iff_toInt_lt.mp h)) (fun h => kf (Int.not_lt.mp fun z => h (Int32.lt_iff_toInt_lt.mpr z)))
theorem b_icle (C : Ok X own cc nL d n1) {x y : Int32} {off : Int} {tgt : Nat} {mx my : Int} (hx : x.toInt = mx) (hy : y.toInt = my) (hd : decode cc pc = .ok (.if_icmp .le off, 3)) (ht : (pc : Int) + off = (tgt : Int)) (kt : mx ≤ my → Aw X tgt L S σ) (kf : my < mx → Aw X (pc + 3) L S σ) : Aw X pc L (.int y :: .int x :: S) σ := by
  subst hx; subst hy
  exact r_icle C hd ht (fun h => kt (Int32.le_iff_toInt_le.mp h)) (fun h => kf (Int.not_le.mp fun z => h (Int32.le_iff_toInt_le.mpr z)))
/-- a boolean as the machine has it -/
def bI (p : Prop) [Decidable p] : Int32 := if p then 1 else 0
theorem bI_t {p : Prop} [Decidable p] (h : p) : bI p = 1 := if_pos h
theorem bI_f {p : Prop} [Decidable p] (h : ¬ p) : bI p = 0 := if_neg h
theorem bI_0 {p : Prop} [Decidable p] : bI p = 0 ↔ ¬ p := by
  unfold bI
  by_cases h : p
  · rw [if_pos h]; exact ⟨fun z => absurd z (by decide), fun z => absurd h z⟩
  · rw [if_neg h]; exact ⟨fun _ => h, fun _ => rfl⟩
theorem bI_nar {p : Prop} [Decidable p] : narrow .boolean (.int (bI p)) = .int (bI p) := by
  unfold bI
  by_cases h : p
  · rw [if_pos h]; rfl
  · rw [if_neg h]; rfl
theorem z_ifeq (C : Ok X own cc nL d n1) {p : Prop} [Decidable p] {off : Int} {tgt : Nat} (hd : decode cc pc = .ok (.ifCond .eq off, 3)) (ht : (pc : Int) + off = (tgt : Int)) (kt : ¬ p → Aw X tgt L S σ) (kf : p → Aw X (pc + 3) L S σ) : Aw X pc L (.int (bI p) :: S) σ :=
  r_ifeq C hd ht (fun h => kt (bI_0.mp h)) (fun h => kf (Decidable.not_not.mp fun z => h (bI_0.mpr z)))
theorem z_ifne (C : Ok X own cc nL d n1) {p : Prop} [Decidable p] {off : Int} {tgt : Nat} (hd : decode cc pc = .ok (.ifCond .ne off, 3)) (ht : (pc : Int) + off = (tgt : Int)) (kt : p → Aw X tgt L S σ) (kf : ¬ p → Aw X (pc + 3) L S σ) : Aw X pc L (.int (bI p) :: S) σ :=
  r_ifne C hd ht (fun h => kt (Decidable.not_not.mp fun z => h (bI_0.mpr z))) (fun h => kf (bI_0.mp h))
end BR
theorem vin {i : Int32} {n : Nat} (h0 : 0 ≤ i.toInt) (h1 : i.toInt < n) : vp_in i n := by
  rintro (h | h)
  · have := Int32.lt_iff_toInt_lt.mp h
    have e : (0 : Int32).toInt = 0 := rfl
    omega
  · have e : i.toNatClampNeg = i.toInt.toNat := rfl
    omega
theorem ix_nn {i : Int32} (h0 : 0 ≤ i.toInt) : ((ix i : Nat) : Int) = i.toInt := by
  have e : ix i = i.toInt.toNat := rfl
  omega
theorem i32_rng (x : Int32) : -2147483648 ≤ x.toInt ∧ x.toInt < 2147483648 := ⟨by have := Int32.le_toInt x; omega, by have := Int32.toInt_lt x; omega⟩
theorem tI_add {x y : Int32} (h0 : -2147483648 ≤ x.toInt + y.toInt) (h1 : x.toInt + y.toInt < 2147483648) : (x + y).toInt = x.toInt + y.toInt := by
  rw [Int32.toInt_add, Int.bmod_eq_of_le_mul_two] <;> omega
theorem tI_sub {x y : Int32} (h0 : -2147483648 ≤ x.toInt - y.toInt) (h1 : x.toInt - y.toInt < 2147483648) : (x - y).toInt = x.toInt - y.toInt := by
  rw [Int32.toInt_sub, Int.bmod_eq_of_le_mul_two] <;> omega
theorem tI_mul {x y : Int32} (h0 : -2147483648 ≤ x.toInt * y.toInt) (h1 : x.toInt * y.toInt < 2147483648) : (x * y).toInt = x.toInt * y.toInt := by
  rw [Int32.toInt_mul, Int.bmod_eq_of_le_mul_two] <;> omega
theorem tI_test : (999 : Int32).toInt = 999 ∧ (-2000000000 : Int32).toInt = -2000000000 ∧ ix (17 : Int32) = 17 := ⟨rfl, rfl, rfl⟩
