/-! ===== the machine in words of one state: cells by number, a store of ints, one of longs, one of references ===== -/
/-- globals of a run of the law: launch, first address of what the law makes, addresses of what it only reads, classes, array classes, the script -/
abbrev Gb : Type := Launch × Nat × (Nat → Nat) × va_G × (Nat → ClassId) × Nat × (Nat → Int32)
def g_l (g : Gb) : Launch := g.1
def g_b (g : Gb) : Nat := g.2.1
def g_ro (g : Gb) : Nat → Nat := g.2.2.1
def g_D (g : Gb) : va_G := g.2.2.2.1
def g_cA (g : Gb) : Nat → ClassId := g.2.2.2.2.1
def g_L (g : Gb) : Nat := g.2.2.2.2.2.1
def g_xs (g : Gb) : Nat → Int32 := g.2.2.2.2.2.2
abbrev St : Type := Nat × (Nat → Nat → Int32) × (Nat → Nat → Int64) × (Nat → Nat → Option Nat)
def u2 {α : Type} (f : Nat → Nat → α) (t k : Nat) (v : α) : Nat → Nat → α := fun t' k' => if t' = t then (if k' = k then v else f t' k') else f t' k'
theorem u2_same {α : Type} (f : Nat → Nat → α) (t k : Nat) (v : α) : u2 f t k v t k = v := by simp [u2]
theorem u2_ne {α : Type} (f : Nat → Nat → α) (t k : Nat) (v : α) {t' k' : Nat} (h : t' ≠ t ∨ k' ≠ k) : u2 f t k v t' k' = f t' k' := by
  unfold u2
  rcases h with h | h
  · rw [if_neg h]
  · by_cases h1 : t' = t
    · rw [if_pos h1, if_neg h]
    · rw [if_neg h1]
/-- the address of a cell by its number: below 1000 made by the law, from 1000 on only read -/
def ad (g : Gb) (r : Nat) : Nat := if r < 1000 then g_b g + r else g_ro g (r - 1000)
def cv (g : Gb) : Value → Value
  | .ref r => .ref (ad g r)
  | v => v
theorem cv_cat (g : Gb) (v : Value) : (cv g v).category = v.category := by cases v <;> rfl
/-- the types of the fields, by class and place -/
def tyOf (c k : Nat) : FieldType := match c with
  | 0 => tyX0 k | 1 => tyX1 k | 2 => tyX2 k | 3 => tyX3 k | 4 => tyX4 k | 5 => tyX5 k
  | 6 => tyX6 k | 7 => tyX7 k | 8 => tyX8 k | 9 => tyX9 k | _ => tyX10 k
def fdOf (c : Nat) : u_T := match c with
  | 0 => TX0 | 1 => TX1 | 2 => TX2 | 3 => TX3 | 4 => TX4 | 5 => TX5 | 6 => TX6 | 7 => TX7 | 8 => TX8 | 9 => TX9 | _ => TX10
def nmOf (c : Nat) : String := match c with
  | 0 => RX0 | 1 => RX1 | 2 => RX2 | 3 => RX3 | 4 => RX4 | 5 => RX5 | 6 => RX6 | 7 => RX7 | 8 => RX8 | 9 => RX9 | _ => RX10
def nfOf (c : Nat) : Nat := match c with
  | 0 => 5 | 1 => 12 | 2 => 4 | 3 => 2 | 4 => 4 | 5 => 4 | 6 => 4 | 7 => 5 | 8 => 8 | 9 => 10 | _ => 53
def isI (ty : FieldType) : Bool := match ty with
  | .int => true
  | .boolean => true
  | _ => false
theorem cl_of (c : Nat) (h : c < 11) : vwCl[c]? = some (nmOf c, fdOf c, nfOf c) := by
  match c, h with
  | 0, _ => rfl | 1, _ => rfl | 2, _ => rfl | 3, _ => rfl | 4, _ => rfl | 5, _ => rfl | 6, _ => rfl | 7, _ => rfl | 8, _ => rfl | 9, _ => rfl | 10, _ => rfl
  | n + 11, h => omega
theorem ty_ok (c : Nat) (h : c < 11) : ∀ k, k < nfOf c → parseFieldDescriptor (fdOf c k).2.2.1 = some (tyOf c k) := by
  match c, h with
  | 0, _ => exact tyX0_ok | 1, _ => exact tyX1_ok | 2, _ => exact tyX2_ok | 3, _ => exact tyX3_ok | 4, _ => exact tyX4_ok | 5, _ => exact tyX5_ok
  | 6, _ => exact tyX6_ok | 7, _ => exact tyX7_ok | 8, _ => exact tyX8_ok | 9, _ => exact tyX9_ok | 10, _ => exact tyX10_ok
  | n + 11, h => omega
theorem nm_ok (c : Nat) (h : c < 11) : ∀ a, a < nfOf c → ∀ b, b < nfOf c → a ≠ b → (fdOf c a).2.1 ≠ (fdOf c b).2.1 := by
  match c, h with
  | 0, _ => exact nmX0 | 1, _ => exact nmX1 | 2, _ => exact nmX2 | 3, _ => exact nmX3 | 4, _ => exact nmX4 | 5, _ => exact nmX5
  | 6, _ => exact nmX6 | 7, _ => exact nmX7 | 8, _ => exact nmX8 | 9, _ => exact nmX9 | 10, _ => exact nmX10
  | n + 11, h => omega
/-- the words that every contract stands on -/
def Wall : List Cond := lw_tbl.filter goodWord
theorem wall_tb {w : Cond} {i : Nat} (h : tables_1[i]? = some w) (hg : goodWord w = true) : w ∈ Wall :=
  List.mem_filter.mpr ⟨List.mem_append_right _ (List.mem_of_getElem? h), hg⟩
theorem wall_t1 {w : Cond} {i : Nat} (h : tables_1_1[i]? = some w) (hg : goodWord w = true) : w ∈ Wall :=
  List.mem_filter.mpr ⟨List.mem_append_right _ (List.mem_append_left _ (List.mem_of_getElem? h)), hg⟩
theorem wall_t2 {w : Cond} {i : Nat} (h : tables_1_2[i]? = some w) (hg : goodWord w = true) : w ∈ Wall :=
  List.mem_filter.mpr ⟨List.mem_append_right _ (List.mem_append_right _ (List.mem_append_left _ (List.mem_of_getElem? h))), hg⟩
theorem wall_t3 {w : Cond} {i : Nat} (h : tables_1_3[i]? = some w) (hg : goodWord w = true) : w ∈ Wall :=
  List.mem_filter.mpr ⟨List.mem_append_right _ (List.mem_append_right _ (List.mem_append_right _ (List.mem_append_left _ (List.mem_of_getElem? h)))), hg⟩
theorem wall_t4 {w : Cond} {i : Nat} (h : tables_1_4[i]? = some w) (hg : goodWord w = true) : w ∈ Wall :=
  List.mem_filter.mpr ⟨List.mem_append_right _ (List.mem_append_right _ (List.mem_append_right _ (List.mem_append_right _ (List.mem_append_left _ (List.mem_of_getElem? h))))), hg⟩
theorem wall_t5 {w : Cond} {i : Nat} (h : tables_1_5[i]? = some w) (hg : goodWord w = true) : w ∈ Wall :=
  List.mem_filter.mpr ⟨List.mem_append_right _ (List.mem_append_right _ (List.mem_append_right _ (List.mem_append_right _ (List.mem_append_right _ (List.mem_append_left _ (List.mem_of_getElem? h)))))), hg⟩
theorem wall_t6 {w : Cond} {i : Nat} (h : tables_1_6[i]? = some w) (hg : goodWord w = true) : w ∈ Wall :=
  List.mem_filter.mpr ⟨List.mem_append_right _ (List.mem_append_right _ (List.mem_append_right _ (List.mem_append_right _ (List.mem_append_right _ (List.mem_append_right _ (List.mem_of_getElem? h)))))), hg⟩
theorem wall_sel {w : Cond} {i : Nat} (h : (k2_sels lw_privs)[i]? = some w) (hg : goodWord w = true) : w ∈ Wall :=
  List.mem_filter.mpr ⟨List.mem_append_left _ (List.mem_of_getElem? h), hg⟩
theorem wall_good : ∀ w ∈ Wall, goodWord w = true := fun w h => (List.mem_filter.mp h).2
theorem wall_goodIn {ws : List Cond} (h : ∀ w ∈ ws, w ∈ Wall) : GoodIn Wall ws := fun w hw => ⟨h w hw, good_of_word (wall_good w (h w hw))⟩
def KD : List (Nat × Nat) := [(9, 0), (3, 0), (20, 28), (6, 0), (20, 120), (7, 0), (20, 120), (20, 120), (22, 120), (2, 0), (7, 0), (20, 120), (20, 120), (22, 120), (20, 6), (20, 120), (1, 0), (20, 3), (20, 3), (20, 3), (20, 3), (20, 3), (1, 0), (20, 3), (20, 3), (20, 3), (20, 3), (20, 3), (8, 0), (20, 1000), (20, 441), (20, 441), (1, 0), (20, 3), (20, 3), (20, 3), (20, 3), (20, 3), (1, 0), (20, 3), (20, 3), (20, 3), (20, 3), (20, 3), (0, 0), (20, 40), (20, 40), (20, 40), (5, 0), (20, 50), (20, 24), (23, 6), (4, 0), (21, 60), (4, 0), (21, 60), (4, 0), (21, 60), (4, 0), (21, 60), (4, 0), (21, 60), (4, 0), (21, 60), (10, 0), (20, 28), (20, 40), (20, 40), (20, 40), (20, 3), (20, 120), (20, 120), (20, 6), (20, 3), (20, 3), (20, 3), (20, 3), (20, 1000), (20, 1000), (20, 441), (20, 441), (20, 3), (20, 3), (20, 3), (20, 17), (20, 50), (20, 24), (20, 6), (20, 6), (21, 360), (21, 60)]
def RLt : List (List (Option Nat)) := [[some 1, some 3, some 9, some 16, some 22, some 28, some 44, some 48, some 51], [some 2], [], [some 4, none, some 5], [], [some 6, some 7, some 8], [], [], [], [some 10, some 1, some 14, some 15], [some 11, some 12, some 13], [], [], [], [], [], [none, none, none, none, none, some 17, some 18, some 19, some 20, some 21, some 1, some 9], [], [], [], [], [], [none, none, none, none, none, some 23, some 24, some 25, some 26, some 27, some 1, some 9], [], [], [], [], [], [none, some 1, some 16, some 32, some 38, some 29, some 30, some 31], [], [], [], [none, none, none, none, none, some 33, some 34, some 35, some 36, some 37, some 1, some 9], [], [], [], [], [], [none, none, none, none, none, some 39, some 40, some 41, some 42, some 43, some 1, some 9], [], [], [], [], [], [none, none, some 45, some 46, some 47], [], [], [], [none, none, some 49, some 50], [], [], [some 52, some 54, some 56, some 58, some 60, some 62], [none, none, none, some 53], [], [none, none, none, some 55], [], [none, none, none, some 57], [], [none, none, none, some 59], [], [none, none, none, some 61], [], [none, none, none, some 63], [], [some 65, some 66, some 67, some 68, none, none, none, none, none, none, some 69, some 70, none, some 71, none, none, none, none, none, none, some 72, none, none, none, some 73, some 74, some 75, some 76, none, none, none, some 77, some 78, some 79, some 80, some 81, some 82, some 83, none, none, none, none, some 84, none, some 85, some 86, none, none, none, some 87, some 88, some 89, some 90], [], [], [], [], [], [], [], [], [], [], [], [], [], [], [], [], [], [], [], [], [], [], [], [], [], []]
theorem fw0 : u_ws RX0 TX0 5 = [217, 219, 221, 223, 225].filterMap (fun i => tables_1[i]?) := by decide +kernel
theorem fg0 : (u_ws RX0 TX0 5).all goodWord = true := by decide +kernel
theorem fw1 : u_ws RX1 TX1 12 = [145, 147, 149, 151, 153, 155, 157, 159, 161, 163, 165, 167].filterMap (fun i => tables_1[i]?) := by decide +kernel
theorem fg1 : (u_ws RX1 TX1 12).all goodWord = true := by decide +kernel
theorem fw2 : u_ws RX2 TX2 4 = [107, 109, 111, 113].filterMap (fun i => tables_1[i]?) := by decide +kernel
theorem fg2 : (u_ws RX2 TX2 4).all goodWord = true := by decide +kernel
theorem fw3 : u_ws RX3 TX3 2 = [40, 42].filterMap (fun i => tables_1[i]?) := by decide +kernel
theorem fg3 : (u_ws RX3 TX3 2).all goodWord = true := by decide +kernel
theorem fw4 : u_ws RX4 TX4 4 = [266, 268, 270, 272].filterMap (fun i => tables_1[i]?) := by decide +kernel
theorem fg4 : (u_ws RX4 TX4 4).all goodWord = true := by decide +kernel
theorem fw5 : u_ws RX5 TX5 4 = [240, 242, 244, 246].filterMap (fun i => tables_1[i]?) := by decide +kernel
theorem fg5 : (u_ws RX5 TX5 4).all goodWord = true := by decide +kernel
theorem fw6 : u_ws RX6 TX6 4 = [85, 87, 89, 91].filterMap (fun i => tables_1[i]?) := by decide +kernel
theorem fg6 : (u_ws RX6 TX6 4).all goodWord = true := by decide +kernel
theorem fw7 : u_ws RX7 TX7 5 = [67, 69, 71, 73, 75].filterMap (fun i => tables_1[i]?) := by decide +kernel
theorem fg7 : (u_ws RX7 TX7 5).all goodWord = true := by decide +kernel
theorem fw8 : u_ws RX8 TX8 8 = [187, 189, 191, 193, 195, 197, 199, 201].filterMap (fun i => tables_1[i]?) := by decide +kernel
theorem fg8 : (u_ws RX8 TX8 8).all goodWord = true := by decide +kernel
theorem fw9 : u_ws RX9 TX9 10 = [286, 288, 290, 292, 294, 296, 298, 300, 302, 304].filterMap (fun i => tables_1[i]?) := by decide +kernel
theorem fg9 : (u_ws RX9 TX9 10).all goodWord = true := by decide +kernel
theorem fw10 : u_ws RX10 TX10 53 = [900, 902, 904, 906, 908, 910, 912, 914, 916, 918, 920, 922, 924, 926, 928, 930, 932, 934, 936, 938, 940, 942, 944, 946, 948, 950, 952, 954, 956, 958, 960, 962, 964, 966, 968, 970, 972, 974, 976, 978, 980, 982, 984, 986, 988, 990, 992, 994, 996, 998, 1000, 1002, 1004].filterMap (fun i => tables_1[i]?) := by decide +kernel
theorem fg10 : (u_ws RX10 TX10 53).all goodWord = true := by decide +kernel
theorem fw_all (c : Nat) (h : c < 11) : ∀ w ∈ u_ws (nmOf c) (fdOf c) (nfOf c), w ∈ Wall := by
  have key : ∀ (C : String) (T : u_T) (N : Nat) (ps : List Nat), u_ws C T N = ps.filterMap (fun i => tables_1[i]?) → (u_ws C T N).all goodWord = true → ∀ w ∈ u_ws C T N, w ∈ Wall := by
    intro C T N ps hp hg w hw
    have h1 := List.all_eq_true.mp hg w hw
    rw [hp] at hw
    obtain ⟨i, -, hi⟩ := List.mem_filterMap.mp hw
    exact wall_tb hi h1
  match c, h with
  | 0, _ => exact key _ _ _ _ fw0 fg0 | 1, _ => exact key _ _ _ _ fw1 fg1 | 2, _ => exact key _ _ _ _ fw2 fg2 | 3, _ => exact key _ _ _ _ fw3 fg3
  | 4, _ => exact key _ _ _ _ fw4 fg4 | 5, _ => exact key _ _ _ _ fw5 fg5 | 6, _ => exact key _ _ _ _ fw6 fg6 | 7, _ => exact key _ _ _ _ fw7 fg7
  | 8, _ => exact key _ _ _ _ fw8 fg8 | 9, _ => exact key _ _ _ _ fw9 fg9 | 10, _ => exact key _ _ _ _ fw10 fg10
  | n + 11, h => omega
def kd (t : Nat) : Nat := (KD.getD t (99, 0)).1
def ln (t : Nat) : Nat := (KD.getD t (99, 0)).2
def szc (q : Nat × Nat) : Nat := if q.1 < 20 then nfOf q.1 else q.2
def ss (t : Nat) : Nat := ((KD.take t).map szc).sum
/-- the references as they stand behind the constructors; the two texts change places -/
def RR (b : Bool) : Nat → Nat → Option Nat := fun t k =>
  if t = 3 then (if k = 2 then (if b then some 10 else some 5) else (RLt.getD 3 []).getD k none)
  else if t = 9 then (if k = 0 then (if b then some 5 else some 10) else (RLt.getD 9 []).getD k none)
  else (RLt.getD t []).getD k none
def fv (g : Gb) (σ : St) (c t k : Nat) : Value := if isI (tyOf c k) then .int (σ.2.1 t k) else match σ.2.2.2 t k with
  | none => .null
  | some r => .ref (ad g r)
def fvs (g : Gb) (σ : St) (c t : Nat) : List Value := (List.range (nfOf c)).map (fv g σ c t)
def cellOf (g : Gb) (σ : St) (t : Nat) : va_E :=
  if kd t < 20 then .inr (kd t, fvs g σ (kd t) t)
  else if kd t = 20 then .inl (g_cA g 0, ln t, .inl (σ.2.1 t))
  else if kd t = 21 then .inl (g_cA g 1, ln t, .inr (.inl (σ.2.2.1 t)))
  else if kd t = 22 then .inl (g_cA g 2, ln t, .inl (σ.2.1 t))
  else .inl (g_cA g 3, ln t, .inr (.inr (.inr (.inr (fun j => (σ.2.2.2 t j).map (ad g))))))
def tysG (g : Gb) : List (ClassId × FieldType) := [(g_cA g 0, .int), (g_cA g 1, .long), (g_cA g 2, .boolean), (g_cA g 3, .object "TwoStraws$Shelf")]
/-- the heap holds the state -/
def Wd (g : Gb) (σ : St) (H : Heap) : Prop := (σ.1 < 91 → H.size = g_b g + σ.1) ∧ ∀ t, t < σ.1 → va_at (g_D g) vwCl (g_b g + t, cellOf g σ t) H
/-- what is only read: five static arrays, the script -/
def sCn (j : Nat) : String := match j with
  | 0 => "TwoStraws$Numbers" | 1 => "TwoStraws$Numbers" | 2 => "TwoStraws$Numbers" | 3 => "TwoStraws$Sips" | _ => "TwoStraws$Sips"
def sNm (j : Nat) : String := match j with
  | 0 => "LEAST" | 1 => "MOST" | 2 => "FIRST" | 3 => "ABOVE" | _ => "OWN"
def sLs (j : Nat) : List Int32 := match j with
  | 0 => [0, 1, 0, 1, 1, 0, -1, 0, 0, 0, 0, 0]
  | 1 => [20, 9, 999, 99, 60, 60, 999, 999, 9, 999, 9, 12]
  | 2 => [0, 3, 0, 10, 60, 0, -1, 999, 1, 0, 1, 0]
  | 3 => [-1, 0, 0, 2, 1, 3, 0, 4]
  | _ => [1, 10, 11, 2, 20, 0, 0, 0, 0, 30, 0, 0, 0, 41, 40, 0, 0, 0, 50, 0, 0, 0, 0, 60, 70, 0, 0, 0, 0, 80, 0, 81]
def roL (g : Gb) (j : Nat) : Nat := if j < 5 then (sLs j).length else g_L g
def roF (g : Gb) (j : Nat) : Nat → Int32 := if j < 5 then fun i => (sLs j).getD i 0 else g_xs g
def ro_X (b L : Nat) (xs : Nat → Int32) (U : State) (H : Heap) : Prop := ∃ scr : Cell, H[b]? = some scr ∧ U.isArrayOf scr .int ∧ scr.vm ≠ .unknown ∧ (L ≤ scr.slots.size ∧ scr.slots.size.toInt32 = Int32.ofNat L) ∧ ∀ j : Nat, j < L → scr.slots[j]? = some (.int (xs j))
theorem ro_X.kept {b L : Nat} {xs : Nat → Int32} {U : State} {H H1 : Heap} (h : ro_X b L xs U H) (hq : H1[b]? = H[b]?) : ro_X b L xs U H1 := by
  obtain ⟨scr, h1, h2⟩ := h
  exact ⟨scr, by rw [hq]; exact h1, h2⟩
theorem ro_X.moved {b L : Nat} {xs : Nat → Int32} {u U : State} {H : Heap} (hvm : u.vm.Alike U.vm) (h : ro_X b L xs u H) : ro_X b L xs U H := by
  obtain ⟨scr, h1, h2, h3⟩ := h
  exact ⟨scr, h1, State.isArrayOf_alike hvm h2, h3⟩
theorem ro_X.of {b L : Nat} {xs : Nat → Int32} {U : State} {H : Heap} (h : va_X b L xs U H) : ro_X b L xs U H := by
  obtain ⟨scr, h1, h2, h3, h4, h5⟩ := h
  exact ⟨scr, h1, h2, h3, ⟨Nat.le_of_eq h4.symm, congrArg Int32.ofNat h4⟩, h5⟩
theorem ro_X.ofT {b L : Nat} {xs : Nat → Int32} {A : Nat → Prop} {U : State} {H : Heap} (h : va_T .int b L (fun j => .int (xs j)) A U H) : ro_X b L xs U H := by
  obtain ⟨scr, h1, h2, h3, h4, h5, h6, -⟩ := h
  exact ⟨scr, h1, h2, h3, ⟨h4, h5⟩, h6⟩
def Ro (g : Gb) (U : State) (H : Heap) : Prop :=
  (∀ j, j < 5 → va_Z (sCn j) (sNm j) "[I" (.ref (g_ro g j)) (fun q => g_b g ≤ q) U H) ∧ (∀ j, j < 6 → ro_X (g_ro g j) (roL g j) (roF g j) U H ∧ g_ro g j < g_b g) ∧ va_AO "TwoStraws$Shelf" U
theorem Ro.moved {g : Gb} {u U : State} {H : Heap} (hvm : u.vm.Alike U.vm) (h : Ro g u H) : Ro g U H := ⟨fun j hj => (h.1 j hj).moved hvm, fun j hj => ⟨(h.2.1 j hj).1.moved hvm, (h.2.1 j hj).2⟩, h.2.2.moved hvm⟩
theorem Ro.kept {g : Gb} {U : State} {H H1 : Heap} (h : Ro g U H) (hs : g_b g ≤ H.size) (hq : ∀ q, q < H.size → ¬ g_b g ≤ q → H1[q]? = H[q]?) : Ro g U H1 :=
  ⟨fun j hj => (h.1 j hj).kept (fun a h1 h2 => hq a h1 h2), fun j hj => ⟨(h.2.1 j hj).1.kept (hq _ (Nat.lt_of_lt_of_le (h.2.1 j hj).2 hs) (Nat.not_le.mpr (h.2.1 j hj).2)), (h.2.1 j hj).2⟩, h.2.2⟩
-- locals by place
def aslF (g : Gb) (L : List (Option Value)) (i : Nat) : Option (Nat × Value) := match L[i]? with
  | some (some v) => some (i, cv g v)
  | _ => none
def asl (g : Gb) (L : List (Option Value)) : List (Nat × Value) := (List.range L.length).filterMap (aslF g L)
theorem asl_mem {g : Gb} {L : List (Option Value)} {q : Nat × Value} : q ∈ asl g L ↔ ∃ v, L[q.1]? = some (some v) ∧ q.2 = cv g v := by
  constructor
  · intro h
    obtain ⟨i, hi, he⟩ := List.mem_filterMap.mp h
    unfold aslF at he
    split at he
    · next v hv => cases he; exact ⟨v, hv, rfl⟩
    · cases he
  · rintro ⟨v, hv, e⟩
    refine List.mem_filterMap.mpr ⟨q.1, List.mem_range.mpr (List.getElem?_eq_some_iff.mp hv).1, ?_⟩
    unfold aslF
    rw [hv]
    simp only [← e]
theorem asl_at {g : Gb} {L : List (Option Value)} {ls : Array Slot} {nL i : Nat} {v : Value} (h : lv_has ls nL (asl g L)) (hv : L[i]? = some (some v)) : ls[i]? = some (.val (cv g v)) :=
  h.2.2 (i, cv g v) (asl_mem.mpr ⟨v, hv, rfl⟩)
/-- no long lies just ahead of place i -/
def lok (L : List (Option Value)) (i : Nat) : Bool := match i with
  | 0 => true
  | k + 1 => match L[k]? with
    | some (some v) => v.category != 2
    | _ => true
theorem lok_spec {L : List (Option Value)} {i k : Nat} {v : Value} (h : lok L i = true) (hk : k + 1 = i) (hv : L[k]? = some (some v)) : ¬ v.category = 2 := by
  subst hk
  simp only [lok, hv] at h
  simpa using h
theorem asl_put {g : Gb} {L : List (Option Value)} {ls : Array Slot} {nL i : Nat} {v : Value} (hk : lok L i = true)
    (h : lv_has ls nL ((i, cv g v) :: (asl g L).filter (fun q => !(q.1 == i) && !(q.1 + 1 == i && q.2.category == 2)))) : lv_has ls nL (asl g (L.set i (some v))) := by
  refine ⟨h.1, h.2.1, fun q hq => h.2.2 q ?_⟩
  obtain ⟨w, hw, e⟩ := asl_mem.mp hq
  by_cases hi : q.1 = i
  · rw [hi] at hw
    have hlt : i < L.length := by
      have := (List.getElem?_eq_some_iff.mp hw).1
      simpa using this
    rw [List.getElem?_set_self hlt] at hw
    cases hw
    exact List.mem_cons.mpr (Or.inl (Prod.ext hi e))
  · rw [List.getElem?_set_ne (fun z => hi z.symm)] at hw
    refine List.mem_cons.mpr (Or.inr (List.mem_filter.mpr ⟨asl_mem.mpr ⟨w, hw, e⟩, ?_⟩))
    have h2 : q.1 + 1 = i → ¬ q.2.category = 2 := fun z => by rw [e, cv_cat]; exact lok_spec hk z hw
    simp only [Bool.and_eq_true, Bool.not_eq_true', beq_eq_false_iff_ne, ne_eq, Bool.and_eq_false_iff]
    refine ⟨hi, ?_⟩
    by_cases z : q.1 + 1 = i
    · exact Or.inr (h2 z)
    · exact Or.inl z
theorem asl_put2 {g : Gb} {L : List (Option Value)} {ls : Array Slot} {nL i : Nat} {v : Value} (hk : lok L i = true)
    (h : lv_has ls nL ((i, cv g v) :: (asl g L).filter (fun q => !(q.1 == i) && (!(q.1 == i + 1) && !(q.1 + 1 == i && q.2.category == 2))))) : lv_has ls nL (asl g ((L.set i (some v)).set (i + 1) none)) := by
  refine ⟨h.1, h.2.1, fun q hq => h.2.2 q ?_⟩
  obtain ⟨w, hw, e⟩ := asl_mem.mp hq
  by_cases hi1 : q.1 = i + 1
  · rw [hi1] at hw
    have hlt : i + 1 < (L.set i (some v)).length := by
      have := (List.getElem?_eq_some_iff.mp hw).1
      simpa using this
    rw [List.getElem?_set_self hlt] at hw
    cases hw
  · rw [List.getElem?_set_ne (fun z => hi1 z.symm)] at hw
    by_cases hi : q.1 = i
    · rw [hi] at hw
      have hlt : i < L.length := by
        have := (List.getElem?_eq_some_iff.mp hw).1
        simpa using this
      rw [List.getElem?_set_self hlt] at hw
      cases hw
      exact List.mem_cons.mpr (Or.inl (Prod.ext hi e))
    · rw [List.getElem?_set_ne (fun z => hi z.symm)] at hw
      refine List.mem_cons.mpr (Or.inr (List.mem_filter.mpr ⟨asl_mem.mpr ⟨w, hw, e⟩, ?_⟩))
      have h2 : q.1 + 1 = i → ¬ q.2.category = 2 := fun z => by rw [e, cv_cat]; exact lok_spec hk z hw
      simp only [Bool.and_eq_true, Bool.not_eq_true', beq_eq_false_iff_ne, ne_eq, Bool.and_eq_false_iff]
      refine ⟨hi, hi1, ?_⟩
      by_cases z : q.1 + 1 = i
      · exact Or.inr (h2 z)
      · exact Or.inl z
/-- fewer locals told -/
theorem asl_less {g : Gb} {L L' : List (Option Value)} {ls : Array Slot} {nL : Nat} (h : lv_has ls nL (asl g L)) (hs : ∀ (i : Nat) (v : Value), L'[i]? = some (some v) → L[i]? = some (some v)) : lv_has ls nL (asl g L') := by
  refine ⟨h.1, h.2.1, fun q hq => h.2.2 q ?_⟩
  obtain ⟨w, hw, e⟩ := asl_mem.mp hq
  exact asl_mem.mpr ⟨w, hs _ _ hw, e⟩
/-- the locals at the entry -/
def entA : List Value → List (Option Value)
  | [] => []
  | .long x :: r => some (.long x) :: none :: entA r
  | .double x :: r => some (.double x) :: none :: entA r
  | v :: r => some v :: entA r
def ent (nL : Nat) (av : List Value) : List (Option Value) := entA av ++ List.replicate (nL - (entA av).length) none
-- the judgement
abbrev Cx : Type := Gb × Program × Env × Room × State × MethodId × Array Value × List Frame × Method × Code × (State → Prop) × Nat
def x_g (X : Cx) : Gb := X.1
def x_p (X : Cx) : Program := X.2.1
def x_e (X : Cx) : Env := X.2.2.1
def x_R (X : Cx) : Room := X.2.2.2.1
def x_s (X : Cx) : State := X.2.2.2.2.1
def x_m (X : Cx) : MethodId := X.2.2.2.2.2.1
def x_a (X : Cx) : Array Value := X.2.2.2.2.2.2.1
def x_be (X : Cx) : List Frame := X.2.2.2.2.2.2.2.1
def x_me (X : Cx) : Method := X.2.2.2.2.2.2.2.2.1
def x_c (X : Cx) : Code := X.2.2.2.2.2.2.2.2.2.1
def x_Q (X : Cx) : State → Prop := X.2.2.2.2.2.2.2.2.2.2.1
def x_n (X : Cx) : Nat := X.2.2.2.2.2.2.2.2.2.2.2
/-- from pc with these locals, this stack and this state the machine comes to the end that X asks for -/
def Aw (X : Cx) (pc : Nat) (L : List (Option Value)) (S : List Value) (σ : St) : Prop := ∀ (H : Heap) (locs : List Loc) (ls : Array Slot), Wd (x_g X) σ H → va_S (fun q => g_b (x_g X) ≤ q) (x_s X).heap H locs → lv_has ls L.length (asl (x_g X) L) →
  W (x_p X) (g_l (x_g X)) (x_e X) (x_R X) (x_s X) (x_m X) (x_a X) (x_be X) (x_me X) (x_c X) H locs (σ.1 - x_n X) (ss σ.1 - ss (x_n X)) (x_Q X) (F0 (x_m X) pc ls (S.map (cv (x_g X))))
/-- what holds all along in a method of class 'own' with code cc, nL locals, depth d below it, n1 cells at most -/
def Ok (X : Cx) (own : String) (cc : ByteArray) (nL d n1 : Nat) : Prop :=
  (x_p X).tables.exec = Jvm.exec ∧ (x_c X).code = cc ∧ (x_c X).maxLocals = nL ∧ (x_s X).vm.findClass own = some (x_m X).cls ∧ (∀ w ∈ Wall, w.before (x_a X) (x_s X) = true) ∧
  va_K (g_D (x_g X)) vwCl (tysG (x_g X)) (x_s X) ∧ Ro (x_g X) (x_s X) (x_s X).heap ∧ g_b (x_g X) ≤ (x_s X).heap.size ∧ (x_me X).locks = false ∧
  (d ≤ (x_R X).frames ∧ 64 * d ≤ (x_R X).locals ∧ n1 - x_n X ≤ (x_R X).cells ∧ ss n1 - ss (x_n X) ≤ (x_R X).slots)
def chk (n t c : Nat) : Bool := Nat.blt t n && Nat.beq (kd t) c
theorem chk_lt {n t c : Nat} (h : chk n t c = true) : t < n := by
  unfold chk at h
  rw [Bool.and_eq_true] at h
  exact Nat.le_of_ble_eq_true h.1
theorem chk_kd {n t c : Nat} (h : chk n t c = true) : kd t = c := by
  unfold chk at h
  rw [Bool.and_eq_true] at h
  exact Nat.eq_of_beq_eq_true h.2
theorem cellOf_obj {g : Gb} {σ : St} {t c : Nat} (hk : kd t = c) (hc : c < 11) : cellOf g σ t = .inr (c, fvs g σ c t) := by
  subst hk
  unfold cellOf
  rw [if_pos (by omega)]
theorem cellOf_i {g : Gb} {σ : St} {t : Nat} (hk : kd t = 20) : cellOf g σ t = .inl (g_cA g 0, ln t, .inl (σ.2.1 t)) := by simp [cellOf, hk]
theorem cellOf_l {g : Gb} {σ : St} {t : Nat} (hk : kd t = 21) : cellOf g σ t = .inl (g_cA g 1, ln t, .inr (.inl (σ.2.2.1 t))) := by simp [cellOf, hk]
theorem cellOf_z {g : Gb} {σ : St} {t : Nat} (hk : kd t = 22) : cellOf g σ t = .inl (g_cA g 2, ln t, .inl (σ.2.1 t)) := by simp [cellOf, hk]
theorem cellOf_q {g : Gb} {σ : St} {t : Nat} (hk : kd t = 23) : cellOf g σ t = .inl (g_cA g 3, ln t, .inr (.inr (.inr (.inr (fun j => (σ.2.2.2 t j).map (ad g)))))) := by simp [cellOf, hk]
theorem fvs_at {g : Gb} {σ : St} {c t k : Nat} (hk : k < nfOf c) : (fvs g σ c t)[k]? = some (fv g σ c t k) := by
  unfold fvs
  rw [List.getElem?_map, List.getElem?_range hk]
  rfl
theorem fvs_len {g : Gb} {σ : St} {c t : Nat} : (fvs g σ c t).length = nfOf c := by simp [fvs]
/-- cells depend on their own row alone -/
theorem cellOf_congr {g : Gb} {σ σ' : St} {t : Nat} (h1 : σ'.2.1 t = σ.2.1 t) (h2 : σ'.2.2.1 t = σ.2.2.1 t) (h3 : σ'.2.2.2 t = σ.2.2.2 t) : cellOf g σ' t = cellOf g σ t := by
  unfold cellOf fvs
  have hf : fv g σ' (kd t) t = fv g σ (kd t) t := by
    funext k
    unfold fv
    rw [h1, h3]
  rw [hf, h1, h2, h3]
theorem u2_row {α : Type} {f : Nat → Nat → α} {t k t' : Nat} {v : α} (h : t' ≠ t) : u2 f t k v t' = f t' := by
  funext j
  exact u2_ne f t k v (Or.inl h)
theorem Wd.upd {g : Gb} {σ σ' : St} {H H' : Heap} {t : Nat} (h : Wd g σ H) (hz : σ'.1 = σ.1) (hs : H'.size = H.size) (ho : ∀ q : Nat, q ≠ g_b g + t → H'[q]? = H[q]?)
    (hcell : va_at (g_D g) vwCl (g_b g + t, cellOf g σ' t) H') (hoth : ∀ t', t' ≠ t → cellOf g σ' t' = cellOf g σ t') : Wd g σ' H' := by
  refine ⟨fun hlt => by rw [hs, hz]; exact h.1 (by rw [← hz]; exact hlt), fun t' ht' => ?_⟩
  by_cases e : t' = t
  · rw [e]; exact hcell
  · rw [hoth t' e]
    refine va_at.kept (h.2 t' (by rw [← hz]; exact ht')) (ho _ ?_)
    show g_b g + t' ≠ g_b g + t
    omega
theorem ad_lo {g : Gb} {t : Nat} (h : t < 1000) : ad g t = g_b g + t := if_pos h
theorem kd_lt {t : Nat} (h : kd t < 99) : t < 91 := by
  by_cases h1 : t < 91
  · exact h1
  · exfalso
    have h2 : KD.getD t (99, 0) = (99, 0) := by
      rw [List.getD_eq_getElem?_getD, List.getElem?_eq_none (show KD.length ≤ t from by show 91 ≤ t; omega)]
      rfl
    unfold kd at h
    rw [h2] at h
    exact absurd h (by decide)
section RULES
variable {X : Cx} {own : String} {cc : ByteArray} {nL d n1 : Nat} {pc : Nat} {L : List (Option Value)} {S : List Value} {σ : St}
theorem o_x (C : Ok X own cc nL d n1) : (x_p X).tables.exec = Jvm.exec := C.1
theorem o_b (C : Ok X own cc nL d n1) : (x_c X).code = cc := C.2.1
theorem o_ml (C : Ok X own cc nL d n1) : (x_c X).maxLocals = nL := C.2.2.1
theorem o_own (C : Ok X own cc nL d n1) : (x_s X).vm.findClass own = some (x_m X).cls := C.2.2.2.1
theorem o_ts (C : Ok X own cc nL d n1) : ∀ w ∈ Wall, w.before (x_a X) (x_s X) = true := C.2.2.2.2.1
theorem o_K (C : Ok X own cc nL d n1) : va_K (g_D (x_g X)) vwCl (tysG (x_g X)) (x_s X) := C.2.2.2.2.2.1
theorem o_Ro (C : Ok X own cc nL d n1) : Ro (x_g X) (x_s X) (x_s X).heap := C.2.2.2.2.2.2.1
theorem o_sz (C : Ok X own cc nL d n1) : g_b (x_g X) ≤ (x_s X).heap.size := C.2.2.2.2.2.2.2.1
theorem o_lk (C : Ok X own cc nL d n1) : (x_me X).locks = false := C.2.2.2.2.2.2.2.2.1
theorem o_rm (C : Ok X own cc nL d n1) : d ≤ (x_R X).frames ∧ 64 * d ≤ (x_R X).locals ∧ n1 - x_n X ≤ (x_R X).cells ∧ ss n1 - ss (x_n X) ≤ (x_R X).slots := C.2.2.2.2.2.2.2.2.2
/-- fewer locals told -/
theorem r_less {L' : List (Option Value)} (hl : L'.length = L.length) (hs : ∀ (i : Nat) (v : Value), L'[i]? = some (some v) → L[i]? = some (some v)) (k : Aw X pc L' S σ) : Aw X pc L S σ :=
  fun H locs ls h1 h2 h3 => k H locs ls h1 h2 (by rw [hl]; exact asl_less h3 hs)

theorem r_iconst (C : Ok X own cc nL d n1) {n : Int} {v : Int32} (hd : decode cc pc = .ok (.iconst n, 1)) (hv : Int32.ofInt n = v) (k : Aw X (pc + 1) L (.int v :: S) σ) : Aw X pc L (S) σ :=
  fun H locs ls h1 h2 h3 => lv_iconst (o_x C) (o_b C) hd hv (k H locs ls h1 h2 h3)
theorem r_bipush (C : Ok X own cc nL d n1) {n : Int} {v : Int32} (hd : decode cc pc = .ok (.bipush n, 2)) (hv : (Int8.ofInt n).toInt32 = v) (k : Aw X (pc + 2) L (.int v :: S) σ) : Aw X pc L (S) σ :=
  fun H locs ls h1 h2 h3 => lv_bipush (o_x C) (o_b C) hd hv (k H locs ls h1 h2 h3)
theorem r_sipush (C : Ok X own cc nL d n1) {n : Int} {v : Int32} (hd : decode cc pc = .ok (.sipush n, 3)) (hv : (Int16.ofInt n).toInt32 = v) (k : Aw X (pc + 3) L (.int v :: S) σ) : Aw X pc L (S) σ :=
  fun H locs ls h1 h2 h3 => lv_sipush (o_x C) (o_b C) hd hv (k H locs ls h1 h2 h3)
theorem r_lconst (C : Ok X own cc nL d n1) {n : Fin 2} {v : Int64} (hd : decode cc pc = .ok (.lconst n, 1)) (hv : Int64.ofNat (n : Nat) = v) (k : Aw X (pc + 1) L (.long v :: S) σ) : Aw X pc L (S) σ :=
  fun H locs ls h1 h2 h3 => lv_lconst (o_x C) (o_b C) hd hv (k H locs ls h1 h2 h3)
theorem r_ldc (C : Ok X own cc nL d n1) {idx : Nat} {v : Int32} (hw : Cond.constant own idx v ∈ Wall) (hd : decode cc pc = .ok (.ldc idx, 2)) (k : Aw X (pc + 2) L (.int v :: S) σ) : Aw X pc L (S) σ :=
  fun H locs ls h1 h2 h3 => lv_ldc (o_x C) (o_b C) (o_own C) (o_ts C _ hw) hd (k H locs ls h1 h2 h3)
theorem r_ldcw (C : Ok X own cc nL d n1) {idx : Nat} {v : Int32} (hw : Cond.constant own idx v ∈ Wall) (hd : decode cc pc = .ok (.ldc_w idx, 3)) (k : Aw X (pc + 3) L (.int v :: S) σ) : Aw X pc L (S) σ :=
  fun H locs ls h1 h2 h3 => lv_ldcw (o_x C) (o_b C) (o_own C) (o_ts C _ hw) hd (k H locs ls h1 h2 h3)
theorem r_ldc2 (C : Ok X own cc nL d n1) {idx : Nat} {v : Int64} (hw : Cond.constantLong own idx v ∈ Wall) (hd : decode cc pc = .ok (.ldc2_w idx, 3)) (k : Aw X (pc + 3) L (.long v :: S) σ) : Aw X pc L (S) σ :=
  fun H locs ls h1 h2 h3 => lv_ldc2 (o_x C) (o_b C) (o_own C) (o_ts C _ hw) hd (k H locs ls h1 h2 h3)
theorem r_iload_n (C : Ok X own cc nL d n1) {j : Fin 4} {x : Int32} (hd : decode cc pc = .ok (.iload_n j, 1)) (hl : L[(j : Nat)]? = some (some (.int x))) (k : Aw X (pc + 1) L (.int x :: S) σ) : Aw X pc L (S) σ :=
  fun H locs ls h1 h2 h3 => lv_iload_n (o_x C) (o_b C) hd rfl (asl_at h3 hl) (k H locs ls h1 h2 h3)
theorem r_iload (C : Ok X own cc nL d n1) {j : Nat} {x : Int32} (hd : decode cc pc = .ok (.iload j, 2)) (hl : L[j]? = some (some (.int x))) (k : Aw X (pc + 2) L (.int x :: S) σ) : Aw X pc L (S) σ :=
  fun H locs ls h1 h2 h3 => lv_iload (o_x C) (o_b C) hd (asl_at h3 hl) (k H locs ls h1 h2 h3)
theorem r_lload_n (C : Ok X own cc nL d n1) {j : Fin 4} {x : Int64} (hd : decode cc pc = .ok (.lload_n j, 1)) (hl : L[(j : Nat)]? = some (some (.long x))) (k : Aw X (pc + 1) L (.long x :: S) σ) : Aw X pc L (S) σ :=
  fun H locs ls h1 h2 h3 => lv_lload_n (o_x C) (o_b C) hd rfl (asl_at h3 hl) (k H locs ls h1 h2 h3)
theorem r_lload (C : Ok X own cc nL d n1) {j : Nat} {x : Int64} (hd : decode cc pc = .ok (.lload j, 2)) (hl : L[j]? = some (some (.long x))) (k : Aw X (pc + 2) L (.long x :: S) σ) : Aw X pc L (S) σ :=
  fun H locs ls h1 h2 h3 => lv_lload (o_x C) (o_b C) hd (asl_at h3 hl) (k H locs ls h1 h2 h3)
theorem r_aload_n (C : Ok X own cc nL d n1) {j : Fin 4} {x : Nat} (hd : decode cc pc = .ok (.aload_n j, 1)) (hl : L[(j : Nat)]? = some (some (.ref x))) (k : Aw X (pc + 1) L (.ref x :: S) σ) : Aw X pc L (S) σ :=
  fun H locs ls h1 h2 h3 => lv_aload_n (o_x C) (o_b C) hd rfl (asl_at h3 hl) (k H locs ls h1 h2 h3)
theorem r_aload (C : Ok X own cc nL d n1) {j : Nat} {x : Nat} (hd : decode cc pc = .ok (.aload j, 2)) (hl : L[j]? = some (some (.ref x))) (k : Aw X (pc + 2) L (.ref x :: S) σ) : Aw X pc L (S) σ :=
  fun H locs ls h1 h2 h3 => lv_aload (o_x C) (o_b C) hd (asl_at h3 hl) (k H locs ls h1 h2 h3)
theorem r_istore_n (C : Ok X own cc nL d n1) {j : Fin 4} {x : Int32} (hd : decode cc pc = .ok (.istore_n j, 1)) (hn : Nat.blt (j : Nat) L.length = true) (hk : lok L (j : Nat) = true) (k : Aw X (pc + 1) (L.set (j : Nat) (some (.int x))) S σ) : Aw X pc L (.int x :: S) σ :=
  fun H locs ls h1 h2 h3 => lv_istore_n (o_x C) (o_b C) hd rfl h3 (Nat.le_of_ble_eq_true hn) rfl (fun ls' h' => k H locs ls' h1 h2 (by rw [List.length_set]; exact asl_put (v := .int x) hk h'))
theorem r_istore (C : Ok X own cc nL d n1) {j : Nat} {x : Int32} (hd : decode cc pc = .ok (.istore j, 2)) (hn : Nat.blt j L.length = true) (hk : lok L j = true) (k : Aw X (pc + 2) (L.set j (some (.int x))) S σ) : Aw X pc L (.int x :: S) σ :=
  fun H locs ls h1 h2 h3 => lv_istore (o_x C) (o_b C) hd h3 (Nat.le_of_ble_eq_true hn) rfl (fun ls' h' => k H locs ls' h1 h2 (by rw [List.length_set]; exact asl_put (v := .int x) hk h'))
theorem r_astore_n (C : Ok X own cc nL d n1) {j : Fin 4} {x : Nat} (hd : decode cc pc = .ok (.astore_n j, 1)) (hn : Nat.blt (j : Nat) L.length = true) (hk : lok L (j : Nat) = true) (k : Aw X (pc + 1) (L.set (j : Nat) (some (.ref x))) S σ) : Aw X pc L (.ref x :: S) σ :=
  fun H locs ls h1 h2 h3 => lv_astore_n (o_x C) (o_b C) hd rfl h3 (Nat.le_of_ble_eq_true hn) rfl (fun ls' h' => k H locs ls' h1 h2 (by rw [List.length_set]; exact asl_put (v := .ref x) hk h'))
theorem r_astore (C : Ok X own cc nL d n1) {j : Nat} {x : Nat} (hd : decode cc pc = .ok (.astore j, 2)) (hn : Nat.blt j L.length = true) (hk : lok L j = true) (k : Aw X (pc + 2) (L.set j (some (.ref x))) S σ) : Aw X pc L (.ref x :: S) σ :=
  fun H locs ls h1 h2 h3 => lv_astore (o_x C) (o_b C) hd h3 (Nat.le_of_ble_eq_true hn) rfl (fun ls' h' => k H locs ls' h1 h2 (by rw [List.length_set]; exact asl_put (v := .ref x) hk h'))
theorem r_lstore_n (C : Ok X own cc nL d n1) {j : Fin 4} {x : Int64} (hd : decode cc pc = .ok (.lstore_n j, 1)) (hn : Nat.blt ((j : Nat) + 1) L.length = true) (hk : lok L (j : Nat) = true) (k : Aw X (pc + 1) ((L.set (j : Nat) (some (.long x))).set ((j : Nat) + 1) none) S σ) : Aw X pc L (.long x :: S) σ :=
  fun H locs ls h1 h2 h3 => lv_lstore_n (o_x C) (o_b C) hd rfl h3 (Nat.le_of_ble_eq_true hn) rfl (fun ls' h' => k H locs ls' h1 h2 (by rw [List.length_set, List.length_set]; exact asl_put2 (v := .long x) hk h'))
theorem r_lstore (C : Ok X own cc nL d n1) {j : Nat} {x : Int64} (hd : decode cc pc = .ok (.lstore j, 2)) (hn : Nat.blt (j + 1) L.length = true) (hk : lok L j = true) (k : Aw X (pc + 2) ((L.set j (some (.long x))).set (j + 1) none) S σ) : Aw X pc L (.long x :: S) σ :=
  fun H locs ls h1 h2 h3 => lv_lstore (o_x C) (o_b C) hd h3 (Nat.le_of_ble_eq_true hn) rfl (fun ls' h' => k H locs ls' h1 h2 (by rw [List.length_set, List.length_set]; exact asl_put2 (v := .long x) hk h'))
theorem r_iinc (C : Ok X own cc nL d n1) {j : Nat} {z : Int} {x v : Int32} (hd : decode cc pc = .ok (.iinc j z, 3)) (hl : L[j]? = some (some (.int x))) (hv : Int32.ofInt z = v) (hk : lok L j = true) (k : Aw X (pc + 3) (L.set j (some (.int (x + v)))) S σ) : Aw X pc L S σ := by
  intro H locs ls h1 h2 h3
  subst hv
  obtain ⟨i, hi⟩ := List.getElem?_of_mem (asl_mem (g := x_g X) (L := L) (q := (j, .int x)) |>.mpr ⟨.int x, hl, rfl⟩)
  exact lv_iinc (o_x C) (o_b C) hd h3 hi rfl (List.getElem?_eq_some_iff.mp hl).1 rfl (fun ls' h' => k H locs ls' h1 h2 (by rw [List.length_set]; exact asl_put (v := .int (x + Int32.ofInt z)) hk h'))
theorem r_iadd (C : Ok X own cc nL d n1) {x y : Int32} (hd : decode cc pc = .ok (.iadd, 1)) (k : Aw X (pc + 1) L (.int (x + y) :: S) σ) : Aw X pc L (.int y :: .int x :: S) σ :=
  fun H locs ls h1 h2 h3 => lv_iadd (o_x C) (o_b C) hd (k H locs ls h1 h2 h3)
theorem r_isub (C : Ok X own cc nL d n1) {x y : Int32} (hd : decode cc pc = .ok (.isub, 1)) (k : Aw X (pc + 1) L (.int (x - y) :: S) σ) : Aw X pc L (.int y :: .int x :: S) σ :=
  fun H locs ls h1 h2 h3 => lv_isub (o_x C) (o_b C) hd (k H locs ls h1 h2 h3)
theorem r_imul (C : Ok X own cc nL d n1) {x y : Int32} (hd : decode cc pc = .ok (.imul, 1)) (k : Aw X (pc + 1) L (.int (x * y) :: S) σ) : Aw X pc L (.int y :: .int x :: S) σ :=
  fun H locs ls h1 h2 h3 => lv_imul (o_x C) (o_b C) hd (k H locs ls h1 h2 h3)
theorem r_iand (C : Ok X own cc nL d n1) {x y : Int32} (hd : decode cc pc = .ok (.iand, 1)) (k : Aw X (pc + 1) L (.int (x &&& y) :: S) σ) : Aw X pc L (.int y :: .int x :: S) σ :=
  fun H locs ls h1 h2 h3 => lv_iand (o_x C) (o_b C) hd (k H locs ls h1 h2 h3)
theorem r_ior (C : Ok X own cc nL d n1) {x y : Int32} (hd : decode cc pc = .ok (.ior, 1)) (k : Aw X (pc + 1) L (.int (x ||| y) :: S) σ) : Aw X pc L (.int y :: .int x :: S) σ :=
  fun H locs ls h1 h2 h3 => lv_ior (o_x C) (o_b C) hd (k H locs ls h1 h2 h3)
theorem r_ixor (C : Ok X own cc nL d n1) {x y : Int32} (hd : decode cc pc = .ok (.ixor, 1)) (k : Aw X (pc + 1) L (.int (x ^^^ y) :: S) σ) : Aw X pc L (.int y :: .int x :: S) σ :=
  fun H locs ls h1 h2 h3 => lv_ixor (o_x C) (o_b C) hd (k H locs ls h1 h2 h3)
theorem r_ishl (C : Ok X own cc nL d n1) {x y : Int32} (hd : decode cc pc = .ok (.ishl, 1)) (k : Aw X (pc + 1) L (.int (x <<< (y &&& 31)) :: S) σ) : Aw X pc L (.int y :: .int x :: S) σ :=
  fun H locs ls h1 h2 h3 => lv_ishl (o_x C) (o_b C) hd (k H locs ls h1 h2 h3)
theorem r_ishr (C : Ok X own cc nL d n1) {x y : Int32} (hd : decode cc pc = .ok (.ishr, 1)) (k : Aw X (pc + 1) L (.int (x >>> (y &&& 31)) :: S) σ) : Aw X pc L (.int y :: .int x :: S) σ :=
  fun H locs ls h1 h2 h3 => lv_ishr (o_x C) (o_b C) hd (k H locs ls h1 h2 h3)
theorem r_idiv (C : Ok X own cc nL d n1) {x y : Int32} (hd : decode cc pc = .ok (.idiv, 1)) (hne : ¬ y = 0) (k : Aw X (pc + 1) L (.int (x / y) :: S) σ) : Aw X pc L (.int y :: .int x :: S) σ :=
  fun H locs ls h1 h2 h3 => lv_idiv (o_x C) (o_b C) hd hne (k H locs ls h1 h2 h3)
theorem r_irem (C : Ok X own cc nL d n1) {x y : Int32} (hd : decode cc pc = .ok (.irem, 1)) (hne : ¬ y = 0) (k : Aw X (pc + 1) L (.int (x - x / y * y) :: S) σ) : Aw X pc L (.int y :: .int x :: S) σ :=
  fun H locs ls h1 h2 h3 => lv_irem (o_x C) (o_b C) hd hne (k H locs ls h1 h2 h3)
theorem r_land (C : Ok X own cc nL d n1) {x y : Int64} (hd : decode cc pc = .ok (.land, 1)) (k : Aw X (pc + 1) L (.long (x &&& y) :: S) σ) : Aw X pc L (.long y :: .long x :: S) σ :=
  fun H locs ls h1 h2 h3 => lv_land (o_x C) (o_b C) hd (k H locs ls h1 h2 h3)
theorem r_lor (C : Ok X own cc nL d n1) {x y : Int64} (hd : decode cc pc = .ok (.lor, 1)) (k : Aw X (pc + 1) L (.long (x ||| y) :: S) σ) : Aw X pc L (.long y :: .long x :: S) σ :=
  fun H locs ls h1 h2 h3 => lv_lor (o_x C) (o_b C) hd (k H locs ls h1 h2 h3)
theorem r_iushr (C : Ok X own cc nL d n1) {x y : Int32} (hd : decode cc pc = .ok (.iushr, 1)) (k : Aw X (pc + 1) L (.int ((x.toUInt32 >>> (y.toUInt32 &&& Int32.toUInt32 31)).toInt32) :: S) σ) : Aw X pc L (.int y :: .int x :: S) σ :=
  fun H locs ls h1 h2 h3 => lv_iushr (o_x C) (o_b C) hd rfl (k H locs ls h1 h2 h3)
theorem r_lshl (C : Ok X own cc nL d n1) {x : Int64} {y : Int32} (hd : decode cc pc = .ok (.lshl, 1)) (k : Aw X (pc + 1) L (.long (x <<< (y.toInt64 &&& 63)) :: S) σ) : Aw X pc L (.int y :: .long x :: S) σ :=
  fun H locs ls h1 h2 h3 => lv_lshl (o_x C) (o_b C) hd rfl (k H locs ls h1 h2 h3)
theorem r_lcmp (C : Ok X own cc nL d n1) {x y : Int64} (hd : decode cc pc = .ok (.lcmp, 1)) (k : Aw X (pc + 1) L (.int (lg_cmp x y) :: S) σ) : Aw X pc L (.long y :: .long x :: S) σ :=
  fun H locs ls h1 h2 h3 => W.lcmp (o_x C) (o_b C) hd (k H locs ls h1 h2 h3)
theorem r_ineg (C : Ok X own cc nL d n1) {x : Int32} (hd : decode cc pc = .ok (.ineg, 1)) (k : Aw X (pc + 1) L (.int (-x) :: S) σ) : Aw X pc L (.int x :: S) σ :=
  fun H locs ls h1 h2 h3 => lv_ineg (o_x C) (o_b C) hd (k H locs ls h1 h2 h3)
theorem r_i2l (C : Ok X own cc nL d n1) {x : Int32} (hd : decode cc pc = .ok (.i2l, 1)) (k : Aw X (pc + 1) L (.long (x.toInt64) :: S) σ) : Aw X pc L (.int x :: S) σ :=
  fun H locs ls h1 h2 h3 => lv_i2l (o_x C) (o_b C) hd rfl (k H locs ls h1 h2 h3)
theorem r_l2i (C : Ok X own cc nL d n1) {x : Int64} (hd : decode cc pc = .ok (.l2i, 1)) (k : Aw X (pc + 1) L (.int (x.toInt32) :: S) σ) : Aw X pc L (.long x :: S) σ :=
  fun H locs ls h1 h2 h3 => lv_l2i (o_x C) (o_b C) hd rfl (k H locs ls h1 h2 h3)
theorem r_i2b (C : Ok X own cc nL d n1) {x : Int32} (hd : decode cc pc = .ok (.i2b, 1)) (k : Aw X (pc + 1) L (.int (x.toInt8.toInt32) :: S) σ) : Aw X pc L (.int x :: S) σ :=
  fun H locs ls h1 h2 h3 => lv_i2b (o_x C) (o_b C) hd rfl (k H locs ls h1 h2 h3)
theorem r_i2s (C : Ok X own cc nL d n1) {x : Int32} (hd : decode cc pc = .ok (.i2s, 1)) (k : Aw X (pc + 1) L (.int (x.toInt16.toInt32) :: S) σ) : Aw X pc L (.int x :: S) σ :=
  fun H locs ls h1 h2 h3 => lv_i2s (o_x C) (o_b C) hd rfl (k H locs ls h1 h2 h3)
theorem r_dup (C : Ok X own cc nL d n1) {v : Value} (hd : decode cc pc = .ok (.dup, 1)) (hc : v.category = 1) (k : Aw X (pc + 1) L (v :: v :: S) σ) : Aw X pc L (v :: S) σ :=
  fun H locs ls h1 h2 h3 => lv_dup (o_x C) (o_b C) hd (by rw [cv_cat]; exact hc) (k H locs ls h1 h2 h3)
theorem r_pop (C : Ok X own cc nL d n1) {v : Value} (hd : decode cc pc = .ok (.pop, 1)) (hc : v.category = 1) (k : Aw X (pc + 1) L S σ) : Aw X pc L (v :: S) σ :=
  fun H locs ls h1 h2 h3 => lv_pop (o_x C) (o_b C) hd (by rw [cv_cat]; exact hc) (k H locs ls h1 h2 h3)
theorem r_dup2 (C : Ok X own cc nL d n1) {v w : Value} (hd : decode cc pc = .ok (.dup2, 1)) (hc : v.category = 1) (hw : w.category = 1) (k : Aw X (pc + 1) L (v :: w :: v :: w :: S) σ) : Aw X pc L (v :: w :: S) σ :=
  fun H locs ls h1 h2 h3 => lv_dup2_11 (o_x C) (o_b C) hd (by rw [cv_cat]; exact hc) (by rw [cv_cat]; exact hw) (k H locs ls h1 h2 h3)
theorem r_ifeq (C : Ok X own cc nL d n1) {x : Int32} {off : Int} {tgt : Nat} (hd : decode cc pc = .ok (.ifCond .eq off, 3)) (ht : (pc : Int) + off = (tgt : Int)) (kt : x = 0 → Aw X tgt L S σ) (kf : ¬ x = 0 → Aw X (pc + 3) L S σ) : Aw X pc L (.int x :: S) σ :=
  fun H locs ls h1 h2 h3 => lv_if_eq (o_x C) (o_b C) hd ht (fun h => kt h H locs ls h1 h2 h3) (fun h => kf h H locs ls h1 h2 h3)
theorem r_ifne (C : Ok X own cc nL d n1) {x : Int32} {off : Int} {tgt : Nat} (hd : decode cc pc = .ok (.ifCond .ne off, 3)) (ht : (pc : Int) + off = (tgt : Int)) (kt : ¬ x = 0 → Aw X tgt L S σ) (kf : x = 0 → Aw X (pc + 3) L S σ) : Aw X pc L (.int x :: S) σ :=
  fun H locs ls h1 h2 h3 => lv_if_ne (o_x C) (o_b C) hd ht (fun h => kt h H locs ls h1 h2 h3) (fun h => kf h H locs ls h1 h2 h3)
theorem r_iflt (C : Ok X own cc nL d n1) {x : Int32} {off : Int} {tgt : Nat} (hd : decode cc pc = .ok (.ifCond .lt off, 3)) (ht : (pc : Int) + off = (tgt : Int)) (kt : x < 0 → Aw X tgt L S σ) (kf : ¬ x < 0 → Aw X (pc + 3) L S σ) : Aw X pc L (.int x :: S) σ :=
  fun H locs ls h1 h2 h3 => lv_if_lt (o_x C) (o_b C) hd ht (fun h => kt h H locs ls h1 h2 h3) (fun h => kf h H locs ls h1 h2 h3)
theorem r_ifge (C : Ok X own cc nL d n1) {x : Int32} {off : Int} {tgt : Nat} (hd : decode cc pc = .ok (.ifCond .ge off, 3)) (ht : (pc : Int) + off = (tgt : Int)) (kt : 0 ≤ x → Aw X tgt L S σ) (kf : ¬ 0 ≤ x → Aw X (pc + 3) L S σ) : Aw X pc L (.int x :: S) σ :=
  fun H locs ls h1 h2 h3 => lv_if_ge (o_x C) (o_b C) hd ht (fun h => kt h H locs ls h1 h2 h3) (fun h => kf h H locs ls h1 h2 h3)
theorem r_ifgt (C : Ok X own cc nL d n1) {x : Int32} {off : Int} {tgt : Nat} (hd : decode cc pc = .ok (.ifCond .gt off, 3)) (ht : (pc : Int) + off = (tgt : Int)) (kt : 0 < x → Aw X tgt L S σ) (kf : ¬ 0 < x → Aw X (pc + 3) L S σ) : Aw X pc L (.int x :: S) σ :=
  fun H locs ls h1 h2 h3 => lv_if_gt (o_x C) (o_b C) hd ht (fun h => kt h H locs ls h1 h2 h3) (fun h => kf h H locs ls h1 h2 h3)
theorem r_ifle (C : Ok X own cc nL d n1) {x : Int32} {off : Int} {tgt : Nat} (hd : decode cc pc = .ok (.ifCond .le off, 3)) (ht : (pc : Int) + off = (tgt : Int)) (kt : x ≤ 0 → Aw X tgt L S σ) (kf : ¬ x ≤ 0 → Aw X (pc + 3) L S σ) : Aw X pc L (.int x :: S) σ :=
  fun H locs ls h1 h2 h3 => lv_if_le (o_x C) (o_b C) hd ht (fun h => kt h H locs ls h1 h2 h3) (fun h => kf h H locs ls h1 h2 h3)
theorem r_iceq (C : Ok X own cc nL d n1) {x y : Int32} {off : Int} {tgt : Nat} (hd : decode cc pc = .ok (.if_icmp .eq off, 3)) (ht : (pc : Int) + off = (tgt : Int)) (kt : x = y → Aw X tgt L S σ) (kf : ¬ x = y → Aw X (pc + 3) L S σ) : Aw X pc L (.int y :: .int x :: S) σ :=
  fun H locs ls h1 h2 h3 => lv_icmp_eq (o_x C) (o_b C) hd ht (fun h => kt h H locs ls h1 h2 h3) (fun h => kf h H locs ls h1 h2 h3)
theorem r_icne (C : Ok X own cc nL d n1) {x y : Int32} {off : Int} {tgt : Nat} (hd : decode cc pc = .ok (.if_icmp .ne off, 3)) (ht : (pc : Int) + off = (tgt : Int)) (kt : ¬ x = y → Aw X tgt L S σ) (kf : x = y → Aw X (pc + 3) L S σ) : Aw X pc L (.int y :: .int x :: S) σ :=
  fun H locs ls h1 h2 h3 => lv_icmp_ne (o_x C) (o_b C) hd ht (fun h => kt h H locs ls h1 h2 h3) (fun h => kf h H locs ls h1 h2 h3)
theorem r_iclt (C : Ok X own cc nL d n1) {x y : Int32} {off : Int} {tgt : Nat} (hd : decode cc pc = .ok (.if_icmp .lt off, 3)) (ht : (pc : Int) + off = (tgt : Int)) (kt : x < y → Aw X tgt L S σ) (kf : ¬ x < y → Aw X (pc + 3) L S σ) : Aw X pc L (.int y :: .int x :: S) σ :=
  fun H locs ls h1 h2 h3 => lv_icmp_lt (o_x C) (o_b C) hd ht (fun h => kt h H locs ls h1 h2 h3) (fun h => kf h H locs ls h1 h2 h3)
theorem r_icge (C : Ok X own cc nL d n1) {x y : Int32} {off : Int} {tgt : Nat} (hd : decode cc pc = .ok (.if_icmp .ge off, 3)) (ht : (pc : Int) + off = (tgt : Int)) (kt : y ≤ x → Aw X tgt L S σ) (kf : ¬ y ≤ x → Aw X (pc + 3) L S σ) : Aw X pc L (.int y :: .int x :: S) σ :=
  fun H locs ls h1 h2 h3 => lv_icmp_ge (o_x C) (o_b C) hd ht (fun h => kt h H locs ls h1 h2 h3) (fun h => kf h H locs ls h1 h2 h3)
theorem r_icgt (C : Ok X own cc nL d n1) {x y : Int32} {off : Int} {tgt : Nat} (hd : decode cc pc = .ok (.if_icmp .gt off, 3)) (ht : (pc : Int) + off = (tgt : Int)) (kt : y < x → Aw X tgt L S σ) (kf : ¬ y < x → Aw X (pc + 3) L S σ) : Aw X pc L (.int y :: .int x :: S) σ :=
  fun H locs ls h1 h2 h3 => lv_icmp_gt (o_x C) (o_b C) hd ht (fun h => kt h H locs ls h1 h2 h3) (fun h => kf h H locs ls h1 h2 h3)
theorem r_icle (C : Ok X own cc nL d n1) {x y : Int32} {off : Int} {tgt : Nat} (hd : decode cc pc = .ok (.if_icmp .le off, 3)) (ht : (pc : Int) + off = (tgt : Int)) (kt : x ≤ y → Aw X tgt L S σ) (kf : ¬ x ≤ y → Aw X (pc + 3) L S σ) : Aw X pc L (.int y :: .int x :: S) σ :=
  fun H locs ls h1 h2 h3 => lv_icmp_le (o_x C) (o_b C) hd ht (fun h => kt h H locs ls h1 h2 h3) (fun h => kf h H locs ls h1 h2 h3)
theorem r_goto (C : Ok X own cc nL d n1) {off : Int} {tgt : Nat} (hd : decode cc pc = .ok (.goto off, 3)) (ht : (pc : Int) + off = (tgt : Int)) (k : Aw X tgt L S σ) : Aw X pc L S σ :=
  fun H locs ls h1 h2 h3 => lv_goto (o_x C) (o_b C) hd ht (k H locs ls h1 h2 h3)
theorem r_tabIn (C : Ok X own cc nL d n1) {dflt lo hi : Int} {offs : Array Int} {len : Nat} {x : Int32} {off : Int} {tgt : Nat} (hd : decode cc pc = .ok (.tableswitch dflt lo hi offs, len)) (h1 : ¬ x.toInt < lo) (h2 : ¬ hi < x.toInt) (ho : offs[(x.toInt - lo).toNat]? = some off) (ht : (pc : Int) + off = (tgt : Int)) (k : Aw X tgt L S σ) : Aw X pc L (.int x :: S) σ :=
  fun H locs ls g1 g2 g3 => lv_tableIn (o_x C) (o_b C) hd h1 h2 ho ht (k H locs ls g1 g2 g3)
theorem r_tabOut (C : Ok X own cc nL d n1) {dflt lo hi : Int} {offs : Array Int} {len : Nat} {x : Int32} {tgt : Nat} (hd : decode cc pc = .ok (.tableswitch dflt lo hi offs, len)) (h : x.toInt < lo ∨ hi < x.toInt) (ht : (pc : Int) + dflt = (tgt : Int)) (k : Aw X tgt L S σ) : Aw X pc L (.int x :: S) σ :=
  fun H locs ls g1 g2 g3 => lv_tableOut (o_x C) (o_b C) hd h ht (k H locs ls g1 g2 g3)
theorem r_lookup (C : Ok X own cc nL d n1) {dflt : Int} {ps : Array (Int × Int)} {len : Nat} {x : Int32} {off : Int} {tgt : Nat} (hd : decode cc pc = .ok (.lookupswitch dflt ps, len)) (hp : (ps.toList.zip (ps.toList.drop 1)).all (fun (a, next) => a.1 < next.1) = true) (ho : Op.lookupswitch.offset ps.toList dflt x.toInt = off) (ht : (pc : Int) + off = (tgt : Int)) (k : Aw X tgt L S σ) : Aw X pc L (.int x :: S) σ :=
  fun H locs ls g1 g2 g3 => lv_lookup (o_x C) (o_b C) hd hp ho ht (k H locs ls g1 g2 g3)
/-- the field that an entry of the constant pool names -/
def Lf (own : String) (idx c k : Nat) : Prop := c < 11 ∧ k < nfOf c ∧ Cond.fieldLink own idx (fdOf c k).1 (fdOf c k).2.1 (fdOf c k).2.2.1 ∈ Wall
theorem kd_lo {t c : Nat} (h : kd t = c) (hc : c < 99) : t < 1000 := Nat.lt_of_lt_of_le (kd_lt (by rw [h]; exact hc)) (by decide)
theorem wd_P {g : Gb} {H : Heap} {t : Nat} (h : Wd g σ H) (ht : t < σ.1) {e : va_E} (he : cellOf g σ t = e) : va_P (g_D g) vwCl [(g_b g + t, e)] H := by
  intro k q hk
  match k, hk with
  | 0, hk => cases hk; rw [← he]; exact h.2 t ht
  | n + 1, hk => cases hk
theorem fv_i {g : Gb} {c t k : Nat} (h : isI (tyOf c k) = true) : fv g σ c t k = .int (σ.2.1 t k) := by unfold fv; rw [if_pos h]
theorem fv_r {g : Gb} {c t k r : Nat} (h : isI (tyOf c k) = false) (hr : σ.2.2.2 t k = some r) : fv g σ c t k = .ref (ad g r) := by
  unfold fv
  rw [if_neg (by rw [h]; decide), hr]
theorem r_get (C : Ok X own cc nL d n1) {idx c k t : Nat} {v : Value} (hl : Lf own idx c k) (hd : decode cc pc = .ok (.getfield idx, 3)) (hc : chk σ.1 t c = true) (hv : fv (x_g X) σ c t k = cv (x_g X) v) (kk : Aw X (pc + 3) L (v :: S) σ) : Aw X pc L (.ref t :: S) σ := by
  intro H locs ls h1 h2 h3
  obtain ⟨hc11, hk, hw⟩ := hl
  have hkd := chk_kd hc
  have e : ad (x_g X) t = g_b (x_g X) + t := ad_lo (kd_lo hkd (by omega))
  have hP := wd_P h1 (chk_lt hc) (cellOf_obj (g := x_g X) (σ := σ) hkd hc11)
  show W _ _ _ _ _ _ _ _ _ _ _ _ _ _ _ (F0 _ pc ls (.ref (ad (x_g X) t) :: S.map (cv (x_g X))))
  rw [e]
  exact va_get (D := g_D (x_g X)) (ci := c) (v := cv (x_g X) v) (C := nmOf c) (T := fdOf c) (N := nfOf c) (o_x C) (o_b C) (o_ts C) (fw_all c hc11) (o_own C) (o_K C) hP 0 rfl (cl_of c hc11) k hk (o_ts C _ hw) (fun _ h9 => h9) (by rw [fvs_at hk, hv]) hd (kk H locs ls h1 h2 h3)
theorem r_getI (C : Ok X own cc nL d n1) {idx c k t : Nat} {n : Nat} {I : Nat → Nat → Int32} {J : Nat → Nat → Int64} {R : Nat → Nat → Option Nat} (hl : Lf own idx c k) (hd : decode cc pc = .ok (.getfield idx, 3)) (hc : chk n t c = true) (hi : isI (tyOf c k) = true) (kk : Aw X (pc + 3) L (.int (I t k) :: S) (n, I, J, R)) : Aw X pc L (.ref t :: S) (n, I, J, R) :=
  r_get C hl hd hc (v := .int (I t k)) (fv_i hi) kk
theorem r_getR (C : Ok X own cc nL d n1) {idx c k t r : Nat} {n : Nat} {I : Nat → Nat → Int32} {J : Nat → Nat → Int64} {R : Nat → Nat → Option Nat} (hl : Lf own idx c k) (hd : decode cc pc = .ok (.getfield idx, 3)) (hc : chk n t c = true) (hi : isI (tyOf c k) = false) (hr : R t k = some r) (kk : Aw X (pc + 3) L (.ref r :: S) (n, I, J, R)) : Aw X pc L (.ref t :: S) (n, I, J, R) :=
  r_get C hl hd hc (v := .ref r) (fv_r hi hr) kk
/-- a store into a field: what the state is behind it is told by its cells -/
theorem put_core (C : Ok X own cc nL d n1) {idx c k t : Nat} {v : Value} {σ' : St} (hl : Lf own idx c k) (hd : decode cc pc = .ok (.putfield idx, 3)) (hf : (fdOf c k).2.2.2 = false ∨ ((fdOf c k).2.2.2 = true ∧ (x_me X).name = "<init>" ∧ (fdOf c k).1 = own)) (hc : chk σ.1 t c = true)
    (hn : narrow (tyOf c k) (cv (x_g X) v) = cv (x_g X) v) (hfit : fits (tyOf c k) (cv (x_g X) v) = true) (hz : σ'.1 = σ.1) (hv : fv (x_g X) σ' c t k = cv (x_g X) v) (hvo : ∀ j, j ≠ k → fv (x_g X) σ' c t j = fv (x_g X) σ c t j) (hoth : ∀ t', t' ≠ t → cellOf (x_g X) σ' t' = cellOf (x_g X) σ t')
    (kk : Aw X (pc + 3) L S σ') : Aw X pc L (v :: .ref t :: S) σ := by
  intro H locs ls h1 h2 h3
  obtain ⟨hc11, hk, hw⟩ := hl
  have hkd := chk_kd hc
  have e : ad (x_g X) t = g_b (x_g X) + t := ad_lo (kd_lo hkd (by omega))
  have hcell := h1.2 t (chk_lt hc)
  rw [cellOf_obj hkd hc11] at hcell
  have hin := fw_all c hc11
  have hts := o_ts C
  have hK := o_K C
  have hap := va_apart (own := own) hts hin (tyOf c) (ty_ok c hc11) (nm_ok c hc11) hK (cl_of c hc11)
  obtain ⟨r, g1, cell, q1, q2, q3, q4⟩ := hcell
  have hr : r = (nmOf c, fdOf c, nfOf c) := Option.some.inj (g1.symm.trans (cl_of c hc11))
  subst hr
  obtain ⟨hS, hfc, kC, hkC, hkind⟩ := hK.1 c _ (cl_of c hc11)
  obtain ⟨cf, kf, fi, f, hi, hsl⟩ := hS k hk
  have hst := (u_facts hfc hkC (u_lays hts hin hk) hi).1
  have hlay := hts _ (hin _ (u_in_lay hk))
  unfold u_lay at hlay
  have fin : ∀ (H' : Heap) (z : Nat), H'[g_b (x_g X) + t]? = some (cell.setSlot f.slot (cv (x_g X) v)) → H'.size = H.size → (∀ q, q ≠ g_b (x_g X) + t → H'[q]? = H[q]?) → W (x_p X) (g_l (x_g X)) (x_e X) (x_R X) (x_s X) (x_m X) (x_a X) (x_be X) (x_me X) (x_c X) H' (locs ++ [⟨g_b (x_g X) + t, z⟩]) (σ.1 - x_n X) (ss σ.1 - ss (x_n X)) (x_Q X) (F0 (x_m X) (pc + 3) ls (S.map (cv (x_g X)))) := by
    intro H' z e1 e2 e3
    rw [hsl] at e1
    have hlen : k < (fvs (x_g X) σ c t).length := by rw [fvs_len]; exact hk
    have hob : va_at (g_D (x_g X)) vwCl (g_b (x_g X) + t, cellOf (x_g X) σ' t) H' := by
      rw [cellOf_obj hkd hc11]
      refine ⟨_, cl_of c hc11, t_OB.to (V := updV (vp_V (fvs (x_g X) σ c t)) k (cv (x_g X) v)) ⟨_, e1, q2, q3, t_set q4 hap hk (cv (x_g X) v)⟩ (fun j hj => ?_)⟩
      show _ = (fvs (x_g X) σ' c t).getD j .null
      rw [List.getD_eq_getElem?_getD, fvs_at hj]
      unfold updV vp_V
      rw [List.getD_eq_getElem?_getD, fvs_at hj]
      by_cases hjk : j = k
      · rw [if_pos hjk, hjk, hv]; rfl
      · rw [if_neg hjk, hvo j hjk]
    have hW' : Wd (x_g X) σ' H' := h1.upd hz e2 e3 hob hoth
    rw [← hz]
    exact kk H' _ ls hW' (h2.put e2 e3 (Nat.le_add_right _ _)) h3
  show W _ _ _ _ _ _ _ _ _ _ _ _ _ _ _ (F0 _ pc ls (cv (x_g X) v :: .ref (ad (x_g X) t) :: S.map (cv (x_g X))))
  rw [e]
  have hdp := ty_ok c hc11 k hk
  rcases hf with hf | ⟨hf, hin2, hdecl⟩
  · rw [if_neg (by rw [hf]; decide)] at hlay
    have h6 := u_store hfc hkC hkind hlay hi hdp hn hfit
    exact W.putK (o_x C) (o_b C) (f := f) ⟨o_own C, hts _ hw, ⟨_, _, _, hi⟩, hst⟩ (by rw [q2]; exact h6) q1 q3 (by rw [hsl]; exact k2_hasslot (q4 k hk)) rfl rfl hd (fun H' e1 e2 e3 => fin H' _ e1 e2 e3)
  · rw [if_pos hf] at hlay
    have hcf : (x_m X).cls = cf := by
      obtain ⟨_, _, c', _, _, _, -, -, hf', -, -, -, hown2, -⟩ := Cond.laysFinal_spec hlay
      have e1 : c' = cf := by have := hi.symm.trans hf'; simp at this; exact this.1.symm
      rw [hdecl] at hown2
      rw [← e1]; exact Option.some.inj ((o_own C).symm.trans hown2)
    have h6 := u_fits hfc hkC hkind (Or.inr hlay) hi hdp hn hfit
    exact W.putFinK (o_x C) (o_b C) (o_own C) (hts _ hw) hi hst hcf hin2 (by rw [q2]; exact h6) q1 q3 (by rw [hsl]; exact k2_hasslot (q4 k hk)) rfl rfl hd (fun H' e1 e2 e3 => fin H' _ e1 e2 e3)
theorem r_putI (C : Ok X own cc nL d n1) {idx c k t : Nat} {v : Int32} {n : Nat} {I : Nat → Nat → Int32} {J : Nat → Nat → Int64} {R : Nat → Nat → Option Nat} (hl : Lf own idx c k) (hd : decode cc pc = .ok (.putfield idx, 3)) (hc : chk n t c = true) (hi : isI (tyOf c k) = true) (hf : (fdOf c k).2.2.2 = false)
    (hn : narrow (tyOf c k) (.int v) = .int v) (hfit : fits (tyOf c k) (.int v) = true) (kk : Aw X (pc + 3) L S (n, u2 I t k v, J, R)) : Aw X pc L (.int v :: .ref t :: S) (n, I, J, R) :=
  put_core C (v := .int v) (σ' := (n, u2 I t k v, J, R)) hl hd (Or.inl hf) hc hn hfit rfl (by rw [fv_i hi]; show Value.int (u2 I t k v t k) = _; rw [u2_same]; rfl)
    (fun j hj => by unfold fv; show (if _ then Value.int (u2 I t k v t j) else _) = _; rw [u2_ne I t k v (Or.inr hj)]) (fun t' ht' => cellOf_congr (u2_row ht') rfl rfl) kk
theorem r_putR (C : Ok X own cc nL d n1) {idx c k t r : Nat} {n : Nat} {I : Nat → Nat → Int32} {J : Nat → Nat → Int64} {R : Nat → Nat → Option Nat} (hl : Lf own idx c k) (hd : decode cc pc = .ok (.putfield idx, 3)) (hf : (fdOf c k).2.2.2 = false ∨ ((fdOf c k).2.2.2 = true ∧ (x_me X).name = "<init>" ∧ (fdOf c k).1 = own)) (hc : chk n t c = true) (hi : isI (tyOf c k) = false)
    (hn : ∀ a, narrow (tyOf c k) (.ref a) = .ref a) (hfit : ∀ a, fits (tyOf c k) (.ref a) = true) (kk : Aw X (pc + 3) L S (n, I, J, u2 R t k (some r))) : Aw X pc L (.ref r :: .ref t :: S) (n, I, J, R) :=
  put_core C (v := .ref r) (σ' := (n, I, J, u2 R t k (some r))) hl hd hf hc (hn _) (hfit _) rfl (fv_r hi (u2_same R t k (some r)))
    (fun j hj => by unfold fv; show (if _ then Value.int (I t j) else match u2 R t k (some r) t j with | none => _ | some r => _) = _; rw [u2_ne R t k _ (Or.inr hj)]) (fun t' ht' => cellOf_congr rfl rfl (u2_row ht')) kk

end RULES
