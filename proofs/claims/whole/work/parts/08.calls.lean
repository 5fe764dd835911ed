/-! calls, returns, the entry of a method -/
abbrev Mt : Type := MethodName × ByteArray × Nat × Option FieldType
def rmD (d mc ms : Nat) : Room := { frames := d, cells := mc, slots := ms, locals := 64 * d }
def PcW (g : Gb) (av : List Value) (σ : St) : Array Value → State → Prop := fun v U => v = (av.map (cv g)).toArray ∧ Wd g σ U.heap ∧ va_K (g_D g) vwCl (tysG g) U ∧ Ro g U U.heap ∧ g_b g ≤ U.heap.size
def QcW (g : Gb) (n1 : Nat) (Q : Option Value → St → Prop) : Array Value → State → Outcome → State → Prop := fun _ st oc t =>
  (∃ (r : Option Value) (σ' : St), oc = .returned (r.map (cv g)) ∧ Q r σ' ∧ σ'.1 = n1 ∧ Wd g σ' t.heap ∧ va_K (g_D g) vwCl (tysG g) t) ∧ st.heap.size ≤ t.heap.size ∧ ∀ q : Nat, q < st.heap.size → ¬ g_b g ≤ q → t.heap[q]? = st.heap[q]?
/-- the contract of a method: from the state σ with these arguments it comes back, with n1 cells, and Q holds of its answer and of the state behind -/
def MC (g : Gb) (d : Nat) (M : Mt) (av : List Value) (σ : St) (n1 : Nat) (Q : Option Value → St → Prop) : Prop :=
  Met (g_l g) M.1 (Cond.code M.1 M.2.1 M.2.2.1 M.2.2.2 :: Wall) (rmD d (n1 - σ.1) (ss n1 - ss σ.1)) (PcW g av σ) (QcW g n1 Q) (n1 - σ.1) (ss n1 - ss σ.1) (fun q => g_b g ≤ q)
/-- the end that X asks for is that of a contract -/
def Rt (X : Cx) (ret : Option FieldType) (n1 : Nat) (Q : Option Value → St → Prop) : Prop :=
  (x_me X).sig.returnType = ret ∧ x_Q X = MQ (x_be X) (QcW (x_g X) n1 Q) (x_a X) (x_s X) (n1 - x_n X) (ss n1 - ss (x_n X)) (fun q => g_b (x_g X) ≤ q)
theorem PcW_blind (g : Gb) (av : List Value) (σ : St) : FrameBlind (PcW g av σ) := by
  intro a U f mk h
  obtain ⟨h1, h2, h3, h4, h5⟩ := h
  exact ⟨h1, h2, va_K.moved (u := U) (U := U.calling f mk a) (Vm.Alike.refl U.vm) h3, Ro.moved (u := U) (U := U.calling f mk a) (Vm.Alike.refl U.vm) h4, h5⟩
theorem entA_len (g : Gb) (av : List Value) : (entA av).length = (lg_sl (av.map (cv g))).length := by
  induction av with
  | nil => rfl
  | cons v r ih =>
    cases v <;> simp [entA, lg_sl, cv, Value.category] at ih ⊢ <;> omega
theorem entA_args (g : Gb) (av : List Value) : ∀ (k i : Nat) (v : Value), (entA av)[i]? = some (some v) → (k + i, cv g v) ∈ lv_args k (av.map (cv g)) := by
  induction av with
  | nil => intro k i v h; simp [entA] at h
  | cons w r ih =>
    intro k i v h
    have one : w.category = 1 → entA (w :: r) = some w :: entA r → (k + i, cv g v) ∈ lv_args k ((w :: r).map (cv g)) := by
      intro hc he
      rw [he] at h
      show _ ∈ (k, cv g w) :: lv_args (if (cv g w).category = 2 then k + 2 else k + 1) (r.map (cv g))
      rw [if_neg (by rw [cv_cat, hc]; decide)]
      cases i with
      | zero => simp at h; subst h; exact List.mem_cons_self
      | succ i =>
        simp at h
        have := ih (k + 1) i v h
        rw [show k + (i + 1) = k + 1 + i by omega]
        exact List.mem_cons_of_mem _ this
    have two : w.category = 2 → entA (w :: r) = some w :: none :: entA r → (k + i, cv g v) ∈ lv_args k ((w :: r).map (cv g)) := by
      intro hc he
      rw [he] at h
      show _ ∈ (k, cv g w) :: lv_args (if (cv g w).category = 2 then k + 2 else k + 1) (r.map (cv g))
      rw [if_pos (by rw [cv_cat, hc])]
      match i, h with
      | 0, h => simp at h; subst h; exact List.mem_cons_self
      | 1, h => simp at h
      | i + 2, h =>
        simp at h
        have := ih (k + 2) i v h
        rw [show k + (i + 2) = k + 2 + i by omega]
        exact List.mem_cons_of_mem _ this
    cases w <;> first | exact one rfl rfl | exact two rfl rfl
theorem ent_lv (g : Gb) (av : List Value) {nL : Nat} (hn : (entA av).length ≤ nL) : lv_has ((lg_sl (av.map (cv g)) ++ List.replicate (nL - (lg_sl (av.map (cv g))).length) Slot.unset).toArray) (ent nL av).length (asl g (ent nL av)) := by
  have h := lv_entry (av.map (cv g)) (n := nL) (by rw [← entA_len g]; exact hn)
  have hl : (ent nL av).length = nL := by unfold ent; rw [List.length_append, List.length_replicate]; omega
  rw [hl]
  refine ⟨h.1, h.2.1, fun q hq => h.2.2 q ?_⟩
  obtain ⟨v, hv, e⟩ := asl_mem.mp hq
  unfold ent at hv
  by_cases hlt : q.1 < (entA av).length
  · rw [List.getElem?_append_left hlt] at hv
    have := entA_args g av 0 q.1 v hv
    rw [Nat.zero_add, ← e] at this
    exact this
  · rw [List.getElem?_append_right (by omega)] at hv
    have := List.mem_of_getElem? hv
    rw [List.mem_replicate] at this
    cases this.2
theorem mc_entry {g : Gb} {d : Nat} {M : Mt} {av : List Value} {σ : St} {n1 : Nat} {Q : Option Value → St → Prop} {own : String} (hpl : plainName M.1.cls = true) (hown : M.1.cls = own) (hn : Nat.ble (entA av).length M.2.2.1 = true)
    (h : ∀ X : Cx, x_g X = g → x_n X = σ.1 → Ok X own M.2.1 M.2.2.1 d n1 → Rt X M.2.2.2 n1 Q → (x_me X).name = M.1.name → Aw X 0 (ent M.2.2.1 av) [] σ) : MC g d M av σ n1 Q := by
  unfold MC
  refine Met.ofW (cc := M.2.1) (maxL := M.2.2.1) (ret := M.2.2.2) hpl rfl ?_
  intro p e s m args below meth c s₁ B hml hv
  obtain ⟨rfl, hW, hK, hRo, hsz⟩ := hv
  have hts := atoms_spec (ws := Cond.code M.1 M.2.1 M.2.2.1 M.2.2.2 :: Wall) B.pre
  have hown' : s.vm.findClass own = some m.cls := hown ▸ findClass_of_methodNamed B.named
  have hmn : meth.name = M.1.name := (name_of_methodNamed B.named B.method).1
  have k := h (g, p, e, (headSpec (Cond.code M.1 M.2.1 M.2.2.1 M.2.2.2 :: Wall) (rmD d (n1 - σ.1) (ss n1 - ss σ.1))).room, s, m, (av.map (cv g)).toArray, below, meth, c, MQ below (QcW g n1 Q) (av.map (cv g)).toArray s (n1 - σ.1) (ss n1 - ss σ.1) (fun q => g_b g ≤ q), σ.1) rfl rfl
    ⟨B.exec, B.bytes, hml, hown', fun w hw => hts w (List.mem_cons_of_mem _ hw), hK, hRo, hsz, B.notSynchronized, Nat.le_refl _, Nat.le_refl _, Nat.le_refl _, Nat.le_refl _⟩ ⟨B.returns, rfl⟩ hmn
  have hn' : (entA av).length ≤ M.2.2.1 := Nat.le_of_ble_eq_true hn
  have k' := k s.heap [] _ hW va_S.rf (ent_lv g av hn')
  have e1 : σ.1 - x_n (g, p, e, (headSpec (Cond.code M.1 M.2.1 M.2.2.1 M.2.2.2 :: Wall) (rmD d (n1 - σ.1) (ss n1 - ss σ.1))).room, s, m, (av.map (cv g)).toArray, below, meth, c, MQ below (QcW g n1 Q) (av.map (cv g)).toArray s (n1 - σ.1) (ss n1 - ss σ.1) (fun q => g_b g ≤ q), σ.1) = 0 := Nat.sub_self _
  have e2 : ss σ.1 - ss (x_n (g, p, e, (headSpec (Cond.code M.1 M.2.1 M.2.2.1 M.2.2.2 :: Wall) (rmD d (n1 - σ.1) (ss n1 - ss σ.1))).room, s, m, (av.map (cv g)).toArray, below, meth, c, MQ below (QcW g n1 Q) (av.map (cv g)).toArray s (n1 - σ.1) (ss n1 - ss σ.1) (fun q => g_b g ≤ q), σ.1)) = 0 := Nat.sub_self _
  rw [e1, e2] at k'
  rw [lg_entry_eq]
  exact k'
section RULES3
variable {X : Cx} {own : String} {cc : ByteArray} {nL d n1 : Nat} {pc : Nat} {L : List (Option Value)} {S : List Value} {σ : St} {n : Nat} {I : Nat → Nat → Int32} {J : Nat → Nat → Int64} {R : Nat → Nat → Option Nat} {Q : Option Value → St → Prop}
theorem ret_qc (C : Ok X own cc nL d n1) (h1 : σ.1 = n1) {r : Option Value} (hq : Q r σ) {H : Heap} {locs : List Loc} (hW : Wd (x_g X) σ H) (hS : va_S (fun q => g_b (x_g X) ≤ q) (x_s X).heap H locs) :
    ∀ t : State, t.heap = H → (x_s X).WarmedH t.vm → QcW (x_g X) n1 Q (x_a X) (x_s X) (.returned (r.map (cv (x_g X)))) t :=
  fun t ht hw => ⟨⟨r, σ, rfl, hq, h1, by rw [ht]; exact hW, va_K.moved hw.alike (o_K C)⟩, by rw [ht]; exact hS.1, fun q z1 z2 => by rw [ht]; exact hS.2.1 q z1 z2⟩
theorem r_iret (C : Ok X own cc nL d n1) (Z : Rt X (some .int) n1 Q) (h1 : σ.1 = n1) {v : Int32} (hd : decode cc pc = .ok (.ireturn, 1)) (hq : Q (some (.int v)) σ) : Aw X pc L [.int v] σ := by
  intro H locs ls g1 g2 g3
  rw [Z.2, h1]
  exact W.iret (o_x C) (o_b C) Z.1 (ret_qc C h1 (r := some (.int v)) hq g1 g2) g2.2.2 hd (o_lk C)
theorem r_zret (C : Ok X own cc nL d n1) (Z : Rt X (some .boolean) n1 Q) (h1 : σ.1 = n1) {v : Int32} (hd : decode cc pc = .ok (.ireturn, 1)) (hn : narrow .boolean (.int v) = .int v) (hq : Q (some (.int v)) σ) : Aw X pc L [.int v] σ := by
  intro H locs ls g1 g2 g3
  rw [Z.2, h1]
  exact W.zret (o_x C) (o_b C) Z.1 hn (ret_qc C h1 (r := some (.int v)) hq g1 g2) g2.2.2 hd (o_lk C)
theorem r_lret (C : Ok X own cc nL d n1) (Z : Rt X (some .long) n1 Q) (h1 : σ.1 = n1) {v : Int64} (hd : decode cc pc = .ok (.lreturn, 1)) (hq : Q (some (.long v)) σ) : Aw X pc L [.long v] σ := by
  intro H locs ls g1 g2 g3
  rw [Z.2, h1]
  exact W.lret (o_x C) (o_b C) Z.1 (ret_qc C h1 (r := some (.long v)) hq g1 g2) g2.2.2 hd (o_lk C)
theorem r_aret (C : Ok X own cc nL d n1) {c : String} (Z : Rt X (some (.object c)) n1 Q) (h1 : σ.1 = n1) {t : Nat} (hd : decode cc pc = .ok (.areturn, 1)) (hq : Q (some (.ref t)) σ) : Aw X pc L [.ref t] σ := by
  intro H locs ls g1 g2 g3
  rw [Z.2, h1]
  exact W.aret (v := .ref (ad (x_g X) t)) (o_x C) (o_b C) Z.1 (Or.inl ⟨c, rfl⟩) (Or.inr ⟨_, rfl⟩) (ret_qc C h1 (r := some (.ref t)) hq g1 g2) g2.2.2 hd (o_lk C)
theorem r_vret (C : Ok X own cc nL d n1) (Z : Rt X none n1 Q) (h1 : σ.1 = n1) (hd : decode cc pc = .ok (.return_, 1)) (hq : Q none σ) : Aw X pc L [] σ := by
  intro H locs ls g1 g2 g3
  rw [Z.2, h1]
  exact W.vret (o_x C) (o_b C) Z.1 (ret_qc C h1 (r := none) hq g1 g2) g2.2.2 hd (o_lk C)
/-- what a call needs of its method -/
def mOk (M : Mt) (k : Nat) : Prop := Cond.code M.1 M.2.1 M.2.2.1 M.2.2.2 ∈ Wall ∧ Cond.initialized M.1.cls ∈ Wall ∧ (M.1.cls ≠ "java/lang/invoke/MethodHandle" ∧ M.1.cls ≠ "java/lang/invoke/VarHandle") ∧ (parseMethodDescriptor M.1.desc).map (fun d => d.parameters.length) = some k ∧ M.2.2.1 ≤ 45
theorem call_B (C : Ok X own cc nL d n1) {M : Mt} {k d' mc ms idx : Nat} (hM : mOk M k) (hl : Cond.methodLink own idx M.1 ∈ Wall) (hdd : d' + 1 ≤ d) : CallB (x_R X) (x_s X) (x_a X) own idx M.1 M.2.1 M.2.2.1 M.2.2.2 (Cond.code M.1 M.2.1 M.2.2.1 M.2.2.2 :: Wall) (rmD d' mc ms) mc ms k := by
  obtain ⟨q1, q2, q3, q4, q5⟩ := hM
  obtain ⟨r1, r2, -, -⟩ := o_rm C
  refine callB_of k (o_ts C) (wall_goodIn fun w hw => ?_) rfl rfl rfl (o_ts C _ q2) (o_ts C _ hl) ⟨q3.1, q3.2, q4⟩ ⟨?_, ?_⟩
  · rcases List.mem_cons.mp hw with rfl | h
    · exact q1
    · exact h
  · show d' + 1 ≤ _
    omega
  · show 8 + (M.2.2.1 + 11) + 64 * d' ≤ _
    omega
theorem call_end (C : Ok X own cc nL d n1) {H : Heap} {locs : List Loc} {ls : Array Slot} {g0 : JFrame} {rest : List Value} {n1' : Nat} {Q' : Option Value → St → Prop} {aa : Array Value} (hx : x_n X ≤ σ.1) (hn : σ.1 ≤ n1') (hn9 : n1' ≤ 91)
    (hg : { g0 with pc := g0.pc + 3, stack := [] } = F0 (x_m X) (pc + 3) ls [])
    (hr : va_Run (x_p X) (g_l (x_g X)) (x_e X) (x_R X) (x_s X) (x_m X) (x_a X) (x_be X) (x_me X) (x_c X) H locs (σ.1 - x_n X) (ss σ.1 - ss (x_n X)) (n1' - σ.1) (ss n1' - ss σ.1) g0 (rest.map (cv (x_g X))) (QcW (x_g X) n1' Q' aa) (fun q => g_b (x_g X) ≤ q))
    (h2 : va_S (fun q => g_b (x_g X) ≤ q) (x_s X).heap H locs) (h3 : lv_has ls L.length (asl (x_g X) L))
    (k : ∀ (v : Option Value) (σ' : St), Q' v σ' → σ'.1 = n1' → Aw X (pc + 3) L (v.toList ++ rest) σ') :
    W (x_p X) (g_l (x_g X)) (x_e X) (x_R X) (x_s X) (x_m X) (x_a X) (x_be X) (x_me X) (x_c X) H locs (σ.1 - x_n X) (ss σ.1 - ss (x_n X)) (x_Q X) g0 := by
  intro T hT X0
  obtain ⟨v, st₀, t, T', L2, h0, X'', hL, e1, e2, hq, st⟩ := hr T hT X0
  obtain ⟨⟨r, σ', hv, hq', hz, hW, -⟩, hsz, hkp⟩ := hq
  cases hv
  rw [h0] at hsz hkp
  have m1 : ss (x_n X) ≤ ss σ.1 := ss_mono hx (by omega)
  have m2 : ss σ.1 ≤ ss n1' := ss_mono hn hn9
  have c1 : σ'.1 - x_n X = σ.1 - x_n X + (n1' - σ.1) := by omega
  have c2 : ss σ'.1 - ss (x_n X) = ss σ.1 - ss (x_n X) + (ss n1' - ss σ.1) := by rw [hz]; omega
  have hS' : va_S (fun q => g_b (x_g X) ≤ q) (x_s X).heap T'.heap (locs ++ L2) := by
    refine ⟨Nat.le_trans h2.1 (by rw [e1]; exact hsz), fun q z1 z2 => ?_, fun q hq => ?_⟩
    · rw [e1, hkp q (Nat.lt_of_lt_of_le z1 h2.1) z2]
      exact h2.2.1 q z1 z2
    · rcases List.mem_append.mp hq with h | h
      · exact h2.2.2 q h
      · exact hL q h
  have k' := k r σ' hq' hz T'.heap (locs ++ L2) ls (by rw [e1]; exact hW) hS' h3
  rw [c1, c2] at k'
  obtain ⟨t2, a1, b1⟩ := k' T' rfl X''
  refine ⟨t2, st t2 ?_, b1⟩
  have e9 : ({ g0 with pc := g0.pc + 3, stack := (r.map (cv (x_g X))).toList ++ rest.map (cv (x_g X)) } : JFrame) = F0 (x_m X) (pc + 3) ls ((r.toList ++ rest).map (cv (x_g X))) := by
    have e8 : (r.map (cv (x_g X))).toList ++ rest.map (cv (x_g X)) = (r.toList ++ rest).map (cv (x_g X)) := by cases r <;> simp
    rw [e8]
    have := congrArg (fun f : JFrame => { f with stack := (r.toList ++ rest).map (cv (x_g X)) }) hg
    exact this
  rw [e9]
  exact a1
theorem cat_map (g : Gb) (l : List Value) : ((l.map (cv g)).map fun v => v.category) = l.map fun v => v.category := by
  rw [List.map_map]
  exact List.map_congr_left fun v _ => cv_cat g v
theorem ss_le91 {a b : Nat} (h : a ≤ b) (ha : a ≤ 91) : ss a ≤ ss b := by
  by_cases hb : b ≤ 91
  · exact ss_mono h hb
  · have e : KD.take b = KD := List.take_of_length_le (show 91 ≤ b by omega)
    have e2 : KD.take 91 = KD := List.take_of_length_le (show 91 ≤ 91 by omega)
    have h2 := ss_mono ha (Nat.le_refl _)
    unfold ss at h2 ⊢
    rw [e]
    rw [e2] at h2
    exact h2
theorem r_callV (C : Ok X own cc nL d n1) {M : Mt} {k d' idx t ci n1' : Nat} {As rest : List Value} {Q' : Option Value → St → Prop} (hM : MC (x_g X) d' M (.ref t :: As) σ n1' Q') (hm : mOk M k) (hl : Cond.methodLink own idx M.1 ∈ Wall) (hi : Cond.instanceMethod M.1 ∈ Wall) (hs : Cond.selects M.1.cls M.1 M.1 ∈ Wall)
    (hd : decode cc pc = .ok (.invokevirtual idx, 3)) (hS : As.reverse ++ .ref t :: rest = S) (hk : As.length = k) (hc : chk σ.1 t ci = true) (hci : ci < 11) (hnm : M.1.cls = nmOf ci) (hdd : d' + 1 ≤ d) (hx : x_n X ≤ σ.1) (hn : σ.1 ≤ n1') (hn1 : n1' ≤ n1) (hn9 : n1' ≤ 91) (hL : L.length = nL) (hrest : (rest.map fun v => v.category).sum ≤ 8)
    (kk : ∀ (v : Option Value) (σ' : St), Q' v σ' → σ'.1 = n1' → Aw X (pc + 3) L (v.toList ++ rest) σ') : Aw X pc L S σ := by
  intro H locs ls h1 h2 h3
  subst hS
  have hkd := chk_kd hc
  obtain ⟨-, -, r3, r4⟩ := o_rm C
  have m1 : ss (x_n X) ≤ ss σ.1 := ss_mono hx (by omega)
  have m3 : ss n1' ≤ ss n1 := ss_le91 hn1 hn9
  have m4 : ss σ.1 ≤ ss n1' := ss_mono hn hn9
  have hrun := va_runV (Qc := QcW (x_g X) n1' Q') (As := As.map (cv (x_g X))) (b := ad (x_g X) t) (rest := rest.map (cv (x_g X))) (g := F0 (x_m X) pc ls ((As.reverse ++ .ref t :: rest).map (cv (x_g X)))) (locs := locs) (cells := σ.1 - x_n X) (slots := ss σ.1 - ss (x_n X)) (H := H) (l := g_l (x_g X)) (e := x_e X) (below := x_be X) (meth := x_me X) (own := own) (C := M.1.cls) (n := k)
    ⟨o_x C, o_b C, o_ml C, o_own C, o_ts C⟩ hM ⟨call_B C hm hl hdd, o_ts C _ hi, o_ts C _ hs⟩
    ⟨PcW_blind _ _ _, by
      have hP := wd_P h1 (chk_lt hc) (cellOf_obj hkd hci)
      obtain ⟨cell, a1, a2, a3⟩ := va_recv (o_K C) hP (cl_of ci hci) (q0 := 0) rfl
      exact ⟨cell, by rw [ad_lo (kd_lo hkd (by omega))]; exact a1, a2, by rw [hnm]; exact a3⟩,
      fun U hU hW => ⟨rfl, by rw [hU]; exact h1, va_K.moved hW.alike (o_K C), by rw [hU]; exact ((o_Ro C).kept (o_sz C) h2.2.1).moved hW.alike, by rw [hU]; exact Nat.le_trans (o_sz C) h2.1⟩⟩
    rfl (by rw [List.length_map]; exact hk) (h3.1.trans hL) (by simp [cv_ref]) (lv_room (by rw [cat_map]; exact hrest)) hd ⟨by omega, by omega⟩
  exact call_end C hx hn hn9 rfl hrun h2 h3 kk
theorem r_callS (C : Ok X own cc nL d n1) {M : Mt} {k d' idx n1' : Nat} {As rest : List Value} {Q' : Option Value → St → Prop} (hM : MC (x_g X) d' M As σ n1' Q') (hm : mOk M k) (hl : Cond.methodLink own idx M.1 ∈ Wall) (hi : Cond.static M.1 ∈ Wall)
    (hd : decode cc pc = .ok (.invokestatic idx, 3)) (hS : As.reverse ++ rest = S) (hk : As.length = k) (hdd : d' + 1 ≤ d) (hx : x_n X ≤ σ.1) (hn : σ.1 ≤ n1') (hn1 : n1' ≤ n1) (hn9 : n1' ≤ 91) (hL : L.length = nL) (hrest : (rest.map fun v => v.category).sum ≤ 8)
    (kk : ∀ (v : Option Value) (σ' : St), Q' v σ' → σ'.1 = n1' → Aw X (pc + 3) L (v.toList ++ rest) σ') : Aw X pc L S σ := by
  intro H locs ls h1 h2 h3
  subst hS
  obtain ⟨-, -, r3, r4⟩ := o_rm C
  have m1 : ss (x_n X) ≤ ss σ.1 := ss_mono hx (by omega)
  have m3 : ss n1' ≤ ss n1 := ss_le91 hn1 hn9
  have m4 : ss σ.1 ≤ ss n1' := ss_mono hn hn9
  have hrun := va_runS (Qc := QcW (x_g X) n1' Q') (As := As.map (cv (x_g X))) (rest := rest.map (cv (x_g X))) (g := F0 (x_m X) pc ls ((As.reverse ++ rest).map (cv (x_g X)))) (locs := locs) (cells := σ.1 - x_n X) (slots := ss σ.1 - ss (x_n X)) (H := H) (l := g_l (x_g X)) (e := x_e X) (below := x_be X) (meth := x_me X) (own := own) (n := k)
    ⟨o_x C, o_b C, o_ml C, o_own C, o_ts C⟩ hM ⟨call_B C hm hl hdd, o_ts C _ hi⟩
    ⟨PcW_blind _ _ _, fun U hU hW => ⟨rfl, by rw [hU]; exact h1, va_K.moved hW.alike (o_K C), by rw [hU]; exact ((o_Ro C).kept (o_sz C) h2.2.1).moved hW.alike, by rw [hU]; exact Nat.le_trans (o_sz C) h2.1⟩⟩
    rfl (by rw [List.length_map]; exact hk) (h3.1.trans hL) (by simp) (lv_room (by rw [cat_map]; exact hrest)) hd ⟨by omega, by omega⟩
  exact call_end C hx hn hn9 rfl hrun h2 h3 kk
theorem r_callI (C : Ok X own cc nL d n1) {M : Mt} {k d' idx t n1' : Nat} {As rest : List Value} {Q' : Option Value → St → Prop} (hret : M.2.2.2 = none) (hM : MC (x_g X) d' M (.ref t :: As) σ n1' Q') (hm : mOk M k) (hl : Cond.methodLink own idx M.1 ∈ Wall) (hi : Cond.instanceMethod M.1 ∈ Wall) (hnm : M.1.name = "<init>")
    (hd : decode cc pc = .ok (.invokespecial idx, 3)) (hS : As.reverse ++ .ref t :: rest = S) (hk : As.length = k) (hdd : d' + 1 ≤ d) (hx : x_n X ≤ σ.1) (hn : σ.1 ≤ n1') (hn1 : n1' ≤ n1) (hn9 : n1' ≤ 91) (hL : L.length = nL) (hrest : (rest.map fun v => v.category).sum ≤ 8)
    (kk : ∀ (v : Option Value) (σ' : St), Q' v σ' → σ'.1 = n1' → Aw X (pc + 3) L (v.toList ++ rest) σ') : Aw X pc L S σ := by
  intro H locs ls h1 h2 h3
  subst hS
  obtain ⟨-, -, r3, r4⟩ := o_rm C
  have m1 : ss (x_n X) ≤ ss σ.1 := ss_mono hx (by omega)
  have m3 : ss n1' ≤ ss n1 := ss_le91 hn1 hn9
  have m4 : ss σ.1 ≤ ss n1' := ss_mono hn hn9
  have hrun := va_runI (Qc := QcW (x_g X) n1' Q') (As := As.map (cv (x_g X))) (b := ad (x_g X) t) (rest := rest.map (cv (x_g X))) (g := F0 (x_m X) pc ls ((As.reverse ++ .ref t :: rest).map (cv (x_g X)))) (locs := locs) (cells := σ.1 - x_n X) (slots := ss σ.1 - ss (x_n X)) (H := H) (l := g_l (x_g X)) (e := x_e X) (below := x_be X) (meth := x_me X) (own := own) (n := k)
    ⟨o_x C, o_b C, o_ml C, o_own C, o_ts C⟩ hM ⟨by have := call_B C (mc := n1' - σ.1) (ms := ss n1' - ss σ.1) hm hl hdd; rw [hret] at this ⊢; exact this, hnm, o_ts C _ hi⟩
    ⟨PcW_blind _ _ _, fun U hU hW => ⟨rfl, by rw [hU]; exact h1, va_K.moved hW.alike (o_K C), by rw [hU]; exact ((o_Ro C).kept (o_sz C) h2.2.1).moved hW.alike, by rw [hU]; exact Nat.le_trans (o_sz C) h2.1⟩⟩
    rfl (by rw [List.length_map]; exact hk) (h3.1.trans hL) (by simp [cv_ref]) (lv_room (by rw [cat_map]; exact hrest)) hd ⟨by omega, by omega⟩
  exact call_end C hx hn hn9 rfl hrun h2 h3 kk
theorem w_oi : Cond.instanceMethod objectInit ∈ Wall := wall_t1 (i := 20) (by decide +kernel) (by decide +kernel)
theorem w_oc : Cond.code objectInit ⟨#[0xb1]⟩ 1 none ∈ Wall := wall_t1 (i := 21) (by decide +kernel) (by decide +kernel)
theorem r_obj (C : Ok X own cc nL d n1) {idx t : Nat} (hl : Cond.methodLink own idx objectInit ∈ Wall) (hd : decode cc pc = .ok (.invokespecial idx, 3)) (hdd : 1 ≤ d) (hL : L.length = nL) (hrest : (S.map fun v => v.category).sum ≤ 8) (k : Aw X (pc + 3) L S σ) : Aw X pc L (.ref t :: S) σ := by
  intro H locs ls h1 h2 h3
  obtain ⟨r1, r2, -, -⟩ := o_rm C
  exact W.objInit (o_x C) (o_b C) (o_own C) (o_ts C _ hl) (o_ts C _ w_oi) (o_ts C _ w_oc) rfl ((h3.1.trans hL).trans (o_ml C).symm) rfl hd (by omega) (by
    have := lv_room (m := x_m X) (pc := pc) (ls := ls) (rest := [.ref (ad (x_g X) t)]) (st := S.map (cv (x_g X))) (by rw [cat_map]; exact hrest)
    show 2 * 0 + _ + 12 ≤ _
    rw [cat_map]
    omega) (k H locs ls h1 h2 h3)
theorem w_mi : Cond.initialized "java/lang/Math" ∈ Wall := wall_t1 (i := 13) (by decide +kernel) (by decide +kernel)
theorem w_m1 : Cond.static Lib.Math.min.name ∈ Wall := wall_t2 (i := 211) (by decide +kernel) (by decide +kernel)
theorem w_m2 : Cond.code Lib.Math.min.name Lib.Math.min.code 2 (some .int) ∈ Wall := wall_t2 (i := 212) (by decide +kernel) (by decide +kernel)
theorem w_m3 : Cond.static Lib.Math.max.name ∈ Wall := wall_t2 (i := 214) (by decide +kernel) (by decide +kernel)
theorem w_m4 : Cond.code Lib.Math.max.name Lib.Math.max.code 2 (some .int) ∈ Wall := wall_t2 (i := 215) (by decide +kernel) (by decide +kernel)
/-- Math.min, Math.max -/
def imin (x y : Int32) : Int32 := if y < x then y else x
def imax (x y : Int32) : Int32 := if x < y then y else x
theorem r_mmin (C : Ok X own cc nL d n1) {idx : Nat} {x y : Int32} (hl : Cond.methodLink own idx Lib.Math.min.name ∈ Wall) (hd : decode cc pc = .ok (.invokestatic idx, 3)) (hdd : 1 ≤ d) (hL : L.length = nL) (hx : x_n X ≤ σ.1) (hn : σ.1 ≤ n1) (hn9 : σ.1 ≤ 91) (hrest : (S.map fun v => v.category).sum ≤ 8) (k : Aw X (pc + 3) L (.int (imin x y) :: S) σ) : Aw X pc L (.int y :: .int x :: S) σ := by
  intro H locs ls h1 h2 h3
  obtain ⟨r1, r2, r3, r4⟩ := o_rm C
  have m3 : ss σ.1 ≤ ss n1 := ss_le91 hn hn9
  exact va_mmin (o_x C) (o_b C) ((o_ml C).trans (h3.1.trans hL).symm) (o_own C) (o_ts C _ hl) (o_ts C _ w_m1) (o_ts C _ w_mi) (o_ts C _ w_m2) (by omega) (by rw [cat_map]; omega) (by omega) (by omega) hd (k H locs ls h1 h2 h3)
theorem r_mmax (C : Ok X own cc nL d n1) {idx : Nat} {x y : Int32} (hl : Cond.methodLink own idx Lib.Math.max.name ∈ Wall) (hd : decode cc pc = .ok (.invokestatic idx, 3)) (hdd : 1 ≤ d) (hL : L.length = nL) (hx : x_n X ≤ σ.1) (hn : σ.1 ≤ n1) (hn9 : σ.1 ≤ 91) (hrest : (S.map fun v => v.category).sum ≤ 8) (k : Aw X (pc + 3) L (.int (imax x y) :: S) σ) : Aw X pc L (.int y :: .int x :: S) σ := by
  intro H locs ls h1 h2 h3
  obtain ⟨r1, r2, r3, r4⟩ := o_rm C
  have m3 : ss σ.1 ≤ ss n1 := ss_le91 hn hn9
  exact va_mmax (o_x C) (o_b C) ((o_ml C).trans (h3.1.trans hL).symm) (o_own C) (o_ts C _ hl) (o_ts C _ w_m3) (o_ts C _ w_mi) (o_ts C _ w_m4) (by omega) (by rw [cat_map]; omega) (by omega) (by omega) hd (k H locs ls h1 h2 h3)
theorem w_ac1 : Cond.static arraycopyName ∈ Wall := wall_t2 (i := 84) (by decide +kernel) (by decide +kernel)
theorem w_ac2 : Cond.native arraycopyName ∈ Wall := wall_t2 (i := 85) (by decide +kernel) (by decide +kernel)
theorem w_ac3 : Cond.initialized "java/lang/System" ∈ Wall := wall_t1 (i := 12) (by decide +kernel) (by decide +kernel)
/-- n places of f from sp on, laid over g from dp on -/
def cpy2 {α : Type} (F : Nat → Nat → α) (t : Nat) (f : Nat → α) (sp dp n : Nat) : Nat → Nat → α := fun t' k => if t' = t then va_cpy f (F t) sp dp n k else F t' k
theorem cpy2_row {α : Type} {F : Nat → Nat → α} {t t' : Nat} {f : Nat → α} {sp dp n : Nat} (h : t' ≠ t) : cpy2 F t f sp dp n t' = F t' := by
  funext k
  unfold cpy2
  rw [if_neg h]
theorem nn32 (z : Int32) (hz : ¬ z < 0) : z.toInt = ((ix z : Nat) : Int) := by
  have hz0 : (0 : Int) ≤ z.toInt := by
    have := Int32.not_lt.mp hz
    simpa using Int32.le_iff_toInt_le.mp this
  show z.toInt = ((z.toInt.toNat : Nat) : Int)
  omega
theorem w_copy (C : Ok X own cc nL d n1) {H : Heap} {locs : List Loc} {ls : Array Slot} {idx a0 a1 : Nat} {cs cd : Cell} {ty : FieldType} {sp dp m : Int32} {rest : List Value} (hs : H[a0]? = some cs) (hd : H[a1]? = some cd) (As : (x_s X).isArrayOf cs ty) (Ad : (x_s X).isArrayOf cd ty) (ks : cs.vm ≠ .unknown) (kd : cd.vm ≠ .unknown) (hprim : refKind ty = false)
    (h1 : ¬ sp < 0) (h2 : ¬ dp < 0) (h3 : ¬ m < 0) (h4 : ix sp + ix m ≤ cs.slots.size) (h5 : ix dp + ix m ≤ cd.slots.size)
    (hfit : ∀ i, i < ix m → (∃ z, cs.slots.getD (ix sp + i) .null = .int z ∧ fits ty (.int z) = true) ∨ (∃ z, cs.slots.getD (ix sp + i) .null = .long z ∧ fits ty (.long z) = true))
    (hls : ls.size = nL) (hl : Cond.methodLink own idx arraycopyName ∈ Wall) (hdg : decode cc pc = .ok (.invokestatic idx, 3)) (hdd : 1 ≤ d) (hrest : (rest.map fun v => v.category).sum ≤ 8) {cells slots : Nat} {Qf : State → Prop}
    (kk : ∀ (H1 : Heap) (L' : List Loc), H1[a1]? = some (cd.storeRun (ix dp) (cs.stretch (ix sp) (ix m))) → H1.size = H.size → (∀ q : Nat, q ≠ a1 → H1[q]? = H[q]?) → (∀ q ∈ L', q.base = a1) → W (x_p X) (g_l (x_g X)) (x_e X) (x_R X) (x_s X) (x_m X) (x_a X) (x_be X) (x_me X) (x_c X) H1 (locs ++ L') cells slots Qf (F0 (x_m X) (pc + 3) ls rest)) :
    W (x_p X) (g_l (x_g X)) (x_e X) (x_R X) (x_s X) (x_m X) (x_a X) (x_be X) (x_me X) (x_c X) H locs cells slots Qf (F0 (x_m X) pc ls (.int m :: .int dp :: .ref a1 :: .int sp :: .ref a0 :: rest)) := by
  intro T hT Y
  obtain ⟨r1, r2, -, -⟩ := o_rm C
  obtain ⟨s1, k0, hk0, cm0, hkk0⟩ := As
  obtain ⟨s2, k1, hk1, cm1, hkk1⟩ := Ad
  obtain ⟨vm', Y', step⟩ := Y.arraycopy (o_x C) (o_own C) (o_ts C _ hl) (o_ts C _ w_ac2) (o_ts C _ w_ac1) (o_ts C _ w_ac3) (src := a0) (dst := a1) (cs := cs) (cd := cd) (srcPos := sp) (destPos := dp) (n := m) (by rw [hT]; exact hs) (by rw [hT]; exact hd)
    s1 s2 ks kd hk0 hk1 hkk0 hkk1 (by simp [hprim]) h1 h2 h3
    (by rw [nn32 sp h1, nn32 m h3]; omega)
    (by rw [nn32 dp h2, nn32 m h3]; omega)
    (fun vm₁ _ i hi => by
      rcases hfit i hi with ⟨z, e, f⟩ | ⟨z, e, f⟩
      · rw [e]; exact ⟨f, trivial⟩
      · rw [e]; exact ⟨f, trivial⟩)
    (g := F0 (x_m X) pc ls (.int m :: .int dp :: .ref a1 :: .int sp :: .ref a0 :: rest)) rfl (hls.trans (o_ml C).symm) (rest := rest) rfl (by rw [o_b C]; exact hdg) (by omega) (by
      have e : nativeFrameWords "java/lang/System" "arraycopy" 5 = 7 := by decide +kernel
      show 2 * 0 + _ + _ ≤ _
      rw [e]
      omega)
  have hlt : a1 < H.size := (Array.getElem?_eq_some_iff.mp hd).1
  have hheap : ((T.setVm vm').setCell a1 (cd.storeRun (ix dp) (cs.stretch (ix sp) (ix m)))).heap = H.setIfInBounds a1 (cd.storeRun (ix dp) (cs.stretch (ix sp) (ix m))) := by rw [← hT]; rfl
  obtain ⟨t, a, b⟩ := kk (H.setIfInBounds a1 (cd.storeRun (ix dp) (cs.stretch (ix sp) (ix m)))) _ (by simp [Array.getElem?_setIfInBounds, hlt]) (by simp) (fun q hq => by simp [Array.getElem?_setIfInBounds, Ne.symm hq]) (fun q hq => by
    obtain ⟨z, -, hz⟩ := List.mem_map.mp hq
    rw [← hz]) _ hheap Y'
  exact ⟨t, step t a, b⟩
theorem va_S.puts {A : Nat → Prop} {H0 H H1 : Heap} {locs L' : List Loc} {a : Nat} (h : va_S A H0 H locs) (z : H1.size = H.size) (oq : ∀ q : Nat, q ≠ a → H1[q]? = H[q]?) (ha : A a) (hL : ∀ q ∈ L', q.base = a) : va_S A H0 H1 (locs ++ L') := by
  refine ⟨by rw [z]; exact h.1, fun q h1 h2 => ?_, fun q hq => ?_⟩
  · rw [oq q (fun e => h2 (by rw [e]; exact ha))]
    exact h.2.1 q h1 h2
  · rcases List.mem_append.mp hq with h1 | h1
    · exact h.2.2 q h1
    · rw [hL q h1]
      exact ha
theorem cpy2_self {α : Type} {F : Nat → Nat → α} {t : Nat} {f : Nat → α} {sp dp n : Nat} : cpy2 F t f sp dp n t = va_cpy f (F t) sp dp n := by
  funext k
  unfold cpy2
  rw [if_pos rfl]
theorem r_copyl (C : Ok X own cc nL d n1) {idx a t : Nat} {sp dp m : Int32} (ha : chk n a 21 = true) (ht : chk n t 21 = true) (h1 : ¬ sp < 0) (h2 : ¬ dp < 0) (h3 : ¬ m < 0) (h4 : ix sp + ix m ≤ ln a) (h5 : ix dp + ix m ≤ ln t) (hl : Cond.methodLink own idx arraycopyName ∈ Wall) (hd : decode cc pc = .ok (.invokestatic idx, 3)) (hdd : 1 ≤ d) (hL : L.length = nL) (hrest : (S.map fun v => v.category).sum ≤ 8)
    (k : Aw X (pc + 3) L S (n, I, cpy2 J t (J a) (ix sp) (ix dp) (ix m), R)) : Aw X pc L (.int m :: .int dp :: .ref t :: .int sp :: .ref a :: S) (n, I, J, R) := by
  intro H locs ls g1 g2 g3
  have hka := chk_kd ha
  have hkt := chk_kd ht
  have hPa : H[g_b (x_g X) + a]? = some (arrV (g_cA (x_g X) 1) (ln a) (fun j => .long (J a j))) := wd_P g1 (chk_lt ha) (cellOf_l hka) 0 _ rfl
  have hPt : H[g_b (x_g X) + t]? = some (arrV (g_cA (x_g X) 1) (ln t) (fun j => .long (J t j))) := wd_P g1 (chk_lt ht) (cellOf_l hkt) 0 _ rfl
  show W _ _ _ _ _ _ _ _ _ _ _ _ _ _ _ (F0 _ pc ls (.int m :: .int dp :: cv (x_g X) (.ref t) :: .int sp :: cv (x_g X) (.ref a) :: S.map (cv (x_g X))))
  rw [cv_lo (kd_lo hka (by omega)), cv_lo (kd_lo hkt (by omega))]
  have hA := ((o_K C).2 1 _ rfl).1
  refine w_copy C hPa hPt (hA (ln a) (fun j => .long (J a j))) (hA (ln t) (fun j => .long (J t j))) (fun h => by cases h) (fun h => by cases h) rfl h1 h2 h3 (by show _ ≤ (arrV _ _ _).slots.size; rw [arrV_size]; exact h4) (by show _ ≤ (arrV _ _ _).slots.size; rw [arrV_size]; exact h5)
    (fun i hi => Or.inr ⟨J a (ix sp + i), by
      show (arrV _ _ _).slots.getD _ _ = _
      rw [Array.getD_eq_getD_getElem?, arrV_read _ _ (by omega)]
      rfl, rfl⟩) (g3.1.trans hL) hl hd hdd (by rw [cat_map]; exact hrest) (fun H1 L' e1 z oq hb => ?_)
  refine k H1 _ ls (g1.upd (σ' := (n, I, cpy2 J t (J a) (ix sp) (ix dp) (ix m), R)) rfl z oq ?_ (fun t' ht' => cellOf_congr rfl (cpy2_row ht') rfl)) (g2.puts z oq (Nat.le_add_right _ _) hb) g3
  rw [cellOf_l hkt]
  show H1[_]? = some (arrV _ _ (fun j => Value.long (cpy2 J t (J a) (ix sp) (ix dp) (ix m) t j)))
  rw [e1, va_copied (fun z => .long z) _ _ (J a) (J t) h4, cpy2_self]
theorem copyi_core (C : Ok X own cc nL d n1) {idx t a0 la : Nat} {f : Nat → Int32} {sp dp m : Int32} (hsrc : ∀ (H : Heap) (locs : List Loc), Wd (x_g X) (n, I, J, R) H → va_S (fun q => g_b (x_g X) ≤ q) (x_s X).heap H locs → ro_X a0 la f (x_s X) H) (ht : chk n t 20 = true) (h1 : ¬ sp < 0) (h2 : ¬ dp < 0) (h3 : ¬ m < 0) (h4 : ix sp + ix m ≤ la) (h5 : ix dp + ix m ≤ ln t) (hl : Cond.methodLink own idx arraycopyName ∈ Wall) (hd : decode cc pc = .ok (.invokestatic idx, 3)) (hdd : 1 ≤ d) (hL : L.length = nL) (hrest : (S.map fun v => v.category).sum ≤ 8)
    {r : Nat} (hr : cv (x_g X) (.ref r) = .ref a0) (k : Aw X (pc + 3) L S (n, cpy2 I t f (ix sp) (ix dp) (ix m), J, R)) : Aw X pc L (.int m :: .int dp :: .ref t :: .int sp :: .ref r :: S) (n, I, J, R) := by
  intro H locs ls g1 g2 g3
  have hkt := chk_kd ht
  have hPt : H[g_b (x_g X) + t]? = some (arrV (g_cA (x_g X) 0) (ln t) (fun j => .int (I t j))) := wd_P g1 (chk_lt ht) (cellOf_i hkt) 0 _ rfl
  obtain ⟨scr, q1, q2, q3, q4, q5⟩ := hsrc H locs g1 g2
  show W _ _ _ _ _ _ _ _ _ _ _ _ _ _ _ (F0 _ pc ls (.int m :: .int dp :: cv (x_g X) (.ref t) :: .int sp :: cv (x_g X) (.ref r) :: S.map (cv (x_g X))))
  rw [hr, cv_lo (kd_lo hkt (by omega))]
  have hA := ((o_K C).2 0 _ rfl).1
  refine w_copy C q1 hPt q2 (hA (ln t) (fun j => .int (I t j))) q3 (fun h => by cases h) rfl h1 h2 h3 (Nat.le_trans h4 q4.1) (by show _ ≤ (arrV _ _ _).slots.size; rw [arrV_size]; exact h5)
    (fun i hi => Or.inl ⟨f (ix sp + i), by
      rw [Array.getD_eq_getD_getElem?, q5 _ (by omega)]
      rfl, rfl⟩) (g3.1.trans hL) hl hd hdd (by rw [cat_map]; exact hrest) (fun H1 L' e1 z oq hb => ?_)
  refine k H1 _ ls (g1.upd (σ' := (n, cpy2 I t f (ix sp) (ix dp) (ix m), J, R)) rfl z oq ?_ (fun t' ht' => cellOf_congr (cpy2_row ht') rfl rfl)) (g2.puts z oq (Nat.le_add_right _ _) hb) g3
  rw [cellOf_i hkt]
  show H1[_]? = some (arrV _ _ (fun j => Value.int (cpy2 I t f (ix sp) (ix dp) (ix m) t j)))
  rw [e1, va_copiedX (fun z => .int z) scr _ f (I t) q5 h4, cpy2_self]
theorem r_copyi (C : Ok X own cc nL d n1) {idx a t : Nat} {sp dp m : Int32} (ha : chk n a 20 = true) (ht : chk n t 20 = true) (h1 : ¬ sp < 0) (h2 : ¬ dp < 0) (h3 : ¬ m < 0) (h4 : ix sp + ix m ≤ ln a) (h5 : ix dp + ix m ≤ ln t) (hl : Cond.methodLink own idx arraycopyName ∈ Wall) (hd : decode cc pc = .ok (.invokestatic idx, 3)) (hdd : 1 ≤ d) (hL : L.length = nL) (hrest : (S.map fun v => v.category).sum ≤ 8)
    (k : Aw X (pc + 3) L S (n, cpy2 I t (I a) (ix sp) (ix dp) (ix m), J, R)) : Aw X pc L (.int m :: .int dp :: .ref t :: .int sp :: .ref a :: S) (n, I, J, R) :=
  copyi_core C (a0 := g_b (x_g X) + a) (la := ln a) (fun H locs g1 g2 => ⟨_, wd_P g1 (chk_lt ha) (cellOf_i (chk_kd ha)) 0 _ rfl, ((o_K C).2 0 _ rfl).1 (ln a) (fun j => .int (I a j)), (fun h => by cases h), ⟨Nat.le_of_eq (arrV_size _ _ _).symm, congrArg Int32.ofNat (arrV_size _ _ _)⟩, fun j hj => arrV_read _ _ hj⟩) ht h1 h2 h3 h4 h5 hl hd hdd hL hrest (cv_lo (kd_lo (chk_kd ha) (by omega))) k
theorem r_copyro (C : Ok X own cc nL d n1) {idx j t : Nat} {sp dp m : Int32} (hj : Nat.blt j 6 = true) (ht : chk n t 20 = true) (h1 : ¬ sp < 0) (h2 : ¬ dp < 0) (h3 : ¬ m < 0) (h4 : ix sp + ix m ≤ roL (x_g X) j) (h5 : ix dp + ix m ≤ ln t) (hl : Cond.methodLink own idx arraycopyName ∈ Wall) (hd : decode cc pc = .ok (.invokestatic idx, 3)) (hdd : 1 ≤ d) (hL : L.length = nL) (hrest : (S.map fun v => v.category).sum ≤ 8)
    (k : Aw X (pc + 3) L S (n, cpy2 I t (roF (x_g X) j) (ix sp) (ix dp) (ix m), J, R)) : Aw X pc L (.int m :: .int dp :: .ref t :: .int sp :: .ref (1000 + j) :: S) (n, I, J, R) := by
  have hj6 : j < 6 := Nat.le_of_ble_eq_true hj
  have e : ad (x_g X) (1000 + j) = g_ro (x_g X) j := by
    unfold ad
    rw [if_neg (by omega), Nat.add_sub_cancel_left]
  obtain ⟨hX, hlt⟩ := (o_Ro C).2.1 j hj6
  exact copyi_core C (a0 := g_ro (x_g X) j) (la := roL (x_g X) j) (fun H locs g1 g2 => hX.kept (g2.2.1 _ (Nat.lt_of_lt_of_le hlt (o_sz C)) (Nat.not_le.mpr hlt))) ht h1 h2 h3 h4 h5 hl hd hdd hL hrest (by rw [cv_ref, e]) k
end RULES3
