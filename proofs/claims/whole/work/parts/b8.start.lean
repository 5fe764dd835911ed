/-! THE CLAIM OUT OF ONE WALK OF THE LAW'S BODY. Your part is whole_start (and what it stands on); all else here is the same for every law, but numbers. -/
def R_law : String := "TwoStrawsLaw"
def lw_P (b : Addr) (xs : List Int32) (args : Array Value) (s : State) : Prop := args = #[.ref b] ∧ s.IntsAt b xs ∧ xs.length ≤ 3072 ∧ (Jvm.Cond.and given_1 narrow_1).before args s = true
def lw_Q (_ : Array Value) (s : State) (o : Outcome) (t : State) : Prop := o = .returned (some (.int 1)) ∧ Framed s o t [] 600000 7302250
def lw_Z (below : List Frame) (a : Array Value) (s : State) : State → Prop := fun t => ∃ o, t.status = .running ∧ Ended t below o ∧ lw_Q a s o t
/-- the law's own end, with 1 on the stack, nothing written that was there before, its room as the claim has it -/
theorem lw_ret {p : Program} {l : Launch} {e : Env} {s : State} {m : MethodId} {below : List Frame} {meth : Method} {c : Code} {b : Nat} (hx : p.tables.exec = Jvm.exec) (hb : c.code = code) (hr : meth.sig.returnType = ret) (hlocks : meth.locks = false) {pc : Nat} {H : Heap} {ls : Array Slot} (hdg : decode code pc = .ok (.ireturn, 1)) : W p l e room_1 s m #[Value.ref b] below meth c H [] 600000 7302250 (lw_Z below #[Value.ref b] s) (F0 m pc ls [.int 1]) := by
  intro T hT X
  obtain ⟨fs, hret, hrun, hended, hW, hframe⟩ := X.leave (v := some (.int 1)) (hlocks := hlocks) (fun h => by rw [hr] at h; cases h)
  have hmeth' : T.vm.method? m = some meth := X.method'
  refine ⟨T.setFrames fs, ?_, .returned (some (.int 1)), hrun, hended, rfl, ⟨_, rfl⟩, hW, hframe⟩
  jvm_step X.here [X.here.top, hx, hb, hdg, hmeth', hr, ret, narrow_b1]
  (try refine ⟨rfl, ?_⟩); (try refine ⟨rfl, ?_⟩)
  first | (intro acts; rw [hret _ acts rfl rfl rfl]) | rw [hret _ _ rfl rfl rfl]
  exact Steps.refl _
/-- what holds at the law's entry: the machine, the code, the tables' words (any of lw_tbl by 'hts w (by decide +kernel)'), the script of L ints xs at the cell b, what the Statement gives of the start (any of its parts by flat_of_before) -/
def lw_At (p : Program) (s : State) (m : MethodId) (meth : Method) (c : Code) (b L : Nat) (xs : Nat → Int32) : Prop :=
  p.tables.exec = Jvm.exec ∧ c.code = code ∧ meth.sig.returnType = ret ∧ c.maxLocals = 4 ∧ s.vm.findClass R_law = some m.cls ∧ (∀ w ∈ lw_tbl, w.before #[Value.ref b] s = true) ∧ va_X b L xs s s.heap ∧ b < s.heap.size ∧ meth.locks = false ∧ (Jvm.Cond.and given_1 narrow_1).before #[Value.ref b] s = true
theorem tb_1 {w : Cond} {i : Nat} (h : tables_1_1[i]? = some w) : w ∈ lw_tbl := List.mem_append_right _ (List.mem_append_left _ (List.mem_of_getElem? h))
theorem tb_2 {w : Cond} {i : Nat} (h : tables_1_2[i]? = some w) : w ∈ lw_tbl := List.mem_append_right _ (List.mem_append_right _ (List.mem_append_left _ (List.mem_of_getElem? h)))
theorem tb_4 {w : Cond} {i : Nat} (h : tables_1_4[i]? = some w) : w ∈ lw_tbl := List.mem_append_right _ (List.mem_append_right _ (List.mem_append_right _ (List.mem_append_right _ (List.mem_append_left _ (List.mem_of_getElem? h)))))
theorem ls_all (j : Nat) (h : j < 5) : Cond.laysStatic (sCn j) (sNm j) "[I" ∈ lw_tbl := match j, h with
  | 0, _ => tb_2 (i := 75) rfl
  | 1, _ => tb_2 (i := 77) rfl
  | 2, _ => tb_1 (i := 32) rfl
  | 3, _ => tb_4 (i := 51) rfl
  | 4, _ => tb_4 (i := 49) rfl
  | n + 5, h => absurd h (by omega)
theorem in_all (j : Nat) (h : j < 5) : Cond.initialized (sCn j) ∈ Wall := match j, h with
  | 0, _ => ni3
  | 1, _ => ni3
  | 2, _ => ni3
  | 3, _ => ni5
  | 4, _ => ni5
  | n + 5, h => absurd h (by omega)
theorem nw_all (c : Nat) (h : c < 11) : Cond.instantiable (nmOf c) (nfOf c) ∈ Wall := match c, h with
  | 0, _ => nw0
  | 1, _ => nw1
  | 2, _ => nw2
  | 3, _ => nw3
  | 4, _ => nw4
  | 5, _ => nw5
  | 6, _ => nw6
  | 7, _ => nw7
  | 8, _ => nw8
  | 9, _ => nw9
  | 10, _ => nw10
  | n + 11, h => absurd h (by omega)
theorem sl_len : ∀ j, j < 5 → (sLs j).length < 2 ^ 31 := by decide
theorem fl_arr : ∀ j, j < 5 → Cond.arrayOf (.static (sCn j) (sNm j) "[I") .int ∈ flatC (Jvm.Cond.and given_1 narrow_1) := by decide +kernel
theorem fl_len : ∀ j, j < 5 → Cond.eq (.length (.static (sCn j) (sNm j) "[I")) (.int (Int32.ofNat (sLs j).length)) ∈ flatC (Jvm.Cond.and given_1 narrow_1) := by decide +kernel
theorem fl_el : ∀ j, j < 5 → ∀ i, i < (sLs j).length → Cond.eq (.elem (.static (sCn j) (sNm j) "[I") (.int (Int32.ofNat i))) (.int ((sLs j).getD i 0)) ∈ flatC (Jvm.Cond.and given_1 narrow_1) := by decide +kernel
theorem arr_int {s : State} {args : Array Value} (h : (Cond.arrayClass .int).before args s = true) : ∃ c, ArrOfT s c .int ∧ va_RA s c .int := by
  obtain ⟨c, k, comp, h1, h2, h3⟩ := Cond.arrayClass_spec h
  exact ⟨c, fun n z => ⟨(fun k h => by cases h), k, h2, comp, h3⟩, h1⟩
theorem arr_long {s : State} {args : Array Value} (h : (Cond.arrayClass .long).before args s = true) : ∃ c, ArrOfT s c .long ∧ va_RA s c .long := by
  obtain ⟨c, k, comp, h1, h2, h3⟩ := Cond.arrayClass_spec h
  exact ⟨c, fun n z => ⟨(fun k h => by cases h), k, h2, comp, h3⟩, h1⟩
theorem arr_bool {s : State} {args : Array Value} (h : (Cond.arrayClass .boolean).before args s = true) : ∃ c, ArrOfT s c .boolean ∧ va_RA s c .boolean := by
  obtain ⟨c, k, comp, h1, h2, h3⟩ := Cond.arrayClass_spec h
  exact ⟨c, fun n z => ⟨(fun k h => by cases h), k, h2, comp, h3⟩, h1⟩
theorem arr_shelf {s : State} {args : Array Value} (h : (Cond.arrayOver (.object "TwoStraws$Shelf")).before args s = true) : ∃ c, ArrOfT s c (.object "TwoStraws$Shelf") ∧ va_RA s c (.object "TwoStraws$Shelf") := by
  obtain ⟨comp, c, k, h1, -, h2, h3, h4⟩ := Cond.arrayOver_spec h
  exact ⟨c, fun n z => ⟨(fun k h => by cases h), k, h2, comp, h3⟩, k, comp, h2, h3, h1, h4⟩
def lw_g (l : Launch) (s : State) (ro : Nat → Nat) (b : Nat) (D : va_G) (cA : Nat → ClassId) (L : Nat) (xs : Nat → Int32) : Gb := (l, s.heap.size, (fun j => if j < 5 then ro j else b), D, cA, L, xs)
theorem tb_over : Cond.arrayOver (.object "TwoStraws$Shelf") ∈ lw_tbl := tb_2 (i := 10) rfl
theorem whole_start {p : Program} {e : Env} {s : State} {m : MethodId} {below : List Frame} {meth : Method} {c : Code} (l : Launch) (hflags : l.flags = flags0) {b L : Nat} {xs : Nat → Int32} (hL : L ≤ 3072) (C0 : lw_At p s m meth c b L xs) : W p l e room_1 s m #[Value.ref b] below meth c s.heap [] 0 0 (lw_Z below #[Value.ref b] s) (entryFrame m ([Value.ref b] : List Value).toArray 4) := by
  obtain ⟨hx, hb, hr, hml, hown, hts, hX, hbl, hlocks, hgv⟩ := C0
  have htW : ∀ w ∈ Wall, w.before #[Value.ref b] s = true := fun w hw => hts w (List.mem_filter.mp hw).1
  have hA : ∀ a : Nat, a < s.heap.size → ¬ (fun q : Nat => s.heap.size ≤ q) a := fun a h => Nat.not_le.mpr h
  have hfl := flat_of_before _ hgv
  have h1 : ∀ k : Nat, ∃ q : ClassId × (Nat → Nat), k < 11 → u_Kn s (nmOf k) (fdOf k) (nfOf k) q.1 q.2 := fun k => by
    by_cases hk : k < 11
    · obtain ⟨cC, iS, h⟩ := u_known htW (fw_all k hk) (htW _ (nw_all k hk))
      exact ⟨(cC, iS), fun _ => h⟩
    · exact ⟨(m.cls, fun _ => 0), fun h => absurd h hk⟩
  have h2 : ∀ j : Nat, ∃ t : Nat, j < 5 → va_Z (sCn j) (sNm j) "[I" (.ref t) (fun q : Nat => s.heap.size ≤ q) s s.heap ∧ va_T .int t (sLs j).length (fun i => .int ((sLs j).getD i 0)) (fun q : Nat => s.heap.size ≤ q) s s.heap := fun j => by
    by_cases hj : j < 5
    · obtain ⟨t, ht, hT⟩ := va_Tof (tm := .static (sCn j) (sNm j) "[I") (ty := .int) (N := (sLs j).length) (f := fun i => .int ((sLs j).getD i 0)) (A := fun q : Nat => s.heap.size ≤ q) (sl_len j hj) (hfl _ (fl_arr j hj)) (va_eqt (hfl _ (fl_len j hj))) (fun i hi => va_eqt (hfl _ (fl_el j hj i hi))) hA
      exact ⟨t, fun _ => ⟨va_Zref (hts _ (ls_all j hj)) (htW _ (in_all j hj)) ht hA, hT⟩⟩
    · exact ⟨0, fun h => absurd h hj⟩
  obtain ⟨D, hD⟩ : ∃ D : va_G, ∀ k, k < 11 → u_Kn s (nmOf k) (fdOf k) (nfOf k) (D.1 k) (D.2 k) := ⟨(fun k => (Classical.choose (h1 k)).1, fun k => (Classical.choose (h1 k)).2), fun k hk => Classical.choose_spec (h1 k) hk⟩
  obtain ⟨ro, hro⟩ : ∃ ro : Nat → Nat, ∀ j, j < 5 → va_Z (sCn j) (sNm j) "[I" (.ref (ro j)) (fun q : Nat => s.heap.size ≤ q) s s.heap ∧ va_T .int (ro j) (sLs j).length (fun i => .int ((sLs j).getD i 0)) (fun q : Nat => s.heap.size ≤ q) s s.heap := ⟨fun j => Classical.choose (h2 j), fun j hj => Classical.choose_spec (h2 j) hj⟩
  obtain ⟨cI, kI⟩ := arr_int (htW _ na_int)
  obtain ⟨cJ, kJ⟩ := arr_long (htW _ na_long)
  obtain ⟨cZ, kZ⟩ := arr_bool (htW _ na_boolean)
  obtain ⟨cQ, kQ⟩ := arr_shelf (hts _ tb_over)
  obtain ⟨cA, a0, a1, a2, a3⟩ : ∃ cA : Nat → ClassId, cA 0 = cI ∧ cA 1 = cJ ∧ cA 2 = cZ ∧ cA 3 = cQ := ⟨fun k => if k = 0 then cI else if k = 1 then cJ else if k = 2 then cZ else cQ, rfl, rfl, rfl, rfl⟩
  have hK : va_K D vwCl (tysG (lw_g l s ro b D cA L xs)) s := by
    refine ⟨fun k q hq => ?_, fun k q hq => ?_⟩
    · have hk : k < 11 := (List.getElem?_eq_some_iff.mp hq).1
      rw [cl_of k hk] at hq
      cases hq
      exact hD k hk
    · match k, hq with
      | 0, hq => cases hq; show ArrOfT s (cA 0) .int ∧ va_RA s (cA 0) .int; rw [a0]; exact kI
      | 1, hq => cases hq; show ArrOfT s (cA 1) .long ∧ va_RA s (cA 1) .long; rw [a1]; exact kJ
      | 2, hq => cases hq; show ArrOfT s (cA 2) .boolean ∧ va_RA s (cA 2) .boolean; rw [a2]; exact kZ
      | 3, hq => cases hq; show ArrOfT s (cA 3) (.object "TwoStraws$Shelf") ∧ va_RA s (cA 3) (.object "TwoStraws$Shelf"); rw [a3]; exact kQ
      | k + 4, hq => cases hq
  have hRo : Ro (lw_g l s ro b D cA L xs) s s.heap := by
    refine ⟨fun j hj => ?_, fun j _ => ?_, va_AO.of (hts _ tb_over)⟩
    · show va_Z (sCn j) (sNm j) "[I" (.ref (if j < 5 then ro j else b)) (fun q : Nat => s.heap.size ≤ q) s s.heap
      rw [if_pos hj]
      exact (hro j hj).1
    · show ro_X (if j < 5 then ro j else b) (if j < 5 then (sLs j).length else L) (if j < 5 then (fun i => (sLs j).getD i 0) else xs) s s.heap ∧ (if j < 5 then ro j else b) < s.heap.size
      by_cases h5 : j < 5
      · rw [if_pos h5, if_pos h5, if_pos h5]
        have hT := (hro j h5).2
        exact ⟨ro_X.ofT hT, by obtain ⟨cell, h, -⟩ := hT; exact (Array.getElem?_eq_some_iff.mp h).1⟩
      · rw [if_neg h5, if_neg h5, if_neg h5]
        exact ⟨ro_X.of hX, hbl⟩
  have C : Ok (lw_g l s ro b D cA L xs, p, e, room_1, s, m, #[Value.ref b], below, meth, c, lw_Z below #[Value.ref b] s, 0) RL cL_law 4 100 91 :=
    ⟨hx, hb, hml, hown, htW, hK, hRo, Nat.le_refl _, hlocks, Nat.le_of_ble_eq_true rfl, Nat.le_of_ble_eq_true rfl, Nat.le_of_ble_eq_true rfl, Nat.le_of_ble_eq_true rfl⟩
  have hend : ∀ (L' : List (Option Value)) (I : Is) (J : Js) (b' : Bool), L'.length = 4 → Aw (lw_g l s ro b D cA L xs, p, e, room_1, s, m, #[Value.ref b], below, meth, c, lw_Z below #[Value.ref b] s, 0) 1513 L' [.int 1] (st9 I J b') := by
    intro L' I J b' _ H locs ls _ g2 _
    refine W.widen (k := 600000) (n := 7302250) (Nat.le_of_ble_eq_true rfl) (Nat.le_of_ble_eq_true rfl) ?_
    refine va_forget (fun q hq => g2.2.2 q hq) ?_
    exact lw_ret hx hb hr hlocks dL_law_1513
  have k := law_body C rfl hL hend s.heap [] ((lg_sl ([Value.ref b]) ++ List.replicate (4 - (lg_sl ([Value.ref b])).length) Slot.unset).toArray) ⟨fun _ => rfl, fun t ht => absurd ht (Nat.not_lt_zero t)⟩ va_S.rf (ent_lv (lw_g l s ro b D cA L xs) [.ref 1005] (nL := 4) (by decide))
  rw [lg_entry_eq]
  exact k
