/-! the law's 41 cases -/
def LwL (i : Int32) : List (Option Value) := [some (.ref 1005), some (.ref 0), some (.ref 64), some (.int i)]
/-- the five numbers behind the call's own, as the script has them -/
def Arg (g : Gb) (i m a : Int32) : Prop := vp_in (i + m) (roL g 5) ∧ roF g 5 (ix (i + m)) = a
theorem r_arg {X : Cx} {own : String} {cc : ByteArray} {nL d n1 pc : Nat} {L : List (Option Value)} {S : List Value} {σ : St} (C : Ok X own cc nL d n1) {i m a : Int32} (hd : decode cc pc = .ok (.iaload, 1)) (ha : Arg (x_g X) i m a) (k : Aw X (pc + 1) L (.int a :: S) σ) : Aw X pc L (.int (i + m) :: .ref 1005 :: S) σ := by
  have k' := k
  rw [← ha.2] at k'
  exact r_iaro C (j := 5) rfl hd ha.1 k'
section LAW
variable {X : Cx} {own : String} {cc : ByteArray} {nL d : Nat} {pc : Nat} {L : List (Option Value)} {S : List Value} {I : Is} {J : Js} {b : Bool}
theorem cW (C : Ok X own cc nL d 91) (hx : x_n X = 0) {M : Mt} {k d' idx t ci : Nat} {As rest : List Value} {Q' : Option Value → St → Prop} (hM : MC9 (x_g X) d' M (.ref t :: As) I J b Q') (hm : mOk M k) (hl : Cond.methodLink own idx M.1 ∈ Wall) (hi : Cond.instanceMethod M.1 ∈ Wall) (hs : Cond.selects M.1.cls M.1 M.1 ∈ Wall)
    (hd : decode cc pc = .ok (.invokevirtual idx, 3)) (hS : As.reverse ++ .ref t :: rest = S) (hk : As.length = k) (hc : chk 91 t ci = true) (hci : Nat.blt ci 11 = true) (hnm : M.1.cls = nmOf ci) (hdd : d' + 1 ≤ d) (hL : L.length = nL) (hrest : Nat.ble (rest.map fun v => v.category).sum 8 = true)
    (kk : ∀ (v : Option Value) (σ' : St), Q' v σ' → Aw X (pc + 3) L (v.toList ++ rest) σ') : Aw X pc L S (st9 I J b) :=
  r_callV C hM hm hl hi hs hd hS hk hc (Nat.le_of_ble_eq_true hci) hnm hdd (by rw [hx]; exact Nat.zero_le _) (Nat.le_refl _) (Nat.le_refl _) (Nat.le_refl _) hL (Nat.le_of_ble_eq_true hrest) (fun v σ' h _ => kk v σ' h)
end LAW
theorem lg_self (x : Int64) : lg_cmp x x = 0 := by
  unfold lg_cmp
  rw [if_neg (Int64.lt_irrefl), if_pos rfl]
set_option maxRecDepth 100000 in
theorem lw_straw {X : Cx} (C : Ok X RL cL_law 4 100 91) (hx : x_n X = 0) {i a1 a2 a3 a4 a5 : Int32} (ha : Arg (x_g X) i 1 a1 ∧ Arg (x_g X) i 2 a2 ∧ Arg (x_g X) i 3 a3 ∧ Arg (x_g X) i 4 a4 ∧ Arg (x_g X) i 5 a5) {I : Is} {J : Js} {b : Bool} (hR : Rel I J b) (k : ∀ I2 J2 b2, Rel I2 J2 b2 → Aw X 1506 (LwL i) [] (st9 I2 J2 b2)) : Aw X 212 (LwL i) [] (st9 I J b) := by
  refine r_aload_n C dL_law_212 rfl ?_
  refine r_aload_n C dL_law_213 rfl ?_
  refine r_iload_n C dL_law_214 rfl ?_
  refine r_iconst C (v := 1) dL_law_215 (by decide) ?_
  refine r_iadd C dL_law_216 ?_
  refine r_arg C dL_law_217 ha.1 ?_
  refine r_aload_n C dL_law_218 rfl ?_
  refine r_iload_n C dL_law_219 rfl ?_
  refine r_iconst C (v := 2) dL_law_220 (by decide) ?_
  refine r_iadd C dL_law_221 ?_
  refine r_arg C dL_law_222 ha.2.1 ?_
  refine cW (ci := 9) C hx (sX9_straw (d := 99) (by decide) _ _ I J b (pc_s0 hR)) moX9_straw mlL_13 miX9_straw msX9_straw dL_law_223 rfl rfl rfl rfl rfl (by decide) rfl rfl (ki (fun v1 I1 q1 => ?_))
  have hi : HI I I1 := hi_straw q1
  refine r_aload_n C dL_law_226 rfl ?_
  refine r_aload_n C dL_law_227 rfl ?_
  refine r_iload_n C dL_law_228 rfl ?_
  refine r_iconst C (v := 1) dL_law_229 (by decide) ?_
  refine r_iadd C dL_law_230 ?_
  refine r_arg C dL_law_231 ha.1 ?_
  refine r_aload_n C dL_law_232 rfl ?_
  refine r_iload_n C dL_law_233 rfl ?_
  refine r_iconst C (v := 2) dL_law_234 (by decide) ?_
  refine r_iadd C dL_law_235 ?_
  refine r_arg C dL_law_236 ha.2.1 ?_
  refine cW (ci := 10) C hx (sX10_straw (d := 99) (by decide) _ _ I1 J b (pm_s0 hR hi) (pm_s3 hR hi)) moX10_straw mlL_17 miX10_straw msX10_straw dL_law_237 rfl rfl rfl rfl rfl (by decide) rfl rfl (ki (fun v2 I2 q2 => ?_))
  have hc := c_straw hR q1 q2
  exact r_iceq C (tgt := 1506) dL_law_240 rfl (fun _ => k I2 J b hc.2) (fun h => absurd hc.1.symm h)
set_option maxRecDepth 100000 in
theorem lw_straws {X : Cx} (C : Ok X RL cL_law 4 100 91) (hx : x_n X = 0) {i a1 a2 a3 a4 a5 : Int32} (ha : Arg (x_g X) i 1 a1 ∧ Arg (x_g X) i 2 a2 ∧ Arg (x_g X) i 3 a3 ∧ Arg (x_g X) i 4 a4 ∧ Arg (x_g X) i 5 a5) {I : Is} {J : Js} {b : Bool} (hR : Rel I J b) (k : ∀ I2 J2 b2, Rel I2 J2 b2 → Aw X 1506 (LwL i) [] (st9 I2 J2 b2)) : Aw X 245 (LwL i) [] (st9 I J b) := by
  refine r_aload_n C dL_law_245 rfl ?_
  refine r_aload_n C dL_law_246 rfl ?_
  refine r_iload_n C dL_law_247 rfl ?_
  refine r_iconst C (v := 1) dL_law_248 (by decide) ?_
  refine r_iadd C dL_law_249 ?_
  refine r_arg C dL_law_250 ha.1 ?_
  refine r_aload_n C dL_law_251 rfl ?_
  refine r_iload_n C dL_law_252 rfl ?_
  refine r_iconst C (v := 2) dL_law_253 (by decide) ?_
  refine r_iadd C dL_law_254 ?_
  refine r_arg C dL_law_255 ha.2.1 ?_
  refine r_aload_n C dL_law_256 rfl ?_
  refine r_iload_n C dL_law_257 rfl ?_
  refine r_iconst C (v := 3) dL_law_258 (by decide) ?_
  refine r_iadd C dL_law_259 ?_
  refine r_arg C dL_law_260 ha.2.2.1 ?_
  refine cW (ci := 9) C hx (sX9_straws (d := 99) (by decide) _ _ _ I J b (pc_sz hR) (pc_s0 hR)) moX9_straws mlL_18 miX9_straws msX9_straws dL_law_261 rfl rfl rfl rfl rfl (by decide) rfl rfl (ki (fun v1 I1 q1 => ?_))
  have hi : HI I I1 := hi_straws q1
  refine r_aload_n C dL_law_264 rfl ?_
  refine r_aload_n C dL_law_265 rfl ?_
  refine r_iload_n C dL_law_266 rfl ?_
  refine r_iconst C (v := 1) dL_law_267 (by decide) ?_
  refine r_iadd C dL_law_268 ?_
  refine r_arg C dL_law_269 ha.1 ?_
  refine r_aload_n C dL_law_270 rfl ?_
  refine r_iload_n C dL_law_271 rfl ?_
  refine r_iconst C (v := 2) dL_law_272 (by decide) ?_
  refine r_iadd C dL_law_273 ?_
  refine r_arg C dL_law_274 ha.2.1 ?_
  refine r_aload_n C dL_law_275 rfl ?_
  refine r_iload_n C dL_law_276 rfl ?_
  refine r_iconst C (v := 3) dL_law_277 (by decide) ?_
  refine r_iadd C dL_law_278 ?_
  refine r_arg C dL_law_279 ha.2.2.1 ?_
  refine cW (ci := 10) C hx (sX10_straws (d := 99) (by decide) _ _ _ I1 J b (pm_s0 hR hi) (pm_s3 hR hi) (pm_sz hR hi)) moX10_straws mlL_22 miX10_straws msX10_straws dL_law_280 rfl rfl rfl rfl rfl (by decide) rfl rfl (ki (fun v2 I2 q2 => ?_))
  have hc := c_straws hR q1 q2
  exact r_iceq C (tgt := 1506) dL_law_283 rfl (fun _ => k I2 J b hc.2) (fun h => absurd hc.1.symm h)
set_option maxRecDepth 100000 in
theorem lw_mend {X : Cx} (C : Ok X RL cL_law 4 100 91) (hx : x_n X = 0) {i a1 a2 a3 a4 a5 : Int32} (ha : Arg (x_g X) i 1 a1 ∧ Arg (x_g X) i 2 a2 ∧ Arg (x_g X) i 3 a3 ∧ Arg (x_g X) i 4 a4 ∧ Arg (x_g X) i 5 a5) {I : Is} {J : Js} {b : Bool} (hR : Rel I J b) (k : ∀ I2 J2 b2, Rel I2 J2 b2 → Aw X 1506 (LwL i) [] (st9 I2 J2 b2)) : Aw X 288 (LwL i) [] (st9 I J b) := by
  refine r_aload_n C dL_law_288 rfl ?_
  refine r_aload_n C dL_law_289 rfl ?_
  refine r_iload_n C dL_law_290 rfl ?_
  refine r_iconst C (v := 1) dL_law_291 (by decide) ?_
  refine r_iadd C dL_law_292 ?_
  refine r_arg C dL_law_293 ha.1 ?_
  refine r_aload_n C dL_law_294 rfl ?_
  refine r_iload_n C dL_law_295 rfl ?_
  refine r_iconst C (v := 2) dL_law_296 (by decide) ?_
  refine r_iadd C dL_law_297 ?_
  refine r_arg C dL_law_298 ha.2.1 ?_
  refine r_aload_n C dL_law_299 rfl ?_
  refine r_iload_n C dL_law_300 rfl ?_
  refine r_iconst C (v := 3) dL_law_301 (by decide) ?_
  refine r_iadd C dL_law_302 ?_
  refine r_arg C dL_law_303 ha.2.2.1 ?_
  refine cW (ci := 9) C hx (sX9_mend (d := 99) (by decide) _ _ _ I J b (pc_s3 hR) (pc_d0 hR) (pc_d4 hR)) moX9_mend mlL_23 miX9_mend msX9_mend dL_law_304 rfl rfl rfl rfl rfl (by decide) rfl rfl (ki (fun v1 I1 q1 => ?_))
  have hi : HI I I1 := by
    rcases q1 with ⟨-, -, e⟩ | ⟨-, -, ⟨-, e⟩ | ⟨-, IX, hq, e⟩⟩
    · exact HI.rf e
    · exact HI.rf e
    · rw [e]; exact (HI.fr hq.2.2.2.2.2 (by decide)).tr (HI.u2 (by decide))
  refine r_aload_n C dL_law_307 rfl ?_
  refine r_aload_n C dL_law_308 rfl ?_
  refine r_iload_n C dL_law_309 rfl ?_
  refine r_iconst C (v := 1) dL_law_310 (by decide) ?_
  refine r_iadd C dL_law_311 ?_
  refine r_arg C dL_law_312 ha.1 ?_
  refine r_aload_n C dL_law_313 rfl ?_
  refine r_iload_n C dL_law_314 rfl ?_
  refine r_iconst C (v := 2) dL_law_315 (by decide) ?_
  refine r_iadd C dL_law_316 ?_
  refine r_arg C dL_law_317 ha.2.1 ?_
  refine r_aload_n C dL_law_318 rfl ?_
  refine r_iload_n C dL_law_319 rfl ?_
  refine r_iconst C (v := 3) dL_law_320 (by decide) ?_
  refine r_iadd C dL_law_321 ?_
  refine r_arg C dL_law_322 ha.2.2.1 ?_
  refine cW (ci := 10) C hx (sX10_mend (d := 99) (by decide) _ _ _ I1 J b (pm_s0 hR hi) (pm_s3 hR hi) (pm_d0 hR hi) (pm_d4 hR hi)) moX10_mend mlL_26 miX10_mend msX10_mend dL_law_323 rfl rfl rfl rfl rfl (by decide) rfl rfl (ki (fun v2 I2 q2 => ?_))
  have hc : v2 = v1 ∧ Rel I2 J b := by
    rcases q1 with q | ⟨c, hv, q | ⟨hn, IX, hq, e⟩⟩
    · exact c_mend (IX := I) hR (Or.inl q) q2
    · exact c_mend (IX := I) hR (Or.inr ⟨c, hv, Or.inl q⟩) q2
    · exact c_mend (IX := IX) hR (Or.inr ⟨c, hv, Or.inr ⟨hn, hq, e⟩⟩) q2
  exact r_iceq C (tgt := 1506) dL_law_326 rfl (fun _ => k I2 J b hc.2) (fun h => absurd hc.1.symm h)
set_option maxRecDepth 100000 in
theorem lw_of {X : Cx} (C : Ok X RL cL_law 4 100 91) (hx : x_n X = 0) {i a1 a2 a3 a4 a5 : Int32} (ha : Arg (x_g X) i 1 a1 ∧ Arg (x_g X) i 2 a2 ∧ Arg (x_g X) i 3 a3 ∧ Arg (x_g X) i 4 a4 ∧ Arg (x_g X) i 5 a5) {I : Is} {J : Js} {b : Bool} (hR : Rel I J b) (k : ∀ I2 J2 b2, Rel I2 J2 b2 → Aw X 1506 (LwL i) [] (st9 I2 J2 b2)) : Aw X 331 (LwL i) [] (st9 I J b) := by
  refine r_aload_n C dL_law_331 rfl ?_
  refine r_aload_n C dL_law_332 rfl ?_
  refine r_iload_n C dL_law_333 rfl ?_
  refine r_iconst C (v := 1) dL_law_334 (by decide) ?_
  refine r_iadd C dL_law_335 ?_
  refine r_arg C dL_law_336 ha.1 ?_
  refine r_aload_n C dL_law_337 rfl ?_
  refine r_iload_n C dL_law_338 rfl ?_
  refine r_iconst C (v := 2) dL_law_339 (by decide) ?_
  refine r_iadd C dL_law_340 ?_
  refine r_arg C dL_law_341 ha.2.1 ?_
  refine cW (ci := 9) C hx (sX9_of (d := 99) (by decide) _ _ I J b (pc_s3 hR)) moX9_of mlL_27 miX9_of msX9_of dL_law_342 rfl rfl rfl rfl rfl (by decide) rfl rfl (kp ?_)
  have hi : HI I I := HI.rf rfl
  refine r_aload_n C dL_law_345 rfl ?_
  refine r_aload_n C dL_law_346 rfl ?_
  refine r_iload_n C dL_law_347 rfl ?_
  refine r_iconst C (v := 1) dL_law_348 (by decide) ?_
  refine r_iadd C dL_law_349 ?_
  refine r_arg C dL_law_350 ha.1 ?_
  refine r_aload_n C dL_law_351 rfl ?_
  refine r_iload_n C dL_law_352 rfl ?_
  refine r_iconst C (v := 2) dL_law_353 (by decide) ?_
  refine r_iadd C dL_law_354 ?_
  refine r_arg C dL_law_355 ha.2.1 ?_
  refine cW (ci := 10) C hx (sX10_of (d := 99) (by decide) _ _ I J b (pm_s0 hR hi) (pm_s3 hR hi)) moX10_of mlL_30 miX10_of msX10_of dL_law_356 rfl rfl rfl rfl rfl (by decide) rfl rfl (kp ?_)
  have hc := c_of (I1 := I) (I2 := I) (m := a1) (w := a2) hR ⟨rfl, rfl⟩ ⟨rfl, rfl⟩
  exact r_iceq C (tgt := 1506) dL_law_359 rfl (fun _ => k I J b hc.2) (fun h => absurd hc.1.symm h)
set_option maxRecDepth 100000 in
theorem lw_feed {X : Cx} (C : Ok X RL cL_law 4 100 91) (hx : x_n X = 0) {i a1 a2 a3 a4 a5 : Int32} (ha : Arg (x_g X) i 1 a1 ∧ Arg (x_g X) i 2 a2 ∧ Arg (x_g X) i 3 a3 ∧ Arg (x_g X) i 4 a4 ∧ Arg (x_g X) i 5 a5) {I : Is} {J : Js} {b : Bool} (hR : Rel I J b) (k : ∀ I2 J2 b2, Rel I2 J2 b2 → Aw X 1506 (LwL i) [] (st9 I2 J2 b2)) : Aw X 364 (LwL i) [] (st9 I J b) := by
  refine r_aload_n C dL_law_364 rfl ?_
  refine r_aload_n C dL_law_365 rfl ?_
  refine r_iload_n C dL_law_366 rfl ?_
  refine r_iconst C (v := 1) dL_law_367 (by decide) ?_
  refine r_iadd C dL_law_368 ?_
  refine r_arg C dL_law_369 ha.1 ?_
  refine cW (ci := 9) C hx (sX9_feed (d := 99) (by decide) _ I J b (pc_t0 hR)) moX9_feed mlL_31 miX9_feed msX9_feed dL_law_370 rfl rfl rfl rfl rfl (by decide) rfl rfl (ki (fun v1 I1 q1 => ?_))
  have hi : HI I I1 := by rw [q1.2]; exact hi_feed I _
  refine r_aload_n C dL_law_373 rfl ?_
  refine r_aload_n C dL_law_374 rfl ?_
  refine r_iload_n C dL_law_375 rfl ?_
  refine r_iconst C (v := 1) dL_law_376 (by decide) ?_
  refine r_iadd C dL_law_377 ?_
  refine r_arg C dL_law_378 ha.1 ?_
  refine cW (ci := 10) C hx (sX10_feed (d := 99) (by decide) _ I1 J b (pm_t0 hR hi) (pm_t1 hR hi)) moX10_feed mlL_35 miX10_feed msX10_feed dL_law_379 rfl rfl rfl rfl rfl (by decide) rfl rfl (ki (fun v2 I2 q2 => ?_))
  have hc := c_feed hR q1 q2
  exact r_iceq C (tgt := 1506) dL_law_382 rfl (fun _ => k I2 J b hc.2) (fun h => absurd hc.1.symm h)
set_option maxRecDepth 100000 in
theorem lw_law {X : Cx} (C : Ok X RL cL_law 4 100 91) (hx : x_n X = 0) {i a1 a2 a3 a4 a5 : Int32} (ha : Arg (x_g X) i 1 a1 ∧ Arg (x_g X) i 2 a2 ∧ Arg (x_g X) i 3 a3 ∧ Arg (x_g X) i 4 a4 ∧ Arg (x_g X) i 5 a5) {I : Is} {J : Js} {b : Bool} (hR : Rel I J b) (k : ∀ I2 J2 b2, Rel I2 J2 b2 → Aw X 1506 (LwL i) [] (st9 I2 J2 b2)) : Aw X 387 (LwL i) [] (st9 I J b) := by
  refine r_aload_n C dL_law_387 rfl ?_
  cases b with
  | false =>
    refine cW (ci := 9) C hx (sX9_law_5 (d := 99) (by decide) I J (pc_tr hR)) moX9_law mlL_36 miX9_law msX9_law dL_law_388 rfl rfl rfl rfl rfl (by decide) rfl rfl (kg (fun r1 I1 J1 b1 q1 => ?_))
    obtain ⟨hJ, hI, -, hq⟩ := q1
    have hi : HI I I1 := by rw [hI]; exact hi_law (by decide) I
    obtain ⟨v1, hr, hq⟩ : ∃ v1, r1 = some (.int v1) ∧ ((0 ≤ (lawF 5 I).1.toInt ∧ v1 = -100 - (lawF 5 I).1 ∧ b1 = false) ∨ ((lawF 5 I).1.toInt < 0 ∧ v1 = 1 ∧ b1 = true)) := by
      rcases hq with ⟨c, e, h⟩ | ⟨c, e, h⟩
      · exact ⟨_, e, Or.inl ⟨c, rfl, h⟩⟩
      · exact ⟨_, e, Or.inr ⟨c, rfl, h⟩⟩
    rw [hr, hJ]
    show Aw X 391 (LwL i) [.int v1] (st9 I1 J b1)
    refine r_aload_n C dL_law_391 rfl ?_
    refine cW (ci := 10) C hx (sX10_law (d := 99) (by decide) I1 J b1 (pm_t0 hR hi) (pm_t1 hR hi)) moX10_law mlL_40 miX10_law msX10_law dL_law_392 rfl rfl rfl rfl rfl (by decide) rfl rfl (ki (fun v2 I2 q2 => ?_))
    have hc := law_rel (u := 5) (b := false) (b2 := true) (by decide) rfl rfl hR hI hq q2
    exact r_iceq C (tgt := 1506) dL_law_395 rfl (fun _ => k I2 J b1 hc.2) (fun h => absurd hc.1.symm h)
  | true =>
    refine cW (ci := 9) C hx (sX9_law_10 (d := 99) (by decide) I J (pc_tr hR)) moX9_law mlL_36 miX9_law msX9_law dL_law_388 rfl rfl rfl rfl rfl (by decide) rfl rfl (kg (fun r1 I1 J1 b1 q1 => ?_))
    obtain ⟨hJ, hI, -, hq⟩ := q1
    have hi : HI I I1 := by rw [hI]; exact hi_law (by decide) I
    obtain ⟨v1, hr, hq⟩ : ∃ v1, r1 = some (.int v1) ∧ ((0 ≤ (lawF 10 I).1.toInt ∧ v1 = -100 - (lawF 10 I).1 ∧ b1 = true) ∨ ((lawF 10 I).1.toInt < 0 ∧ v1 = 1 ∧ b1 = false)) := by
      rcases hq with ⟨c, e, h⟩ | ⟨c, e, h⟩
      · exact ⟨_, e, Or.inl ⟨c, rfl, h⟩⟩
      · exact ⟨_, e, Or.inr ⟨c, rfl, h⟩⟩
    rw [hr, hJ]
    show Aw X 391 (LwL i) [.int v1] (st9 I1 J b1)
    refine r_aload_n C dL_law_391 rfl ?_
    refine cW (ci := 10) C hx (sX10_law (d := 99) (by decide) I1 J b1 (pm_t0 hR hi) (pm_t1 hR hi)) moX10_law mlL_40 miX10_law msX10_law dL_law_392 rfl rfl rfl rfl rfl (by decide) rfl rfl (ki (fun v2 I2 q2 => ?_))
    have hc := law_rel (u := 10) (b := true) (b2 := false) (by decide) rfl rfl hR hI hq q2
    exact r_iceq C (tgt := 1506) dL_law_395 rfl (fun _ => k I2 J b1 hc.2) (fun h => absurd hc.1.symm h)
set_option maxRecDepth 100000 in
theorem lw_wants {X : Cx} (C : Ok X RL cL_law 4 100 91) (hx : x_n X = 0) {i a1 a2 a3 a4 a5 : Int32} (ha : Arg (x_g X) i 1 a1 ∧ Arg (x_g X) i 2 a2 ∧ Arg (x_g X) i 3 a3 ∧ Arg (x_g X) i 4 a4 ∧ Arg (x_g X) i 5 a5) {I : Is} {J : Js} {b : Bool} (hR : Rel I J b) (k : ∀ I2 J2 b2, Rel I2 J2 b2 → Aw X 1506 (LwL i) [] (st9 I2 J2 b2)) : Aw X 400 (LwL i) [] (st9 I J b) := by
  refine r_aload_n C dL_law_400 rfl ?_
  refine r_aload_n C dL_law_401 rfl ?_
  refine r_iload_n C dL_law_402 rfl ?_
  refine r_iconst C (v := 1) dL_law_403 (by decide) ?_
  refine r_iadd C dL_law_404 ?_
  refine r_arg C dL_law_405 ha.1 ?_
  refine r_aload_n C dL_law_406 rfl ?_
  refine r_iload_n C dL_law_407 rfl ?_
  refine r_iconst C (v := 2) dL_law_408 (by decide) ?_
  refine r_iadd C dL_law_409 ?_
  refine r_arg C dL_law_410 ha.2.1 ?_
  refine r_aload_n C dL_law_411 rfl ?_
  refine r_iload_n C dL_law_412 rfl ?_
  refine r_iconst C (v := 3) dL_law_413 (by decide) ?_
  refine r_iadd C dL_law_414 ?_
  refine r_arg C dL_law_415 ha.2.2.1 ?_
  refine cW (ci := 9) C hx (sX9_wants (d := 99) (by decide) _ _ _ I J b (pc_s0 hR) (pc_s3 hR) (pc_NW hR) (pc_TW hR) (pc_ti hR)) moX9_wants mlL_41 miX9_wants msX9_wants dL_law_416 rfl rfl rfl rfl rfl (by decide) rfl rfl (ki (fun v1 I1 q1 => ?_))
  have hi : HI I I1 := hi_wants q1
  refine r_aload_n C dL_law_419 rfl ?_
  refine r_aload_n C dL_law_420 rfl ?_
  refine r_iload_n C dL_law_421 rfl ?_
  refine r_iconst C (v := 1) dL_law_422 (by decide) ?_
  refine r_iadd C dL_law_423 ?_
  refine r_arg C dL_law_424 ha.1 ?_
  refine r_aload_n C dL_law_425 rfl ?_
  refine r_iload_n C dL_law_426 rfl ?_
  refine r_iconst C (v := 2) dL_law_427 (by decide) ?_
  refine r_iadd C dL_law_428 ?_
  refine r_arg C dL_law_429 ha.2.1 ?_
  refine r_aload_n C dL_law_430 rfl ?_
  refine r_iload_n C dL_law_431 rfl ?_
  refine r_iconst C (v := 3) dL_law_432 (by decide) ?_
  refine r_iadd C dL_law_433 ?_
  refine r_arg C dL_law_434 ha.2.2.1 ?_
  refine cW (ci := 10) C hx (sX10_wants (d := 99) (by decide) _ _ _ I1 J b (pm_s0 hR hi) (pm_s3 hR hi) (pm_ti hR hi) (pm_14 hR hi)) moX10_wants mlL_44 miX10_wants msX10_wants dL_law_435 rfl rfl rfl rfl rfl (by decide) rfl rfl (ki (fun v2 I2 q2 => ?_))
  have hc := c_wants hR q1 q2
  exact r_iceq C (tgt := 1506) dL_law_438 rfl (fun _ => k I2 J b hc.2) (fun h => absurd hc.1.symm h)
set_option maxRecDepth 100000 in
theorem lw_glass {X : Cx} (C : Ok X RL cL_law 4 100 91) (hx : x_n X = 0) {i a1 a2 a3 a4 a5 : Int32} (ha : Arg (x_g X) i 1 a1 ∧ Arg (x_g X) i 2 a2 ∧ Arg (x_g X) i 3 a3 ∧ Arg (x_g X) i 4 a4 ∧ Arg (x_g X) i 5 a5) {I : Is} {J : Js} {b : Bool} (hR : Rel I J b) (k : ∀ I2 J2 b2, Rel I2 J2 b2 → Aw X 1506 (LwL i) [] (st9 I2 J2 b2)) : Aw X 443 (LwL i) [] (st9 I J b) := by
  refine r_aload_n C dL_law_443 rfl ?_
  refine r_aload_n C dL_law_444 rfl ?_
  refine r_iload_n C dL_law_445 rfl ?_
  refine r_iconst C (v := 1) dL_law_446 (by decide) ?_
  refine r_iadd C dL_law_447 ?_
  refine r_arg C dL_law_448 ha.1 ?_
  refine r_aload_n C dL_law_449 rfl ?_
  refine r_iload_n C dL_law_450 rfl ?_
  refine r_iconst C (v := 2) dL_law_451 (by decide) ?_
  refine r_iadd C dL_law_452 ?_
  refine r_arg C dL_law_453 ha.2.1 ?_
  refine r_aload_n C dL_law_454 rfl ?_
  refine r_iload_n C dL_law_455 rfl ?_
  refine r_iconst C (v := 3) dL_law_456 (by decide) ?_
  refine r_iadd C dL_law_457 ?_
  refine r_arg C dL_law_458 ha.2.2.1 ?_
  refine cW (ci := 9) C hx (sX9_glass (d := 99) (by decide) _ _ _ I J b (pc_s0 hR) (pc_s3 hR) (pc_NW hR) (pc_TW hR) (pc_v hR)) moX9_glass mlL_45 miX9_glass msX9_glass dL_law_459 rfl rfl rfl rfl rfl (by decide) rfl rfl (ki (fun v1 I1 q1 => ?_))
  have hi : HI I I1 := hi_glass q1
  refine r_aload_n C dL_law_462 rfl ?_
  refine r_aload_n C dL_law_463 rfl ?_
  refine r_iload_n C dL_law_464 rfl ?_
  refine r_iconst C (v := 1) dL_law_465 (by decide) ?_
  refine r_iadd C dL_law_466 ?_
  refine r_arg C dL_law_467 ha.1 ?_
  refine r_aload_n C dL_law_468 rfl ?_
  refine r_iload_n C dL_law_469 rfl ?_
  refine r_iconst C (v := 2) dL_law_470 (by decide) ?_
  refine r_iadd C dL_law_471 ?_
  refine r_arg C dL_law_472 ha.2.1 ?_
  refine r_aload_n C dL_law_473 rfl ?_
  refine r_iload_n C dL_law_474 rfl ?_
  refine r_iconst C (v := 3) dL_law_475 (by decide) ?_
  refine r_iadd C dL_law_476 ?_
  refine r_arg C dL_law_477 ha.2.2.1 ?_
  refine cW (ci := 10) C hx (sX10_glass (d := 99) (by decide) _ _ _ I1 J b (pm_NM hR hi) (pm_v hR hi)) moX10_glass mlL_48 miX10_glass msX10_glass dL_law_478 rfl rfl rfl rfl rfl (by decide) rfl rfl (ki (fun v2 I2 q2 => ?_))
  have hc := c_glass hR q1 q2
  exact r_iceq C (tgt := 1506) dL_law_481 rfl (fun _ => k I2 J b hc.2) (fun h => absurd hc.1.symm h)
set_option maxRecDepth 100000 in
theorem lw_level {X : Cx} (C : Ok X RL cL_law 4 100 91) (hx : x_n X = 0) {i a1 a2 a3 a4 a5 : Int32} (ha : Arg (x_g X) i 1 a1 ∧ Arg (x_g X) i 2 a2 ∧ Arg (x_g X) i 3 a3 ∧ Arg (x_g X) i 4 a4 ∧ Arg (x_g X) i 5 a5) {I : Is} {J : Js} {b : Bool} (hR : Rel I J b) (k : ∀ I2 J2 b2, Rel I2 J2 b2 → Aw X 1506 (LwL i) [] (st9 I2 J2 b2)) : Aw X 486 (LwL i) [] (st9 I J b) := by
  refine r_aload_n C dL_law_486 rfl ?_
  refine r_aload_n C dL_law_487 rfl ?_
  refine r_iload_n C dL_law_488 rfl ?_
  refine r_iconst C (v := 1) dL_law_489 (by decide) ?_
  refine r_iadd C dL_law_490 ?_
  refine r_arg C dL_law_491 ha.1 ?_
  refine r_aload_n C dL_law_492 rfl ?_
  refine r_iload_n C dL_law_493 rfl ?_
  refine r_iconst C (v := 2) dL_law_494 (by decide) ?_
  refine r_iadd C dL_law_495 ?_
  refine r_arg C dL_law_496 ha.2.1 ?_
  refine cW (ci := 9) C hx (sX9_level (d := 99) (by decide) _ _ I J b (pc_s0 hR) (pc_s3 hR) (pc_NW hR) (pc_TW hR) (pc_v hR)) moX9_level mlL_49 miX9_level msX9_level dL_law_497 rfl rfl rfl rfl rfl (by decide) rfl rfl (ki (fun v1 I1 q1 => ?_))
  have hi : HI I I1 := hi_level q1
  refine r_aload_n C dL_law_500 rfl ?_
  refine r_aload_n C dL_law_501 rfl ?_
  refine r_iload_n C dL_law_502 rfl ?_
  refine r_iconst C (v := 1) dL_law_503 (by decide) ?_
  refine r_iadd C dL_law_504 ?_
  refine r_arg C dL_law_505 ha.1 ?_
  refine r_aload_n C dL_law_506 rfl ?_
  refine r_iload_n C dL_law_507 rfl ?_
  refine r_iconst C (v := 2) dL_law_508 (by decide) ?_
  refine r_iadd C dL_law_509 ?_
  refine r_arg C dL_law_510 ha.2.1 ?_
  refine cW (ci := 10) C hx (sX10_level (d := 99) (by decide) _ _ I1 J b (pm_NM hR hi) (pm_v hR hi)) moX10_level mlL_52 miX10_level msX10_level dL_law_511 rfl rfl rfl rfl rfl (by decide) rfl rfl (ki (fun v2 I2 q2 => ?_))
  have hc := c_level hR q1 q2
  exact r_iceq C (tgt := 1506) dL_law_514 rfl (fun _ => k I2 J b hc.2) (fun h => absurd hc.1.symm h)
set_option maxRecDepth 100000 in
theorem lw_empty {X : Cx} (C : Ok X RL cL_law 4 100 91) (hx : x_n X = 0) {i a1 a2 a3 a4 a5 : Int32} (ha : Arg (x_g X) i 1 a1 ∧ Arg (x_g X) i 2 a2 ∧ Arg (x_g X) i 3 a3 ∧ Arg (x_g X) i 4 a4 ∧ Arg (x_g X) i 5 a5) {I : Is} {J : Js} {b : Bool} (hR : Rel I J b) (k : ∀ I2 J2 b2, Rel I2 J2 b2 → Aw X 1506 (LwL i) [] (st9 I2 J2 b2)) : Aw X 519 (LwL i) [] (st9 I J b) := by
  refine r_aload_n C dL_law_519 rfl ?_
  refine cW (ci := 9) C hx (sX9_empty (d := 99) (by decide) I J b (pc_s0 hR) (pc_s3 hR) (pc_NW hR) (pc_TW hR) (pc_v hR)) moX9_empty mlL_53 miX9_empty msX9_empty dL_law_520 rfl rfl rfl rfl rfl (by decide) rfl rfl (ki (fun v1 I1 q1 => ?_))
  have hi : HI I I1 := hi_empty q1
  refine r_aload_n C dL_law_523 rfl ?_
  refine cW (ci := 10) C hx (sX10_empty (d := 99) (by decide) I1 J b (pm_NM hR hi) (pm_v hR hi)) moX10_empty mlL_56 miX10_empty msX10_empty dL_law_524 rfl rfl rfl rfl rfl (by decide) rfl rfl (ki (fun v2 I2 q2 => ?_))
  have hc := c_empty hR q1 q2
  exact r_iceq C (tgt := 1506) dL_law_527 rfl (fun _ => k I2 J b hc.2) (fun h => absurd hc.1.symm h)
set_option maxRecDepth 100000 in
theorem lw_more {X : Cx} (C : Ok X RL cL_law 4 100 91) (hx : x_n X = 0) {i a1 a2 a3 a4 a5 : Int32} (ha : Arg (x_g X) i 1 a1 ∧ Arg (x_g X) i 2 a2 ∧ Arg (x_g X) i 3 a3 ∧ Arg (x_g X) i 4 a4 ∧ Arg (x_g X) i 5 a5) {I : Is} {J : Js} {b : Bool} (hR : Rel I J b) (k : ∀ I2 J2 b2, Rel I2 J2 b2 → Aw X 1506 (LwL i) [] (st9 I2 J2 b2)) : Aw X 532 (LwL i) [] (st9 I J b) := by
  refine r_aload_n C dL_law_532 rfl ?_
  refine r_aload_n C dL_law_533 rfl ?_
  refine r_iload_n C dL_law_534 rfl ?_
  refine r_iconst C (v := 1) dL_law_535 (by decide) ?_
  refine r_iadd C dL_law_536 ?_
  refine r_arg C dL_law_537 ha.1 ?_
  refine r_aload_n C dL_law_538 rfl ?_
  refine r_iload_n C dL_law_539 rfl ?_
  refine r_iconst C (v := 2) dL_law_540 (by decide) ?_
  refine r_iadd C dL_law_541 ?_
  refine r_arg C dL_law_542 ha.2.1 ?_
  refine cW (ci := 9) C hx (sX9_more (d := 99) (by decide) _ _ I J b (pc_s0 hR) (pc_s3 hR) (pc_NW hR) (pc_TW hR) (pc_v hR)) moX9_more mlL_57 miX9_more msX9_more dL_law_543 rfl rfl rfl rfl rfl (by decide) rfl rfl (ki (fun v1 I1 q1 => ?_))
  have hi : HI I I1 := hi_more q1
  refine r_aload_n C dL_law_546 rfl ?_
  refine r_aload_n C dL_law_547 rfl ?_
  refine r_iload_n C dL_law_548 rfl ?_
  refine r_iconst C (v := 1) dL_law_549 (by decide) ?_
  refine r_iadd C dL_law_550 ?_
  refine r_arg C dL_law_551 ha.1 ?_
  refine r_aload_n C dL_law_552 rfl ?_
  refine r_iload_n C dL_law_553 rfl ?_
  refine r_iconst C (v := 2) dL_law_554 (by decide) ?_
  refine r_iadd C dL_law_555 ?_
  refine r_arg C dL_law_556 ha.2.1 ?_
  refine cW (ci := 10) C hx (sX10_more (d := 99) (by decide) _ _ I1 J b (pm_NM hR hi) (pm_v hR hi)) moX10_more mlL_60 miX10_more msX10_more dL_law_557 rfl rfl rfl rfl rfl (by decide) rfl rfl (ki (fun v2 I2 q2 => ?_))
  have hc := c_more hR q1 q2
  exact r_iceq C (tgt := 1506) dL_law_560 rfl (fun _ => k I2 J b hc.2) (fun h => absurd hc.1.symm h)
set_option maxRecDepth 100000 in
theorem lw_turns {X : Cx} (C : Ok X RL cL_law 4 100 91) (hx : x_n X = 0) {i a1 a2 a3 a4 a5 : Int32} (ha : Arg (x_g X) i 1 a1 ∧ Arg (x_g X) i 2 a2 ∧ Arg (x_g X) i 3 a3 ∧ Arg (x_g X) i 4 a4 ∧ Arg (x_g X) i 5 a5) {I : Is} {J : Js} {b : Bool} (hR : Rel I J b) (k : ∀ I2 J2 b2, Rel I2 J2 b2 → Aw X 1506 (LwL i) [] (st9 I2 J2 b2)) : Aw X 565 (LwL i) [] (st9 I J b) := by
  refine r_aload_n C dL_law_565 rfl ?_
  refine r_aload_n C dL_law_566 rfl ?_
  refine r_iload_n C dL_law_567 rfl ?_
  refine r_iconst C (v := 1) dL_law_568 (by decide) ?_
  refine r_iadd C dL_law_569 ?_
  refine r_arg C dL_law_570 ha.1 ?_
  refine r_aload_n C dL_law_571 rfl ?_
  refine r_iload_n C dL_law_572 rfl ?_
  refine r_iconst C (v := 2) dL_law_573 (by decide) ?_
  refine r_iadd C dL_law_574 ?_
  refine r_arg C dL_law_575 ha.2.1 ?_
  refine r_aload_n C dL_law_576 rfl ?_
  refine r_iload_n C dL_law_577 rfl ?_
  refine r_iconst C (v := 3) dL_law_578 (by decide) ?_
  refine r_iadd C dL_law_579 ?_
  refine r_arg C dL_law_580 ha.2.2.1 ?_
  refine cW (ci := 9) C hx (sX9_turns (d := 99) (by decide) _ _ _ I J b (pc_s0 hR) (pc_s3 hR) (pc_NW hR) (pc_TW hR) (pc_v hR)) moX9_turns mlL_61 miX9_turns msX9_turns dL_law_581 rfl rfl rfl rfl rfl (by decide) rfl rfl (ki (fun v1 I1 q1 => ?_))
  have hi : HI I I1 := hi_turns q1
  refine r_aload_n C dL_law_584 rfl ?_
  refine r_aload_n C dL_law_585 rfl ?_
  refine r_iload_n C dL_law_586 rfl ?_
  refine r_iconst C (v := 1) dL_law_587 (by decide) ?_
  refine r_iadd C dL_law_588 ?_
  refine r_arg C dL_law_589 ha.1 ?_
  refine r_aload_n C dL_law_590 rfl ?_
  refine r_iload_n C dL_law_591 rfl ?_
  refine r_iconst C (v := 2) dL_law_592 (by decide) ?_
  refine r_iadd C dL_law_593 ?_
  refine r_arg C dL_law_594 ha.2.1 ?_
  refine r_aload_n C dL_law_595 rfl ?_
  refine r_iload_n C dL_law_596 rfl ?_
  refine r_iconst C (v := 3) dL_law_597 (by decide) ?_
  refine r_iadd C dL_law_598 ?_
  refine r_arg C dL_law_599 ha.2.2.1 ?_
  refine cW (ci := 10) C hx (sX10_turns (d := 99) (by decide) _ _ _ I1 J b (pm_NM hR hi) (pm_v hR hi)) moX10_turns mlL_64 miX10_turns msX10_turns dL_law_600 rfl rfl rfl rfl rfl (by decide) rfl rfl (ki (fun v2 I2 q2 => ?_))
  have hc := c_turns hR q1 q2
  exact r_iceq C (tgt := 1506) dL_law_603 rfl (fun _ => k I2 J b hc.2) (fun h => absurd hc.1.symm h)
set_option maxRecDepth 100000 in
theorem lw_mark {X : Cx} (C : Ok X RL cL_law 4 100 91) (hx : x_n X = 0) {i a1 a2 a3 a4 a5 : Int32} (ha : Arg (x_g X) i 1 a1 ∧ Arg (x_g X) i 2 a2 ∧ Arg (x_g X) i 3 a3 ∧ Arg (x_g X) i 4 a4 ∧ Arg (x_g X) i 5 a5) {I : Is} {J : Js} {b : Bool} (hR : Rel I J b) (k : ∀ I2 J2 b2, Rel I2 J2 b2 → Aw X 1506 (LwL i) [] (st9 I2 J2 b2)) : Aw X 608 (LwL i) [] (st9 I J b) := by
  refine r_aload_n C dL_law_608 rfl ?_
  refine r_aload_n C dL_law_609 rfl ?_
  refine r_iload_n C dL_law_610 rfl ?_
  refine r_iconst C (v := 1) dL_law_611 (by decide) ?_
  refine r_iadd C dL_law_612 ?_
  refine r_arg C dL_law_613 ha.1 ?_
  refine cW (ci := 9) C hx (sX9_mark (d := 99) (by decide) _ I J b (pc_s0 hR) (pc_s3 hR) (pc_NW hR) (pc_TW hR) (pc_v hR)) moX9_mark mlL_65 miX9_mark msX9_mark dL_law_614 rfl rfl rfl rfl rfl (by decide) rfl rfl (ki (fun v1 I1 q1 => ?_))
  have hi : HI I I1 := hi_mark q1
  refine r_aload_n C dL_law_617 rfl ?_
  refine r_aload_n C dL_law_618 rfl ?_
  refine r_iload_n C dL_law_619 rfl ?_
  refine r_iconst C (v := 1) dL_law_620 (by decide) ?_
  refine r_iadd C dL_law_621 ?_
  refine r_arg C dL_law_622 ha.1 ?_
  refine cW (ci := 10) C hx (sX10_mark (d := 99) (by decide) _ I1 J b (pm_NM hR hi) (pm_v hR hi)) moX10_mark mlL_68 miX10_mark msX10_mark dL_law_623 rfl rfl rfl rfl rfl (by decide) rfl rfl (ki (fun v2 I2 q2 => ?_))
  have hc := c_mark hR q1 q2
  exact r_iceq C (tgt := 1506) dL_law_626 rfl (fun _ => k I2 J b hc.2) (fun h => absurd hc.1.symm h)
set_option maxRecDepth 100000 in
theorem lw_halves {X : Cx} (C : Ok X RL cL_law 4 100 91) (hx : x_n X = 0) {i a1 a2 a3 a4 a5 : Int32} (ha : Arg (x_g X) i 1 a1 ∧ Arg (x_g X) i 2 a2 ∧ Arg (x_g X) i 3 a3 ∧ Arg (x_g X) i 4 a4 ∧ Arg (x_g X) i 5 a5) {I : Is} {J : Js} {b : Bool} (hR : Rel I J b) (k : ∀ I2 J2 b2, Rel I2 J2 b2 → Aw X 1506 (LwL i) [] (st9 I2 J2 b2)) : Aw X 631 (LwL i) [] (st9 I J b) := by
  refine r_aload_n C dL_law_631 rfl ?_
  refine r_aload_n C dL_law_632 rfl ?_
  refine r_iload_n C dL_law_633 rfl ?_
  refine r_iconst C (v := 1) dL_law_634 (by decide) ?_
  refine r_iadd C dL_law_635 ?_
  refine r_arg C dL_law_636 ha.1 ?_
  refine r_aload_n C dL_law_637 rfl ?_
  refine r_iload_n C dL_law_638 rfl ?_
  refine r_iconst C (v := 2) dL_law_639 (by decide) ?_
  refine r_iadd C dL_law_640 ?_
  refine r_arg C dL_law_641 ha.2.1 ?_
  refine cW (ci := 9) C hx (sX9_halves (d := 99) (by decide) _ _ I J b (pc_s0 hR) (pc_s3 hR) (pc_NW hR) (pc_TW hR) (pc_v hR) (pc_lv hR)) moX9_halves mlL_69 miX9_halves msX9_halves dL_law_642 rfl rfl rfl rfl rfl (by decide) rfl rfl (ki (fun v1 I1 q1 => ?_))
  have hi : HI I I1 := hi_halves q1
  refine r_aload_n C dL_law_645 rfl ?_
  refine r_aload_n C dL_law_646 rfl ?_
  refine r_iload_n C dL_law_647 rfl ?_
  refine r_iconst C (v := 1) dL_law_648 (by decide) ?_
  refine r_iadd C dL_law_649 ?_
  refine r_arg C dL_law_650 ha.1 ?_
  refine r_aload_n C dL_law_651 rfl ?_
  refine r_iload_n C dL_law_652 rfl ?_
  refine r_iconst C (v := 2) dL_law_653 (by decide) ?_
  refine r_iadd C dL_law_654 ?_
  refine r_arg C dL_law_655 ha.2.1 ?_
  refine cW (ci := 10) C hx (sX10_halves (d := 99) (by decide) _ _ I1 J b (pm_NM hR hi) (pm_v hR hi)) moX10_halves mlL_72 miX10_halves msX10_halves dL_law_656 rfl rfl rfl rfl rfl (by decide) rfl rfl (ki (fun v2 I2 q2 => ?_))
  have hc := c_halves hR q1 q2
  exact r_iceq C (tgt := 1506) dL_law_659 rfl (fun _ => k I2 J b hc.2) (fun h => absurd hc.1.symm h)
