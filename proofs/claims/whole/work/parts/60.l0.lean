/-! the law's loop -/
abbrev mLW (nm : String) : ab_M := (⟨RL, nm, "([I)Z"⟩, cL_law, 8, some .boolean, 13, 494)
abbrev lwL (k : Nat) : List (Nat × Value) := [(4, .int (nI (6 * k))), (3, .ref 54), (2, .ref 42), (1, .ref 0), (0, .float 1)]
def LInv (c : CS) (D : List ab_E) (Q : QT) (nw : Nat) (s : MS) (k : Nat) : Prop := RS c D Q nw s ∧ (∃ f, D[0]? = some (eCell f)) ∧ D.length ≤ 1 + 100 * k ∧ ab_sz D ≤ 1 + 1000 * k
theorem n_up1 {a b k : Nat} (h : a ≤ 1 + 100 * k) (u : b ≤ a + 100) : b ≤ 1 + 100 * (k + 1) := by omega
theorem n_up2 {a b k : Nat} (h : a ≤ 1 + 1000 * k) (u : b ≤ a + 1000) : b ≤ 1 + 1000 * (k + 1) := by
  rw [Nat.mul_succ, ← Nat.add_assoc]
  exact Nat.le_trans u (Nat.add_le_add_right h 1000)
theorem n_up3 {a b d k : Nat} (h1 : a ≤ 2000) (h2 : b ≤ 1000) (h3 : d ≤ 1 + 1000 * k) (hk : k ≤ 513) : a + (b + d) ≤ 520000 := by omega
theorem n_up4 {d k : Nat} (h3 : d ≤ 1 + 100 * k) (hk : k ≤ 513) : 42 + (12 + d) ≤ 51400 := by omega
theorem szC (c : CS) : ab_sz (cC c) = ab_sz (cC cz) := rfl
theorem szM (s : MS) : ab_sz (mC s) = ab_sz (mC mz) := rfl
theorem szC2 (c : CS) : ab_sz (cC c) ≤ 2000 := by rw [szC]; decide +kernel
theorem szM2 (s : MS) : ab_sz (mC s) ≤ 1000 := by rw [szM]; decide +kernel
theorem LI_up {c c2 : CS} {D D2 : List ab_E} {Q Q2 : QT} {nw nw2 k : Nat} {s s2 : MS} (h : LInv c D Q nw s k) (hu : upD 100 1000 D D2) (hr : RS c2 D2 Q2 nw2 s2) : LInv c2 D2 Q2 nw2 s2 (k + 1) := by
  obtain ⟨h1, ⟨f, hf⟩, h3, h4⟩ := h
  obtain ⟨u1, u2, u3⟩ := hu
  exact ⟨hr, ⟨f, u3 f hf⟩, n_up1 h3 u1, n_up2 h4 u2⟩
theorem up_0 (D : List ab_E) : upD 100 1000 D D := up_le (up_rf D) (by decide) (by decide)
section LAW
variable {G : ab_G} {nm : String} {X : ab_X} {L : Nat} {xs : Nat → Int32}
theorem lw_arg {pc : Nat} {l : List (Nat × Value)} {st : List Value} {h : List ab_E} {k j : Nat} {n : Int} (hX : ab_Good G (mLW nm) X) (hsc : va_X (G.2.2.1 1) L xs G.2.2.2.2.1 G.2.2.2.2.1.heap ∧ G.2.2.1 1 < G.2.1) (hk : 6 * k + j < L) (hL : L ≤ 3072) (m0 : (0, Value.float 1) ∈ l) (m4 : (4, Value.int (nI (6 * k))) ∈ l)
    (d0 : decode cL_law pc = .ok (.aload_n 0, 1)) (d1 : decode cL_law (pc + 1) = .ok (.iload 4, 2)) (d2 : decode cL_law (pc + 3) = .ok (.iconst n, 1)) (d3 : decode cL_law (pc + 4) = .ok (.iadd, 1)) (d4 : decode cL_law (pc + 5) = .ok (.iaload, 1)) (hv : Int32.ofInt n = nI j)
    (kk : ab_WA G (mLW nm) X (pc + 6) l (.int (xs (6 * k + j)) :: st) h) : ab_WA G (mLW nm) X pc l st h := by
  refine ab_aload_nS (j := 0) (x := 1) hX d0 m0 ?_
  refine ab_iload hX d1 m4 ?_
  refine ab_iconst hX d2 hv ?_
  refine ab_iadd hX d3 ?_
  rw [nI_add]
  refine ab_sload hX hsc d4 (vp_in_nI hk (by omega)) ?_
  rw [nI_clamp (by omega)]
  exact kk
theorem lw_c0 (hG : ab_GG G) (hGX : ab_GX G) (hX : ab_Good G (mLW nm) X) (hsc : va_X (G.2.2.1 1) L xs G.2.2.2.2.1 G.2.2.2.2.1.heap ∧ G.2.2.1 1 < G.2.1) (hL : L ≤ 3072) {c : CS} {D : List ab_E} {Q : QT} {nw k : Nat} {s : MS} (hLI : LInv c D Q nw s k) (hk : 6 * k + 6 ≤ L) (go : ∀ (c : CS) (D : List ab_E) (Q : QT) (nw : Nat) (s : MS), LInv c D Q nw s (k + 1) → ab_WA G (mLW nm) X 1612 (lwL k) [] (cH c (mC s) D)) : ab_WA G (mLW nm) X 228 (lwL k) [] (cH c (mC s) D) := by
  have h := hLI.1
  have hM : (mC s).length = 12 := rfl
  refine ab_aload_n hX dL_law_228 mm3 ?_
  refine lw_arg (j := 1) hX hsc (by omega) hL mm4 mm0 dL_law_229 dL_law_230 dL_law_232 dL_law_233 dL_law_234 (by decide) ?_
  refine ab_callV1r hX dL_law_235 cg_x ss_L_law_21 (cm_X11_trial hG hM h.1 (rs_R h) (rs_w h) (rs_w5 h)) (Nat.le_of_ble_eq_true rfl) ?_
  refine ab_aload_n hX dL_law_238 mm2 ?_
  refine lw_arg (j := 1) hX hsc (by omega) hL mm4 mm0 dL_law_239 dL_law_240 dL_law_242 dL_law_243 dL_law_244 (by decide) ?_
  refine ab_callV1r hX dL_law_245 (mg_o (A := cC (trlP c D Q (xs (6 * k + 1))).1) (s := s) (B := (trlP c D Q (xs (6 * k + 1))).2) rfl) ss_L_law_25 (cm_X12_trial (A := cC (trlP c D Q (xs (6 * k + 1))).1) (s := s) (B := (trlP c D Q (xs (6 * k + 1))).2) hG rfl (rs_I h) (rs_Sh h)) (Nat.le_of_ble_eq_true rfl) ?_
  refine ab_icmpeq (tgt := 1612) hX dL_law_248 (by decide) (fun _ => ?_) (fun h_ => (h_ (eq_trial h (a := (xs (6 * k + 1))))).elim)
  obtain ⟨Q2, nw2, hr⟩ := rs_trial h (a := (xs (6 * k + 1)))
  exact go (trlP c D Q (xs (6 * k + 1))).1 (trlP c D Q (xs (6 * k + 1))).2 Q2 nw2 (trS s (Q (2 * 0)).1 nw (Q (2 * 0 + 1)).1 (xs (6 * k + 1))) (LI_up hLI (up_trl h.1 (rs_R h) (rs_w h) (rs_w5 h)) hr)
theorem lw_c1 (hG : ab_GG G) (hGX : ab_GX G) (hX : ab_Good G (mLW nm) X) (hsc : va_X (G.2.2.1 1) L xs G.2.2.2.2.1 G.2.2.2.2.1.heap ∧ G.2.2.1 1 < G.2.1) (hL : L ≤ 3072) {c : CS} {D : List ab_E} {Q : QT} {nw k : Nat} {s : MS} (hLI : LInv c D Q nw s k) (hk : 6 * k + 6 ≤ L) (go : ∀ (c : CS) (D : List ab_E) (Q : QT) (nw : Nat) (s : MS), LInv c D Q nw s (k + 1) → ab_WA G (mLW nm) X 1612 (lwL k) [] (cH c (mC s) D)) : ab_WA G (mLW nm) X 253 (lwL k) [] (cH c (mC s) D) := by
  have h := hLI.1
  have hM : (mC s).length = 12 := rfl
  refine ab_aload_n hX dL_law_253 mm3 ?_
  refine lw_arg (j := 1) hX hsc (by omega) hL mm4 mm0 dL_law_254 dL_law_255 dL_law_257 dL_law_258 dL_law_259 (by decide) ?_
  refine lw_arg (j := 2) hX hsc (by omega) hL mm4 mm0 dL_law_260 dL_law_261 dL_law_263 dL_law_264 dL_law_265 (by decide) ?_
  refine ab_callV2r hX dL_law_266 cg_x ss_L_law_26 (cm_X11_law hG hM (rs_0 h)) (Nat.le_of_ble_eq_true rfl) ?_
  refine ab_aload_n hX dL_law_269 mm2 ?_
  refine lw_arg (j := 1) hX hsc (by omega) hL mm4 mm0 dL_law_270 dL_law_271 dL_law_273 dL_law_274 dL_law_275 (by decide) ?_
  refine lw_arg (j := 2) hX hsc (by omega) hL mm4 mm0 dL_law_276 dL_law_277 dL_law_279 dL_law_280 dL_law_281 (by decide) ?_
  refine ab_callV2r hX dL_law_282 (mg_o (A := cC c) (s := s) (B := D) rfl) ss_L_law_30 (cm_X12_law (A := cC c) (s := s) (B := D) hG rfl (rs_I h)) (Nat.le_of_ble_eq_true rfl) ?_
  refine ab_icmpeq (tgt := 1612) hX dL_law_285 (by decide) (fun _ => ?_) (fun h_ => (h_ (eq_law h (a := (xs (6 * k + 1))) (b := (xs (6 * k + 2))))).elim)
  exact go c D Q nw s (LI_up hLI (up_0 D) h)
theorem lw_c2 (hG : ab_GG G) (hGX : ab_GX G) (hX : ab_Good G (mLW nm) X) (hsc : va_X (G.2.2.1 1) L xs G.2.2.2.2.1 G.2.2.2.2.1.heap ∧ G.2.2.1 1 < G.2.1) (hL : L ≤ 3072) {c : CS} {D : List ab_E} {Q : QT} {nw k : Nat} {s : MS} (hLI : LInv c D Q nw s k) (hk : 6 * k + 6 ≤ L) (go : ∀ (c : CS) (D : List ab_E) (Q : QT) (nw : Nat) (s : MS), LInv c D Q nw s (k + 1) → ab_WA G (mLW nm) X 1612 (lwL k) [] (cH c (mC s) D)) : ab_WA G (mLW nm) X 290 (lwL k) [] (cH c (mC s) D) := by
  have h := hLI.1
  have hM : (mC s).length = 12 := rfl
  refine ab_aload_n hX dL_law_290 mm3 ?_
  refine lw_arg (j := 1) hX hsc (by omega) hL mm4 mm0 dL_law_291 dL_law_292 dL_law_294 dL_law_295 dL_law_296 (by decide) ?_
  refine lw_arg (j := 2) hX hsc (by omega) hL mm4 mm0 dL_law_297 dL_law_298 dL_law_300 dL_law_301 dL_law_302 (by decide) ?_
  refine ab_callV2r hX dL_law_303 cg_x ss_L_law_31 (cm_X11_said hG hM (rs_1 h)) (Nat.le_of_ble_eq_true rfl) ?_
  refine ab_aload_n hX dL_law_306 mm2 ?_
  refine lw_arg (j := 1) hX hsc (by omega) hL mm4 mm0 dL_law_307 dL_law_308 dL_law_310 dL_law_311 dL_law_312 (by decide) ?_
  refine lw_arg (j := 2) hX hsc (by omega) hL mm4 mm0 dL_law_313 dL_law_314 dL_law_316 dL_law_317 dL_law_318 (by decide) ?_
  refine ab_callV2r hX dL_law_319 (mg_o (A := cC c) (s := s) (B := D) rfl) ss_L_law_34 (cm_X12_said (A := cC c) (s := s) (B := D) hG rfl (rs_I h)) (Nat.le_of_ble_eq_true rfl) ?_
  refine ab_icmpeq (tgt := 1612) hX dL_law_322 (by decide) (fun _ => ?_) (fun h_ => (h_ (eq_said h (a := (xs (6 * k + 1))) (b := (xs (6 * k + 2))))).elim)
  exact go c D Q nw s (LI_up hLI (up_0 D) h)
theorem lw_c3 (hG : ab_GG G) (hGX : ab_GX G) (hX : ab_Good G (mLW nm) X) (hsc : va_X (G.2.2.1 1) L xs G.2.2.2.2.1 G.2.2.2.2.1.heap ∧ G.2.2.1 1 < G.2.1) (hL : L ≤ 3072) {c : CS} {D : List ab_E} {Q : QT} {nw k : Nat} {s : MS} (hLI : LInv c D Q nw s k) (hk : 6 * k + 6 ≤ L) (go : ∀ (c : CS) (D : List ab_E) (Q : QT) (nw : Nat) (s : MS), LInv c D Q nw s (k + 1) → ab_WA G (mLW nm) X 1612 (lwL k) [] (cH c (mC s) D)) : ab_WA G (mLW nm) X 327 (lwL k) [] (cH c (mC s) D) := by
  have h := hLI.1
  have hM : (mC s).length = 12 := rfl
  refine ab_aload_n hX dL_law_327 mm3 ?_
  refine lw_arg (j := 1) hX hsc (by omega) hL mm4 mm0 dL_law_328 dL_law_329 dL_law_331 dL_law_332 dL_law_333 (by decide) ?_
  refine ab_callV1r hX dL_law_334 cg_x ss_L_law_35 (cm_X11_knows hG hM ) (Nat.le_of_ble_eq_true rfl) ?_
  refine ab_aload_n hX dL_law_337 mm2 ?_
  refine lw_arg (j := 1) hX hsc (by omega) hL mm4 mm0 dL_law_338 dL_law_339 dL_law_341 dL_law_342 dL_law_343 (by decide) ?_
  refine ab_callV1r hX dL_law_344 (mg_o (A := cC c) (s := s) (B := D) rfl) ss_L_law_38 (cm_X12_knows (A := cC c) (s := s) (B := D) hG rfl (rs_I h)) (Nat.le_of_ble_eq_true rfl) ?_
  refine ab_icmpeq (tgt := 1612) hX dL_law_347 (by decide) (fun _ => ?_) (fun h_ => (h_ (eq_knows h (a := (xs (6 * k + 1))))).elim)
  exact go c D Q nw s (LI_up hLI (up_0 D) h)
theorem lw_c4 (hG : ab_GG G) (hGX : ab_GX G) (hX : ab_Good G (mLW nm) X) (hsc : va_X (G.2.2.1 1) L xs G.2.2.2.2.1 G.2.2.2.2.1.heap ∧ G.2.2.1 1 < G.2.1) (hL : L ≤ 3072) {c : CS} {D : List ab_E} {Q : QT} {nw k : Nat} {s : MS} (hLI : LInv c D Q nw s k) (hk : 6 * k + 6 ≤ L) (go : ∀ (c : CS) (D : List ab_E) (Q : QT) (nw : Nat) (s : MS), LInv c D Q nw s (k + 1) → ab_WA G (mLW nm) X 1612 (lwL k) [] (cH c (mC s) D)) : ab_WA G (mLW nm) X 352 (lwL k) [] (cH c (mC s) D) := by
  have h := hLI.1
  have hM : (mC s).length = 12 := rfl
  refine ab_aload_n hX dL_law_352 mm3 ?_
  refine lw_arg (j := 1) hX hsc (by omega) hL mm4 mm0 dL_law_353 dL_law_354 dL_law_356 dL_law_357 dL_law_358 (by decide) ?_
  refine lw_arg (j := 2) hX hsc (by omega) hL mm4 mm0 dL_law_359 dL_law_360 dL_law_362 dL_law_363 dL_law_364 (by decide) ?_
  refine lw_arg (j := 3) hX hsc (by omega) hL mm4 mm0 dL_law_365 dL_law_366 dL_law_368 dL_law_369 dL_law_370 (by decide) ?_
  refine lw_arg (j := 4) hX hsc (by omega) hL mm4 mm0 dL_law_371 dL_law_372 dL_law_374 dL_law_375 dL_law_376 (by decide) ?_
  refine ab_callV4r hX dL_law_377 cg_x ss_L_law_39 (cm_X11_isTrue hG hM h.2.2.2.2) (Nat.le_of_ble_eq_true rfl) ?_
  refine ab_aload_n hX dL_law_380 mm2 ?_
  refine lw_arg (j := 1) hX hsc (by omega) hL mm4 mm0 dL_law_381 dL_law_382 dL_law_384 dL_law_385 dL_law_386 (by decide) ?_
  refine lw_arg (j := 2) hX hsc (by omega) hL mm4 mm0 dL_law_387 dL_law_388 dL_law_390 dL_law_391 dL_law_392 (by decide) ?_
  refine lw_arg (j := 3) hX hsc (by omega) hL mm4 mm0 dL_law_393 dL_law_394 dL_law_396 dL_law_397 dL_law_398 (by decide) ?_
  refine lw_arg (j := 4) hX hsc (by omega) hL mm4 mm0 dL_law_399 dL_law_400 dL_law_402 dL_law_403 dL_law_404 (by decide) ?_
  refine ab_callV4r hX dL_law_405 (mg_o (A := cC c) (s := s) (B := D) rfl) ss_L_law_43 (cm_X12_isTrue (A := cC c) (s := s) (B := D) hG rfl ) (Nat.le_of_ble_eq_true rfl) ?_
  refine ab_icmpeq (tgt := 1612) hX dL_law_408 (by decide) (fun _ => ?_) (fun h_ => (h_ (eq_isTrue h (a := (xs (6 * k + 1))) (b := (xs (6 * k + 2))) (d := (xs (6 * k + 3))) (e := (xs (6 * k + 4))))).elim)
  exact go c D Q nw s (LI_up hLI (up_0 D) h)
theorem lw_c5 (hG : ab_GG G) (hGX : ab_GX G) (hX : ab_Good G (mLW nm) X) (hsc : va_X (G.2.2.1 1) L xs G.2.2.2.2.1 G.2.2.2.2.1.heap ∧ G.2.2.1 1 < G.2.1) (hL : L ≤ 3072) {c : CS} {D : List ab_E} {Q : QT} {nw k : Nat} {s : MS} (hLI : LInv c D Q nw s k) (hk : 6 * k + 6 ≤ L) (go : ∀ (c : CS) (D : List ab_E) (Q : QT) (nw : Nat) (s : MS), LInv c D Q nw s (k + 1) → ab_WA G (mLW nm) X 1612 (lwL k) [] (cH c (mC s) D)) : ab_WA G (mLW nm) X 413 (lwL k) [] (cH c (mC s) D) := by
  have h := hLI.1
  have hM : (mC s).length = 12 := rfl
  refine ab_aload_n hX dL_law_413 mm3 ?_
  refine lw_arg (j := 1) hX hsc (by omega) hL mm4 mm0 dL_law_414 dL_law_415 dL_law_417 dL_law_418 dL_law_419 (by decide) ?_
  refine lw_arg (j := 2) hX hsc (by omega) hL mm4 mm0 dL_law_420 dL_law_421 dL_law_423 dL_law_424 dL_law_425 (by decide) ?_
  refine lw_arg (j := 3) hX hsc (by omega) hL mm4 mm0 dL_law_426 dL_law_427 dL_law_429 dL_law_430 dL_law_431 (by decide) ?_
  refine ab_callV3r hX dL_law_432 cg_x ss_L_law_44 (cm_X11_rules hG hM h.2.2.2.2 h.1) (Nat.le_of_ble_eq_true rfl) ?_
  refine ab_aload_n hX dL_law_435 mm2 ?_
  refine lw_arg (j := 1) hX hsc (by omega) hL mm4 mm0 dL_law_436 dL_law_437 dL_law_439 dL_law_440 dL_law_441 (by decide) ?_
  refine lw_arg (j := 2) hX hsc (by omega) hL mm4 mm0 dL_law_442 dL_law_443 dL_law_445 dL_law_446 dL_law_447 (by decide) ?_
  refine lw_arg (j := 3) hX hsc (by omega) hL mm4 mm0 dL_law_448 dL_law_449 dL_law_451 dL_law_452 dL_law_453 (by decide) ?_
  refine ab_callV3r hX dL_law_454 (mg_o (A := cC (rulP c D (Q (2 * 0)).1 (xs (6 * k + 1)) (xs (6 * k + 2)) (xs (6 * k + 3))).1) (s := s) (B := (rulP c D (Q (2 * 0)).1 (xs (6 * k + 1)) (xs (6 * k + 2)) (xs (6 * k + 3))).2) rfl) ss_L_law_48 (cm_X12_rules (A := cC (rulP c D (Q (2 * 0)).1 (xs (6 * k + 1)) (xs (6 * k + 2)) (xs (6 * k + 3))).1) (s := s) (B := (rulP c D (Q (2 * 0)).1 (xs (6 * k + 1)) (xs (6 * k + 2)) (xs (6 * k + 3))).2) hG rfl (rs_I h)) (Nat.le_of_ble_eq_true rfl) ?_
  refine ab_icmpeq (tgt := 1612) hX dL_law_457 (by decide) (fun _ => ?_) (fun h_ => (h_ (eq_rules h (a := (xs (6 * k + 1))) (b := (xs (6 * k + 2))) (d := (xs (6 * k + 3))))).elim)
  obtain ⟨Q2, nw2, hr⟩ := rs_rules h (a := (xs (6 * k + 1))) (b := (xs (6 * k + 2))) (d := (xs (6 * k + 3)))
  exact go (rulP c D (Q (2 * 0)).1 (xs (6 * k + 1)) (xs (6 * k + 2)) (xs (6 * k + 3))).1 (rulP c D (Q (2 * 0)).1 (xs (6 * k + 1)) (xs (6 * k + 2)) (xs (6 * k + 3))).2 Q2 nw2 (rulesS s (Q (2 * 0)).1 (xs (6 * k + 1)) (xs (6 * k + 2)) (xs (6 * k + 3))) (LI_up hLI (up_rul h.1) hr)
theorem lw_c6 (hG : ab_GG G) (hGX : ab_GX G) (hX : ab_Good G (mLW nm) X) (hsc : va_X (G.2.2.1 1) L xs G.2.2.2.2.1 G.2.2.2.2.1.heap ∧ G.2.2.1 1 < G.2.1) (hL : L ≤ 3072) {c : CS} {D : List ab_E} {Q : QT} {nw k : Nat} {s : MS} (hLI : LInv c D Q nw s k) (hk : 6 * k + 6 ≤ L) (go : ∀ (c : CS) (D : List ab_E) (Q : QT) (nw : Nat) (s : MS), LInv c D Q nw s (k + 1) → ab_WA G (mLW nm) X 1612 (lwL k) [] (cH c (mC s) D)) : ab_WA G (mLW nm) X 462 (lwL k) [] (cH c (mC s) D) := by
  have h := hLI.1
  have hM : (mC s).length = 12 := rfl
  refine ab_aload_n hX dL_law_462 mm3 ?_
  refine lw_arg (j := 1) hX hsc (by omega) hL mm4 mm0 dL_law_463 dL_law_464 dL_law_466 dL_law_467 dL_law_468 (by decide) ?_
  refine lw_arg (j := 2) hX hsc (by omega) hL mm4 mm0 dL_law_469 dL_law_470 dL_law_472 dL_law_473 dL_law_474 (by decide) ?_
  refine lw_arg (j := 3) hX hsc (by omega) hL mm4 mm0 dL_law_475 dL_law_476 dL_law_478 dL_law_479 dL_law_480 (by decide) ?_
  refine lw_arg (j := 4) hX hsc (by omega) hL mm4 mm0 dL_law_481 dL_law_482 dL_law_484 dL_law_485 dL_law_486 (by decide) ?_
  refine ab_callV4r hX dL_law_487 cg_x ss_L_law_49 (cm_X11_says hG hM h.2.2.2.2 h.1) (Nat.le_of_ble_eq_true rfl) ?_
  refine ab_aload_n hX dL_law_490 mm2 ?_
  refine lw_arg (j := 1) hX hsc (by omega) hL mm4 mm0 dL_law_491 dL_law_492 dL_law_494 dL_law_495 dL_law_496 (by decide) ?_
  refine lw_arg (j := 2) hX hsc (by omega) hL mm4 mm0 dL_law_497 dL_law_498 dL_law_500 dL_law_501 dL_law_502 (by decide) ?_
  refine lw_arg (j := 3) hX hsc (by omega) hL mm4 mm0 dL_law_503 dL_law_504 dL_law_506 dL_law_507 dL_law_508 (by decide) ?_
  refine lw_arg (j := 4) hX hsc (by omega) hL mm4 mm0 dL_law_509 dL_law_510 dL_law_512 dL_law_513 dL_law_514 (by decide) ?_
  refine ab_callV4r hX dL_law_515 (mg_o (A := cC (sayP c D (Q (2 * 0 + 1)).1 (xs (6 * k + 1)) (xs (6 * k + 2)) (xs (6 * k + 3)) (xs (6 * k + 4))).1) (s := s) (B := (sayP c D (Q (2 * 0 + 1)).1 (xs (6 * k + 1)) (xs (6 * k + 2)) (xs (6 * k + 3)) (xs (6 * k + 4))).2) rfl) ss_L_law_52 (cm_X12_says (A := cC (sayP c D (Q (2 * 0 + 1)).1 (xs (6 * k + 1)) (xs (6 * k + 2)) (xs (6 * k + 3)) (xs (6 * k + 4))).1) (s := s) (B := (sayP c D (Q (2 * 0 + 1)).1 (xs (6 * k + 1)) (xs (6 * k + 2)) (xs (6 * k + 3)) (xs (6 * k + 4))).2) hG rfl (rs_I h)) (Nat.le_of_ble_eq_true rfl) ?_
  refine ab_icmpeq (tgt := 1612) hX dL_law_518 (by decide) (fun _ => ?_) (fun h_ => (h_ (eq_says h (a := (xs (6 * k + 1))) (b := (xs (6 * k + 2))) (d := (xs (6 * k + 3))) (e := (xs (6 * k + 4))))).elim)
  obtain ⟨Q2, nw2, hr⟩ := rs_says h (a := (xs (6 * k + 1))) (b := (xs (6 * k + 2))) (d := (xs (6 * k + 3))) (e := (xs (6 * k + 4)))
  exact go (sayP c D (Q (2 * 0 + 1)).1 (xs (6 * k + 1)) (xs (6 * k + 2)) (xs (6 * k + 3)) (xs (6 * k + 4))).1 (sayP c D (Q (2 * 0 + 1)).1 (xs (6 * k + 1)) (xs (6 * k + 2)) (xs (6 * k + 3)) (xs (6 * k + 4))).2 Q2 nw2 (saysS s (Q (2 * 0 + 1)).1 (xs (6 * k + 1)) (xs (6 * k + 2)) (xs (6 * k + 3)) (xs (6 * k + 4))) (LI_up hLI (up_say h.1) hr)
theorem lw_c7 (hG : ab_GG G) (hGX : ab_GX G) (hX : ab_Good G (mLW nm) X) (hsc : va_X (G.2.2.1 1) L xs G.2.2.2.2.1 G.2.2.2.2.1.heap ∧ G.2.2.1 1 < G.2.1) (hL : L ≤ 3072) {c : CS} {D : List ab_E} {Q : QT} {nw k : Nat} {s : MS} (hLI : LInv c D Q nw s k) (hk : 6 * k + 6 ≤ L) (go : ∀ (c : CS) (D : List ab_E) (Q : QT) (nw : Nat) (s : MS), LInv c D Q nw s (k + 1) → ab_WA G (mLW nm) X 1612 (lwL k) [] (cH c (mC s) D)) : ab_WA G (mLW nm) X 523 (lwL k) [] (cH c (mC s) D) := by
  have h := hLI.1
  have hM : (mC s).length = 12 := rfl
  refine ab_aload_n hX dL_law_523 mm3 ?_
  refine ab_callV0r hX dL_law_524 cg_x ss_L_law_53 (cm_X11_unsays hG hM h.1) (Nat.le_of_ble_eq_true rfl) ?_
  refine ab_aload_n hX dL_law_527 mm2 ?_
  refine ab_callV0r hX dL_law_528 (mg_o (A := cC (unsP c D (Q (2 * 0 + 1)).1).1) (s := s) (B := (unsP c D (Q (2 * 0 + 1)).1).2) rfl) ss_L_law_57 (cm_X12_unsays (A := cC (unsP c D (Q (2 * 0 + 1)).1).1) (s := s) (B := (unsP c D (Q (2 * 0 + 1)).1).2) hG rfl (rs_I h)) (Nat.le_of_ble_eq_true rfl) ?_
  refine ab_icmpeq (tgt := 1612) hX dL_law_531 (by decide) (fun _ => ?_) (fun h_ => (h_ (eq_unsays h )).elim)
  obtain ⟨Q2, nw2, hr⟩ := rs_unsays h 
  exact go (unsP c D (Q (2 * 0 + 1)).1).1 (unsP c D (Q (2 * 0 + 1)).1).2 Q2 nw2 (unsaysS s) (LI_up hLI (up_uns h.1) hr)
theorem lw_c8 (hG : ab_GG G) (hGX : ab_GX G) (hX : ab_Good G (mLW nm) X) (hsc : va_X (G.2.2.1 1) L xs G.2.2.2.2.1 G.2.2.2.2.1.heap ∧ G.2.2.1 1 < G.2.1) (hL : L ≤ 3072) {c : CS} {D : List ab_E} {Q : QT} {nw k : Nat} {s : MS} (hLI : LInv c D Q nw s k) (hk : 6 * k + 6 ≤ L) (go : ∀ (c : CS) (D : List ab_E) (Q : QT) (nw : Nat) (s : MS), LInv c D Q nw s (k + 1) → ab_WA G (mLW nm) X 1612 (lwL k) [] (cH c (mC s) D)) : ab_WA G (mLW nm) X 536 (lwL k) [] (cH c (mC s) D) := by
  have h := hLI.1
  have hM : (mC s).length = 12 := rfl
  refine ab_aload_n hX dL_law_536 mm3 ?_
  refine lw_arg (j := 1) hX hsc (by omega) hL mm4 mm0 dL_law_537 dL_law_538 dL_law_540 dL_law_541 dL_law_542 (by decide) ?_
  refine ab_callV1r hX dL_law_543 cg_x ss_L_law_58 (cm_X11_witness hG hM (rs_w h) (rs_w5 h)) (Nat.le_of_ble_eq_true rfl) ?_
  refine ab_aload_n hX dL_law_546 mm2 ?_
  refine lw_arg (j := 1) hX hsc (by omega) hL mm4 mm0 dL_law_547 dL_law_548 dL_law_550 dL_law_551 dL_law_552 (by decide) ?_
  refine ab_callV1r hX dL_law_553 (mg_o (A := cC (wtnP c (xs (6 * k + 1)))) (s := s) (B := D) rfl) ss_L_law_61 (cm_X12_witness (A := cC (wtnP c (xs (6 * k + 1)))) (s := s) (B := D) hG rfl (rs_I h)) (Nat.le_of_ble_eq_true rfl) ?_
  refine ab_icmpeq (tgt := 1612) hX dL_law_556 (by decide) (fun _ => ?_) (fun h_ => (h_ (eq_witness h (a := (xs (6 * k + 1))))).elim)
  obtain ⟨Q2, nw2, hr⟩ := rs_witness h (a := (xs (6 * k + 1)))
  exact go (wtnP c (xs (6 * k + 1))) D Q2 nw2 (witS s nw (xs (6 * k + 1))) (LI_up hLI (up_0 D) hr)
theorem lw_c9 (hG : ab_GG G) (hGX : ab_GX G) (hX : ab_Good G (mLW nm) X) (hsc : va_X (G.2.2.1 1) L xs G.2.2.2.2.1 G.2.2.2.2.1.heap ∧ G.2.2.1 1 < G.2.1) (hL : L ≤ 3072) {c : CS} {D : List ab_E} {Q : QT} {nw k : Nat} {s : MS} (hLI : LInv c D Q nw s k) (hk : 6 * k + 6 ≤ L) (go : ∀ (c : CS) (D : List ab_E) (Q : QT) (nw : Nat) (s : MS), LInv c D Q nw s (k + 1) → ab_WA G (mLW nm) X 1612 (lwL k) [] (cH c (mC s) D)) : ab_WA G (mLW nm) X 561 (lwL k) [] (cH c (mC s) D) := by
  have h := hLI.1
  have hM : (mC s).length = 12 := rfl
  refine ab_aload_n hX dL_law_561 mm3 ?_
  refine lw_arg (j := 1) hX hsc (by omega) hL mm4 mm0 dL_law_562 dL_law_563 dL_law_565 dL_law_566 dL_law_567 (by decide) ?_
  refine ab_callV1r hX dL_law_568 cg_x ss_L_law_62 (cm_X11_truth hG hM ) (Nat.le_of_ble_eq_true rfl) ?_
  refine ab_aload_n hX dL_law_571 mm2 ?_
  refine lw_arg (j := 1) hX hsc (by omega) hL mm4 mm0 dL_law_572 dL_law_573 dL_law_575 dL_law_576 dL_law_577 (by decide) ?_
  refine ab_callV1r hX dL_law_578 (mg_o (A := cC (trtP c (xs (6 * k + 1)))) (s := s) (B := D) rfl) ss_L_law_65 (cm_X12_truth (A := cC (trtP c (xs (6 * k + 1)))) (s := s) (B := D) hG rfl (rs_I h)) (Nat.le_of_ble_eq_true rfl) ?_
  refine ab_icmpeq (tgt := 1612) hX dL_law_581 (by decide) (fun _ => ?_) (fun h_ => (h_ (eq_truth h (a := (xs (6 * k + 1))))).elim)
  obtain ⟨Q2, nw2, hr⟩ := rs_truth h (a := (xs (6 * k + 1)))
  exact go (trtP c (xs (6 * k + 1))) D Q2 nw2 (truS s (xs (6 * k + 1))) (LI_up hLI (up_0 D) hr)
theorem lw_c10 (hG : ab_GG G) (hGX : ab_GX G) (hX : ab_Good G (mLW nm) X) (hsc : va_X (G.2.2.1 1) L xs G.2.2.2.2.1 G.2.2.2.2.1.heap ∧ G.2.2.1 1 < G.2.1) (hL : L ≤ 3072) {c : CS} {D : List ab_E} {Q : QT} {nw k : Nat} {s : MS} (hLI : LInv c D Q nw s k) (hk : 6 * k + 6 ≤ L) (go : ∀ (c : CS) (D : List ab_E) (Q : QT) (nw : Nat) (s : MS), LInv c D Q nw s (k + 1) → ab_WA G (mLW nm) X 1612 (lwL k) [] (cH c (mC s) D)) : ab_WA G (mLW nm) X 586 (lwL k) [] (cH c (mC s) D) := by
  have h := hLI.1
  have hM : (mC s).length = 12 := rfl
  refine ab_aload_n hX dL_law_586 mm3 ?_
  refine lw_arg (j := 1) hX hsc (by omega) hL mm4 mm0 dL_law_587 dL_law_588 dL_law_590 dL_law_591 dL_law_592 (by decide) ?_
  refine ab_callV1r hX dL_law_593 cg_x ss_L_law_66 (cm_X11_worlds hG hM (rs_0 h) (rs_1 h)) (Nat.le_of_ble_eq_true rfl) ?_
  refine ab_aload_n hX dL_law_596 mm2 ?_
  refine lw_arg (j := 1) hX hsc (by omega) hL mm4 mm0 dL_law_597 dL_law_598 dL_law_600 dL_law_601 dL_law_602 (by decide) ?_
  refine ab_callV1r hX dL_law_603 (mg_o (A := cC c) (s := s) (B := D) rfl) ss_L_law_70 (cm_X12_worlds (A := cC c) (s := s) (B := D) hG rfl (rs_I h)) (Nat.le_of_ble_eq_true rfl) ?_
  refine ab_lcmp hX dL_law_606 ?_
  refine ab_ifeqC (tgt := 1612) hX dL_law_607 (by decide) (fun _ => ?_) (fun h_ => (h_ (eq_worlds h (a := (xs (6 * k + 1))))).elim)
  exact go c D Q nw s (LI_up hLI (up_0 D) h)
theorem lw_c11 (hG : ab_GG G) (hGX : ab_GX G) (hX : ab_Good G (mLW nm) X) (hsc : va_X (G.2.2.1 1) L xs G.2.2.2.2.1 G.2.2.2.2.1.heap ∧ G.2.2.1 1 < G.2.1) (hL : L ≤ 3072) {c : CS} {D : List ab_E} {Q : QT} {nw k : Nat} {s : MS} (hLI : LInv c D Q nw s k) (hk : 6 * k + 6 ≤ L) (go : ∀ (c : CS) (D : List ab_E) (Q : QT) (nw : Nat) (s : MS), LInv c D Q nw s (k + 1) → ab_WA G (mLW nm) X 1612 (lwL k) [] (cH c (mC s) D)) : ab_WA G (mLW nm) X 612 (lwL k) [] (cH c (mC s) D) := by
  have h := hLI.1
  have hM : (mC s).length = 12 := rfl
  refine ab_aload_n hX dL_law_612 mm3 ?_
  refine lw_arg (j := 1) hX hsc (by omega) hL mm4 mm0 dL_law_613 dL_law_614 dL_law_616 dL_law_617 dL_law_618 (by decide) ?_
  refine ab_callV1r hX dL_law_619 cg_x ss_L_law_71 (cm_X11_many hG hM (rs_0 h) (rs_1 h)) (Nat.le_of_ble_eq_true rfl) ?_
  refine ab_aload_n hX dL_law_622 mm2 ?_
  refine lw_arg (j := 1) hX hsc (by omega) hL mm4 mm0 dL_law_623 dL_law_624 dL_law_626 dL_law_627 dL_law_628 (by decide) ?_
  refine ab_callV1r hX dL_law_629 (mg_o (A := cC c) (s := s) (B := D) rfl) ss_L_law_74 (cm_X12_many (A := cC c) (s := s) (B := D) hG rfl (rs_I h)) (Nat.le_of_ble_eq_true rfl) ?_
  refine ab_icmpeq (tgt := 1612) hX dL_law_632 (by decide) (fun _ => ?_) (fun h_ => (h_ (eq_many h (a := (xs (6 * k + 1))))).elim)
  exact go c D Q nw s (LI_up hLI (up_0 D) h)
theorem lw_c12 (hG : ab_GG G) (hGX : ab_GX G) (hX : ab_Good G (mLW nm) X) (hsc : va_X (G.2.2.1 1) L xs G.2.2.2.2.1 G.2.2.2.2.1.heap ∧ G.2.2.1 1 < G.2.1) (hL : L ≤ 3072) {c : CS} {D : List ab_E} {Q : QT} {nw k : Nat} {s : MS} (hLI : LInv c D Q nw s k) (hk : 6 * k + 6 ≤ L) (go : ∀ (c : CS) (D : List ab_E) (Q : QT) (nw : Nat) (s : MS), LInv c D Q nw s (k + 1) → ab_WA G (mLW nm) X 1612 (lwL k) [] (cH c (mC s) D)) : ab_WA G (mLW nm) X 637 (lwL k) [] (cH c (mC s) D) := by
  have h := hLI.1
  have hM : (mC s).length = 12 := rfl
  refine ab_aload_n hX dL_law_637 mm3 ?_
  refine lw_arg (j := 1) hX hsc (by omega) hL mm4 mm0 dL_law_638 dL_law_639 dL_law_641 dL_law_642 dL_law_643 (by decide) ?_
  refine ab_callV1r hX dL_law_644 cg_x ss_L_law_75 (cm_X11_proved hG hM (rs_0 h) (rs_1 h)) (Nat.le_of_ble_eq_true rfl) ?_
  refine ab_aload_n hX dL_law_647 mm2 ?_
  refine lw_arg (j := 1) hX hsc (by omega) hL mm4 mm0 dL_law_648 dL_law_649 dL_law_651 dL_law_652 dL_law_653 (by decide) ?_
  refine ab_callV1r hX dL_law_654 (mg_o (A := cC c) (s := s) (B := D) rfl) ss_L_law_78 (cm_X12_proved (A := cC c) (s := s) (B := D) hG rfl (rs_I h)) (Nat.le_of_ble_eq_true rfl) ?_
  refine ab_icmpeq (tgt := 1612) hX dL_law_657 (by decide) (fun _ => ?_) (fun h_ => (h_ (eq_proved h (a := (xs (6 * k + 1))))).elim)
  exact go c D Q nw s (LI_up hLI (up_0 D) h)
theorem lw_c13 (hG : ab_GG G) (hGX : ab_GX G) (hX : ab_Good G (mLW nm) X) (hsc : va_X (G.2.2.1 1) L xs G.2.2.2.2.1 G.2.2.2.2.1.heap ∧ G.2.2.1 1 < G.2.1) (hL : L ≤ 3072) {c : CS} {D : List ab_E} {Q : QT} {nw k : Nat} {s : MS} (hLI : LInv c D Q nw s k) (hk : 6 * k + 6 ≤ L) (go : ∀ (c : CS) (D : List ab_E) (Q : QT) (nw : Nat) (s : MS), LInv c D Q nw s (k + 1) → ab_WA G (mLW nm) X 1612 (lwL k) [] (cH c (mC s) D)) : ab_WA G (mLW nm) X 662 (lwL k) [] (cH c (mC s) D) := by
  have h := hLI.1
  have hM : (mC s).length = 12 := rfl
  refine ab_aload_n hX dL_law_662 mm3 ?_
  refine lw_arg (j := 1) hX hsc (by omega) hL mm4 mm0 dL_law_663 dL_law_664 dL_law_666 dL_law_667 dL_law_668 (by decide) ?_
  refine ab_callV1r hX dL_law_669 cg_x ss_L_law_79 (cm_X11_slips hG hM (rs_1 h)) (Nat.le_of_ble_eq_true rfl) ?_
  refine ab_aload_n hX dL_law_672 mm2 ?_
  refine lw_arg (j := 1) hX hsc (by omega) hL mm4 mm0 dL_law_673 dL_law_674 dL_law_676 dL_law_677 dL_law_678 (by decide) ?_
  refine ab_callV1r hX dL_law_679 (mg_o (A := cC c) (s := s) (B := D) rfl) ss_L_law_82 (cm_X12_slips (A := cC c) (s := s) (B := D) hG rfl (rs_I h)) (Nat.le_of_ble_eq_true rfl) ?_
  refine ab_icmpeq (tgt := 1612) hX dL_law_682 (by decide) (fun _ => ?_) (fun h_ => (h_ (eq_slips h (a := (xs (6 * k + 1))))).elim)
  exact go c D Q nw s (LI_up hLI (up_0 D) h)
theorem lw_c14 (hG : ab_GG G) (hGX : ab_GX G) (hX : ab_Good G (mLW nm) X) (hsc : va_X (G.2.2.1 1) L xs G.2.2.2.2.1 G.2.2.2.2.1.heap ∧ G.2.2.1 1 < G.2.1) (hL : L ≤ 3072) {c : CS} {D : List ab_E} {Q : QT} {nw k : Nat} {s : MS} (hLI : LInv c D Q nw s k) (hk : 6 * k + 6 ≤ L) (go : ∀ (c : CS) (D : List ab_E) (Q : QT) (nw : Nat) (s : MS), LInv c D Q nw s (k + 1) → ab_WA G (mLW nm) X 1612 (lwL k) [] (cH c (mC s) D)) : ab_WA G (mLW nm) X 687 (lwL k) [] (cH c (mC s) D) := by
  have h := hLI.1
  have hM : (mC s).length = 12 := rfl
  refine ab_aload_n hX dL_law_687 mm3 ?_
  refine lw_arg (j := 1) hX hsc (by omega) hL mm4 mm0 dL_law_688 dL_law_689 dL_law_691 dL_law_692 dL_law_693 (by decide) ?_
  refine ab_callV1r hX dL_law_694 cg_x ss_L_law_83 (cm_X11_alone hG hM (rs_0 h) (rs_1 h)) (Nat.le_of_ble_eq_true rfl) ?_
  refine ab_aload_n hX dL_law_697 mm2 ?_
  refine lw_arg (j := 1) hX hsc (by omega) hL mm4 mm0 dL_law_698 dL_law_699 dL_law_701 dL_law_702 dL_law_703 (by decide) ?_
  refine ab_callV1r hX dL_law_704 (mg_o (A := cC c) (s := s) (B := D) rfl) ss_L_law_86 (cm_X12_alone (A := cC c) (s := s) (B := D) hG rfl (rs_I h)) (Nat.le_of_ble_eq_true rfl) ?_
  refine ab_icmpeq (tgt := 1612) hX dL_law_707 (by decide) (fun _ => ?_) (fun h_ => (h_ (eq_alone h (a := (xs (6 * k + 1))))).elim)
  exact go c D Q nw s (LI_up hLI (up_0 D) h)
theorem lw_c15 (hG : ab_GG G) (hGX : ab_GX G) (hX : ab_Good G (mLW nm) X) (hsc : va_X (G.2.2.1 1) L xs G.2.2.2.2.1 G.2.2.2.2.1.heap ∧ G.2.2.1 1 < G.2.1) (hL : L ≤ 3072) {c : CS} {D : List ab_E} {Q : QT} {nw k : Nat} {s : MS} (hLI : LInv c D Q nw s k) (hk : 6 * k + 6 ≤ L) (go : ∀ (c : CS) (D : List ab_E) (Q : QT) (nw : Nat) (s : MS), LInv c D Q nw s (k + 1) → ab_WA G (mLW nm) X 1612 (lwL k) [] (cH c (mC s) D)) : ab_WA G (mLW nm) X 712 (lwL k) [] (cH c (mC s) D) := by
  have h := hLI.1
  have hM : (mC s).length = 12 := rfl
  refine ab_aload_n hX dL_law_712 mm3 ?_
  refine ab_callV0r hX dL_law_713 cg_x ss_L_law_87 (cm_X11_clash hG hM (rs_0 h) (rs_1 h)) (Nat.le_of_ble_eq_true rfl) ?_
  refine ab_aload_n hX dL_law_716 mm2 ?_
  refine ab_callV0r hX dL_law_717 (mg_o (A := cC c) (s := s) (B := D) rfl) ss_L_law_90 (cm_X12_clash (A := cC c) (s := s) (B := D) hG rfl (rs_I h)) (Nat.le_of_ble_eq_true rfl) ?_
  refine ab_icmpeq (tgt := 1612) hX dL_law_720 (by decide) (fun _ => ?_) (fun h_ => (h_ (eq_clash h )).elim)
  exact go c D Q nw s (LI_up hLI (up_0 D) h)
theorem lw_c16 (hG : ab_GG G) (hGX : ab_GX G) (hX : ab_Good G (mLW nm) X) (hsc : va_X (G.2.2.1 1) L xs G.2.2.2.2.1 G.2.2.2.2.1.heap ∧ G.2.2.1 1 < G.2.1) (hL : L ≤ 3072) {c : CS} {D : List ab_E} {Q : QT} {nw k : Nat} {s : MS} (hLI : LInv c D Q nw s k) (hk : 6 * k + 6 ≤ L) (go : ∀ (c : CS) (D : List ab_E) (Q : QT) (nw : Nat) (s : MS), LInv c D Q nw s (k + 1) → ab_WA G (mLW nm) X 1612 (lwL k) [] (cH c (mC s) D)) : ab_WA G (mLW nm) X 725 (lwL k) [] (cH c (mC s) D) := by
  have h := hLI.1
  have hM : (mC s).length = 12 := rfl
  refine ab_aload_n hX dL_law_725 mm3 ?_
  refine lw_arg (j := 1) hX hsc (by omega) hL mm4 mm0 dL_law_726 dL_law_727 dL_law_729 dL_law_730 dL_law_731 (by decide) ?_
  refine ab_callV1r hX dL_law_732 cg_x ss_L_law_91 (cm_X11_proof hG hM (rs_0 h) (rs_1 h)) (Nat.le_of_ble_eq_true rfl) ?_
  refine ab_aload_n hX dL_law_735 mm2 ?_
  refine lw_arg (j := 1) hX hsc (by omega) hL mm4 mm0 dL_law_736 dL_law_737 dL_law_739 dL_law_740 dL_law_741 (by decide) ?_
  refine ab_callV1r hX dL_law_742 (mg_o (A := cC c) (s := s) (B := D) rfl) ss_L_law_94 (cm_X12_proof (A := cC c) (s := s) (B := D) hG rfl (rs_I h)) (Nat.le_of_ble_eq_true rfl) ?_
  refine ab_icmpeq (tgt := 1612) hX dL_law_745 (by decide) (fun _ => ?_) (fun h_ => (h_ (eq_proof h (a := (xs (6 * k + 1))))).elim)
  exact go c D Q nw s (LI_up hLI (up_0 D) h)
theorem lw_c17 (hG : ab_GG G) (hGX : ab_GX G) (hX : ab_Good G (mLW nm) X) (hsc : va_X (G.2.2.1 1) L xs G.2.2.2.2.1 G.2.2.2.2.1.heap ∧ G.2.2.1 1 < G.2.1) (hL : L ≤ 3072) {c : CS} {D : List ab_E} {Q : QT} {nw k : Nat} {s : MS} (hLI : LInv c D Q nw s k) (hk : 6 * k + 6 ≤ L) (go : ∀ (c : CS) (D : List ab_E) (Q : QT) (nw : Nat) (s : MS), LInv c D Q nw s (k + 1) → ab_WA G (mLW nm) X 1612 (lwL k) [] (cH c (mC s) D)) : ab_WA G (mLW nm) X 750 (lwL k) [] (cH c (mC s) D) := by
  have h := hLI.1
  have hM : (mC s).length = 12 := rfl
  refine ab_aload_n hX dL_law_750 mm3 ?_
  refine ab_callV0r hX dL_law_751 cg_x ss_L_law_95 (cm_X11_slipped hG hM (rs_0 h) (rs_1 h)) (Nat.le_of_ble_eq_true rfl) ?_
  refine ab_aload_n hX dL_law_754 mm2 ?_
  refine ab_callV0r hX dL_law_755 (mg_o (A := cC c) (s := s) (B := D) rfl) ss_L_law_98 (cm_X12_slipped (A := cC c) (s := s) (B := D) hG rfl (rs_I h)) (Nat.le_of_ble_eq_true rfl) ?_
  refine ab_icmpeq (tgt := 1612) hX dL_law_758 (by decide) (fun _ => ?_) (fun h_ => (h_ (eq_slipped h )).elim)
  exact go c D Q nw s (LI_up hLI (up_0 D) h)
theorem lw_c18 (hG : ab_GG G) (hGX : ab_GX G) (hX : ab_Good G (mLW nm) X) (hsc : va_X (G.2.2.1 1) L xs G.2.2.2.2.1 G.2.2.2.2.1.heap ∧ G.2.2.1 1 < G.2.1) (hL : L ≤ 3072) {c : CS} {D : List ab_E} {Q : QT} {nw k : Nat} {s : MS} (hLI : LInv c D Q nw s k) (hk : 6 * k + 6 ≤ L) (go : ∀ (c : CS) (D : List ab_E) (Q : QT) (nw : Nat) (s : MS), LInv c D Q nw s (k + 1) → ab_WA G (mLW nm) X 1612 (lwL k) [] (cH c (mC s) D)) : ab_WA G (mLW nm) X 763 (lwL k) [] (cH c (mC s) D) := by
  have h := hLI.1
  have hM : (mC s).length = 12 := rfl
  refine ab_aload_n hX dL_law_763 mm3 ?_
  refine ab_callV0r hX dL_law_764 cg_x ss_L_law_99 (cm_X11_ask hG hM (rs_0 h) (rs_1 h)) (Nat.le_of_ble_eq_true rfl) ?_
  refine ab_aload_n hX dL_law_767 mm2 ?_
  refine ab_callV0r hX dL_law_768 (mg_o (A := cC c) (s := s) (B := D) rfl) ss_L_law_102 (cm_X12_ask (A := cC c) (s := s) (B := D) hG rfl (rs_I h)) (Nat.le_of_ble_eq_true rfl) ?_
  refine ab_icmpeq (tgt := 1612) hX dL_law_771 (by decide) (fun _ => ?_) (fun h_ => (h_ (eq_ask h )).elim)
  exact go c D Q nw s (LI_up hLI (up_0 D) h)
theorem lw_c19 (hG : ab_GG G) (hGX : ab_GX G) (hX : ab_Good G (mLW nm) X) (hsc : va_X (G.2.2.1 1) L xs G.2.2.2.2.1 G.2.2.2.2.1.heap ∧ G.2.2.1 1 < G.2.1) (hL : L ≤ 3072) {c : CS} {D : List ab_E} {Q : QT} {nw k : Nat} {s : MS} (hLI : LInv c D Q nw s k) (hk : 6 * k + 6 ≤ L) (go : ∀ (c : CS) (D : List ab_E) (Q : QT) (nw : Nat) (s : MS), LInv c D Q nw s (k + 1) → ab_WA G (mLW nm) X 1612 (lwL k) [] (cH c (mC s) D)) : ab_WA G (mLW nm) X 776 (lwL k) [] (cH c (mC s) D) := by
  have h := hLI.1
  have hM : (mC s).length = 12 := rfl
  refine ab_aload_n hX dL_law_776 mm3 ?_
  refine ab_callV0r hX dL_law_777 cg_x ss_L_law_103 (cm_X11_plain hG hM (rs_0 h) (rs_1 h) (rs_w h) (rs_w5 h)) (Nat.le_of_ble_eq_true rfl) ?_
  refine ab_aload_n hX dL_law_780 mm2 ?_
  refine ab_callV0r hX dL_law_781 (mg_o (A := cC c) (s := s) (B := D) rfl) ss_L_law_106 (cm_X12_plain (A := cC c) (s := s) (B := D) hG rfl (rs_I h)) (Nat.le_of_ble_eq_true rfl) ?_
  refine ab_icmpeq (tgt := 1612) hX dL_law_784 (by decide) (fun _ => ?_) (fun h_ => (h_ (eq_plain h )).elim)
  exact go c D Q nw s (LI_up hLI (up_0 D) h)
theorem lw_c20 (hG : ab_GG G) (hGX : ab_GX G) (hX : ab_Good G (mLW nm) X) (hsc : va_X (G.2.2.1 1) L xs G.2.2.2.2.1 G.2.2.2.2.1.heap ∧ G.2.2.1 1 < G.2.1) (hL : L ≤ 3072) {c : CS} {D : List ab_E} {Q : QT} {nw k : Nat} {s : MS} (hLI : LInv c D Q nw s k) (hk : 6 * k + 6 ≤ L) (go : ∀ (c : CS) (D : List ab_E) (Q : QT) (nw : Nat) (s : MS), LInv c D Q nw s (k + 1) → ab_WA G (mLW nm) X 1612 (lwL k) [] (cH c (mC s) D)) : ab_WA G (mLW nm) X 789 (lwL k) [] (cH c (mC s) D) := by
  have h := hLI.1
  have hM : (mC s).length = 12 := rfl
  refine ab_aload_n hX dL_law_789 mm3 ?_
  refine lw_arg (j := 1) hX hsc (by omega) hL mm4 mm0 dL_law_790 dL_law_791 dL_law_793 dL_law_794 dL_law_795 (by decide) ?_
  refine ab_callV1r hX dL_law_796 cg_x ss_L_law_107 (cm_X11_order hG hM (rs_0 h) (rs_1 h) (rs_w h) (rs_w5 h)) (Nat.le_of_ble_eq_true rfl) ?_
  refine ab_aload_n hX dL_law_799 mm2 ?_
  refine lw_arg (j := 1) hX hsc (by omega) hL mm4 mm0 dL_law_800 dL_law_801 dL_law_803 dL_law_804 dL_law_805 (by decide) ?_
  refine ab_callV1r hX dL_law_806 (mg_o (A := cC c) (s := s) (B := D) rfl) ss_L_law_110 (cm_X12_order (A := cC c) (s := s) (B := D) hG rfl (rs_I h)) (Nat.le_of_ble_eq_true rfl) ?_
  refine ab_icmpeq (tgt := 1612) hX dL_law_809 (by decide) (fun _ => ?_) (fun h_ => (h_ (eq_order h (a := (xs (6 * k + 1))))).elim)
  exact go c D Q nw s (LI_up hLI (up_0 D) h)
theorem lw_c21 (hG : ab_GG G) (hGX : ab_GX G) (hX : ab_Good G (mLW nm) X) (hsc : va_X (G.2.2.1 1) L xs G.2.2.2.2.1 G.2.2.2.2.1.heap ∧ G.2.2.1 1 < G.2.1) (hL : L ≤ 3072) {c : CS} {D : List ab_E} {Q : QT} {nw k : Nat} {s : MS} (hLI : LInv c D Q nw s k) (hk : 6 * k + 6 ≤ L) (go : ∀ (c : CS) (D : List ab_E) (Q : QT) (nw : Nat) (s : MS), LInv c D Q nw s (k + 1) → ab_WA G (mLW nm) X 1612 (lwL k) [] (cH c (mC s) D)) : ab_WA G (mLW nm) X 814 (lwL k) [] (cH c (mC s) D) := by
  have h := hLI.1
  have hM : (mC s).length = 12 := rfl
  refine ab_aload_n hX dL_law_814 mm3 ?_
  refine lw_arg (j := 1) hX hsc (by omega) hL mm4 mm0 dL_law_815 dL_law_816 dL_law_818 dL_law_819 dL_law_820 (by decide) ?_
  refine ab_callV1r hX dL_law_821 cg_x ss_L_law_111 (cm_X11_without hG hM (rs_0 h) (rs_1 h)) (Nat.le_of_ble_eq_true rfl) ?_
  refine ab_aload_n hX dL_law_824 mm2 ?_
  refine lw_arg (j := 1) hX hsc (by omega) hL mm4 mm0 dL_law_825 dL_law_826 dL_law_828 dL_law_829 dL_law_830 (by decide) ?_
  refine ab_callV1r hX dL_law_831 (mg_o (A := cC c) (s := s) (B := D) rfl) ss_L_law_114 (cm_X12_without (A := cC c) (s := s) (B := D) hG rfl (rs_I h)) (Nat.le_of_ble_eq_true rfl) ?_
  refine ab_icmpeq (tgt := 1612) hX dL_law_834 (by decide) (fun _ => ?_) (fun h_ => (h_ (eq_without h (a := (xs (6 * k + 1))))).elim)
  exact go c D Q nw s (LI_up hLI (up_0 D) h)
theorem lw_c22 (hG : ab_GG G) (hGX : ab_GX G) (hX : ab_Good G (mLW nm) X) (hsc : va_X (G.2.2.1 1) L xs G.2.2.2.2.1 G.2.2.2.2.1.heap ∧ G.2.2.1 1 < G.2.1) (hL : L ≤ 3072) {c : CS} {D : List ab_E} {Q : QT} {nw k : Nat} {s : MS} (hLI : LInv c D Q nw s k) (hk : 6 * k + 6 ≤ L) (go : ∀ (c : CS) (D : List ab_E) (Q : QT) (nw : Nat) (s : MS), LInv c D Q nw s (k + 1) → ab_WA G (mLW nm) X 1612 (lwL k) [] (cH c (mC s) D)) : ab_WA G (mLW nm) X 839 (lwL k) [] (cH c (mC s) D) := by
  have h := hLI.1
  have hM : (mC s).length = 12 := rfl
  refine ab_aload_n hX dL_law_839 mm3 ?_
  refine lw_arg (j := 1) hX hsc (by omega) hL mm4 mm0 dL_law_840 dL_law_841 dL_law_843 dL_law_844 dL_law_845 (by decide) ?_
  refine lw_arg (j := 2) hX hsc (by omega) hL mm4 mm0 dL_law_846 dL_law_847 dL_law_849 dL_law_850 dL_law_851 (by decide) ?_
  refine ab_callV2r hX dL_law_852 cg_x ss_L_law_115 (cm_X11_lie hG hM (rs_0 h) (rs_1 h)) (Nat.le_of_ble_eq_true rfl) ?_
  refine ab_aload_n hX dL_law_855 mm2 ?_
  refine lw_arg (j := 1) hX hsc (by omega) hL mm4 mm0 dL_law_856 dL_law_857 dL_law_859 dL_law_860 dL_law_861 (by decide) ?_
  refine lw_arg (j := 2) hX hsc (by omega) hL mm4 mm0 dL_law_862 dL_law_863 dL_law_865 dL_law_866 dL_law_867 (by decide) ?_
  refine ab_callV2r hX dL_law_868 (mg_o (A := cC c) (s := s) (B := D) rfl) ss_L_law_118 (cm_X12_lie (A := cC c) (s := s) (B := D) hG rfl (rs_I h)) (Nat.le_of_ble_eq_true rfl) ?_
  refine ab_icmpeq (tgt := 1612) hX dL_law_871 (by decide) (fun _ => ?_) (fun h_ => (h_ (eq_lie h (a := (xs (6 * k + 1))) (b := (xs (6 * k + 2))))).elim)
  exact go c D Q nw s (LI_up hLI (up_0 D) h)
theorem lw_c23 (hG : ab_GG G) (hGX : ab_GX G) (hX : ab_Good G (mLW nm) X) (hsc : va_X (G.2.2.1 1) L xs G.2.2.2.2.1 G.2.2.2.2.1.heap ∧ G.2.2.1 1 < G.2.1) (hL : L ≤ 3072) {c : CS} {D : List ab_E} {Q : QT} {nw k : Nat} {s : MS} (hLI : LInv c D Q nw s k) (hk : 6 * k + 6 ≤ L) (go : ∀ (c : CS) (D : List ab_E) (Q : QT) (nw : Nat) (s : MS), LInv c D Q nw s (k + 1) → ab_WA G (mLW nm) X 1612 (lwL k) [] (cH c (mC s) D)) : ab_WA G (mLW nm) X 876 (lwL k) [] (cH c (mC s) D) := by
  have h := hLI.1
  have hM : (mC s).length = 12 := rfl
  refine ab_aload_n hX dL_law_876 mm3 ?_
  refine lw_arg (j := 1) hX hsc (by omega) hL mm4 mm0 dL_law_877 dL_law_878 dL_law_880 dL_law_881 dL_law_882 (by decide) ?_
  refine lw_arg (j := 2) hX hsc (by omega) hL mm4 mm0 dL_law_883 dL_law_884 dL_law_886 dL_law_887 dL_law_888 (by decide) ?_
  refine ab_callV2r hX dL_law_889 cg_x ss_L_law_119 (cm_X11_twoLies hG hM (rs_0 h) (rs_1 h)) (Nat.le_of_ble_eq_true rfl) ?_
  refine ab_aload_n hX dL_law_892 mm2 ?_
  refine lw_arg (j := 1) hX hsc (by omega) hL mm4 mm0 dL_law_893 dL_law_894 dL_law_896 dL_law_897 dL_law_898 (by decide) ?_
  refine lw_arg (j := 2) hX hsc (by omega) hL mm4 mm0 dL_law_899 dL_law_900 dL_law_902 dL_law_903 dL_law_904 (by decide) ?_
  refine ab_callV2r hX dL_law_905 (mg_o (A := cC (twoP c (xs (6 * k + 1)) (xs (6 * k + 2)))) (s := s) (B := D) rfl) ss_L_law_122 (cm_X12_twoLies (A := cC (twoP c (xs (6 * k + 1)) (xs (6 * k + 2)))) (s := s) (B := D) hG rfl (rs_I h)) (Nat.le_of_ble_eq_true rfl) ?_
  refine ab_icmpeq (tgt := 1612) hX dL_law_908 (by decide) (fun _ => ?_) (fun h_ => (h_ (eq_twoLies h (a := (xs (6 * k + 1))) (b := (xs (6 * k + 2))))).elim)
  obtain ⟨Q2, nw2, hr⟩ := rs_twoLies h (a := (xs (6 * k + 1))) (b := (xs (6 * k + 2)))
  exact go (twoP c (xs (6 * k + 1)) (xs (6 * k + 2))) D Q2 nw2 s (LI_up hLI (up_0 D) hr)
theorem lw_c24 (hG : ab_GG G) (hGX : ab_GX G) (hX : ab_Good G (mLW nm) X) (hsc : va_X (G.2.2.1 1) L xs G.2.2.2.2.1 G.2.2.2.2.1.heap ∧ G.2.2.1 1 < G.2.1) (hL : L ≤ 3072) {c : CS} {D : List ab_E} {Q : QT} {nw k : Nat} {s : MS} (hLI : LInv c D Q nw s k) (hk : 6 * k + 6 ≤ L) (go : ∀ (c : CS) (D : List ab_E) (Q : QT) (nw : Nat) (s : MS), LInv c D Q nw s (k + 1) → ab_WA G (mLW nm) X 1612 (lwL k) [] (cH c (mC s) D)) : ab_WA G (mLW nm) X 913 (lwL k) [] (cH c (mC s) D) := by
  have h := hLI.1
  have hM : (mC s).length = 12 := rfl
  refine ab_aload_n hX dL_law_913 mm3 ?_
  refine lw_arg (j := 1) hX hsc (by omega) hL mm4 mm0 dL_law_914 dL_law_915 dL_law_917 dL_law_918 dL_law_919 (by decide) ?_
  refine lw_arg (j := 2) hX hsc (by omega) hL mm4 mm0 dL_law_920 dL_law_921 dL_law_923 dL_law_924 dL_law_925 (by decide) ?_
  refine lw_arg (j := 3) hX hsc (by omega) hL mm4 mm0 dL_law_926 dL_law_927 dL_law_929 dL_law_930 dL_law_931 (by decide) ?_
  refine ab_callV3r hX dL_law_932 cg_x ss_L_law_123 (cm_X11_tells hG hM (rs_0 h) (rs_1 h) h.2.2.2.2) (Nat.le_of_ble_eq_true rfl) ?_
  refine ab_aload_n hX dL_law_935 mm2 ?_
  refine lw_arg (j := 1) hX hsc (by omega) hL mm4 mm0 dL_law_936 dL_law_937 dL_law_939 dL_law_940 dL_law_941 (by decide) ?_
  refine lw_arg (j := 2) hX hsc (by omega) hL mm4 mm0 dL_law_942 dL_law_943 dL_law_945 dL_law_946 dL_law_947 (by decide) ?_
  refine lw_arg (j := 3) hX hsc (by omega) hL mm4 mm0 dL_law_948 dL_law_949 dL_law_951 dL_law_952 dL_law_953 (by decide) ?_
  refine ab_callV3r hX dL_law_954 (mg_o (A := cC c) (s := s) (B := D) rfl) ss_L_law_126 (cm_X12_tells (A := cC c) (s := s) (B := D) hG rfl (rs_I h)) (Nat.le_of_ble_eq_true rfl) ?_
  refine ab_icmpeq (tgt := 1612) hX dL_law_957 (by decide) (fun _ => ?_) (fun h_ => (h_ (eq_tells h (a := (xs (6 * k + 1))) (b := (xs (6 * k + 2))) (d := (xs (6 * k + 3))))).elim)
  exact go c D Q nw s (LI_up hLI (up_0 D) h)
theorem lw_c25 (hG : ab_GG G) (hGX : ab_GX G) (hX : ab_Good G (mLW nm) X) (hsc : va_X (G.2.2.1 1) L xs G.2.2.2.2.1 G.2.2.2.2.1.heap ∧ G.2.2.1 1 < G.2.1) (hL : L ≤ 3072) {c : CS} {D : List ab_E} {Q : QT} {nw k : Nat} {s : MS} (hLI : LInv c D Q nw s k) (hk : 6 * k + 6 ≤ L) (go : ∀ (c : CS) (D : List ab_E) (Q : QT) (nw : Nat) (s : MS), LInv c D Q nw s (k + 1) → ab_WA G (mLW nm) X 1612 (lwL k) [] (cH c (mC s) D)) : ab_WA G (mLW nm) X 962 (lwL k) [] (cH c (mC s) D) := by
  have h := hLI.1
  have hM : (mC s).length = 12 := rfl
  refine ab_aload_n hX dL_law_962 mm3 ?_
  refine ab_callV0r hX dL_law_963 cg_x ss_L_law_127 (cm_X11_verdict hG hM (rs_1 h)) (Nat.le_of_ble_eq_true rfl) ?_
  refine ab_aload_n hX dL_law_966 mm2 ?_
  refine ab_callV0r hX dL_law_967 (mg_o (A := cC c) (s := s) (B := D) rfl) ss_L_law_130 (cm_X12_verdict (A := cC c) (s := s) (B := D) hG rfl (rs_I h)) (Nat.le_of_ble_eq_true rfl) ?_
  refine ab_icmpeq (tgt := 1612) hX dL_law_970 (by decide) (fun _ => ?_) (fun h_ => (h_ (eq_verdict h )).elim)
  exact go c D Q nw s (LI_up hLI (up_0 D) h)
theorem lw_c26 (hG : ab_GG G) (hGX : ab_GX G) (hX : ab_Good G (mLW nm) X) (hsc : va_X (G.2.2.1 1) L xs G.2.2.2.2.1 G.2.2.2.2.1.heap ∧ G.2.2.1 1 < G.2.1) (hL : L ≤ 3072) {c : CS} {D : List ab_E} {Q : QT} {nw k : Nat} {s : MS} (hLI : LInv c D Q nw s k) (hk : 6 * k + 6 ≤ L) (go : ∀ (c : CS) (D : List ab_E) (Q : QT) (nw : Nat) (s : MS), LInv c D Q nw s (k + 1) → ab_WA G (mLW nm) X 1612 (lwL k) [] (cH c (mC s) D)) : ab_WA G (mLW nm) X 975 (lwL k) [] (cH c (mC s) D) := by
  have h := hLI.1
  have hM : (mC s).length = 12 := rfl
  refine ab_aload_n hX dL_law_975 mm3 ?_
  refine lw_arg (j := 1) hX hsc (by omega) hL mm4 mm0 dL_law_976 dL_law_977 dL_law_979 dL_law_980 dL_law_981 (by decide) ?_
  refine ab_callV1r hX dL_law_982 cg_x ss_L_law_131 (cm_X11_certain hG hM (rs_0 h) (rs_1 h)) (Nat.le_of_ble_eq_true rfl) ?_
  refine ab_aload_n hX dL_law_985 mm2 ?_
  refine lw_arg (j := 1) hX hsc (by omega) hL mm4 mm0 dL_law_986 dL_law_987 dL_law_989 dL_law_990 dL_law_991 (by decide) ?_
  refine ab_callV1r hX dL_law_992 (mg_o (A := cC c) (s := s) (B := D) rfl) ss_L_law_134 (cm_X12_certain (A := cC c) (s := s) (B := D) hG rfl (rs_I h)) (Nat.le_of_ble_eq_true rfl) ?_
  refine ab_icmpeq (tgt := 1612) hX dL_law_995 (by decide) (fun _ => ?_) (fun h_ => (h_ (eq_certain h (a := (xs (6 * k + 1))))).elim)
  exact go c D Q nw s (LI_up hLI (up_0 D) h)
theorem lw_c27 (hG : ab_GG G) (hGX : ab_GX G) (hX : ab_Good G (mLW nm) X) (hsc : va_X (G.2.2.1 1) L xs G.2.2.2.2.1 G.2.2.2.2.1.heap ∧ G.2.2.1 1 < G.2.1) (hL : L ≤ 3072) {c : CS} {D : List ab_E} {Q : QT} {nw k : Nat} {s : MS} (hLI : LInv c D Q nw s k) (hk : 6 * k + 6 ≤ L) (go : ∀ (c : CS) (D : List ab_E) (Q : QT) (nw : Nat) (s : MS), LInv c D Q nw s (k + 1) → ab_WA G (mLW nm) X 1612 (lwL k) [] (cH c (mC s) D)) : ab_WA G (mLW nm) X 1000 (lwL k) [] (cH c (mC s) D) := by
  have h := hLI.1
  have hM : (mC s).length = 12 := rfl
  refine ab_aload_n hX dL_law_1000 mm3 ?_
  refine lw_arg (j := 1) hX hsc (by omega) hL mm4 mm0 dL_law_1001 dL_law_1002 dL_law_1004 dL_law_1005 dL_law_1006 (by decide) ?_
  refine lw_arg (j := 2) hX hsc (by omega) hL mm4 mm0 dL_law_1007 dL_law_1008 dL_law_1010 dL_law_1011 dL_law_1012 (by decide) ?_
  refine ab_callV2r hX dL_law_1013 cg_x ss_L_law_135 (cm_X11_knowsOf hG hM (rs_0 h) (rs_1 h)) (Nat.le_of_ble_eq_true rfl) ?_
  refine ab_aload_n hX dL_law_1016 mm2 ?_
  refine lw_arg (j := 1) hX hsc (by omega) hL mm4 mm0 dL_law_1017 dL_law_1018 dL_law_1020 dL_law_1021 dL_law_1022 (by decide) ?_
  refine lw_arg (j := 2) hX hsc (by omega) hL mm4 mm0 dL_law_1023 dL_law_1024 dL_law_1026 dL_law_1027 dL_law_1028 (by decide) ?_
  refine ab_callV2r hX dL_law_1029 (mg_o (A := cC c) (s := s) (B := D) rfl) ss_L_law_138 (cm_X12_knowsOf (A := cC c) (s := s) (B := D) hG rfl (rs_I h)) (Nat.le_of_ble_eq_true rfl) ?_
  refine ab_icmpeq (tgt := 1612) hX dL_law_1032 (by decide) (fun _ => ?_) (fun h_ => (h_ (eq_knowsOf h (a := (xs (6 * k + 1))) (b := (xs (6 * k + 2))))).elim)
  exact go c D Q nw s (LI_up hLI (up_0 D) h)
theorem lw_c28 (hG : ab_GG G) (hGX : ab_GX G) (hX : ab_Good G (mLW nm) X) (hsc : va_X (G.2.2.1 1) L xs G.2.2.2.2.1 G.2.2.2.2.1.heap ∧ G.2.2.1 1 < G.2.1) (hL : L ≤ 3072) {c : CS} {D : List ab_E} {Q : QT} {nw k : Nat} {s : MS} (hLI : LInv c D Q nw s k) (hk : 6 * k + 6 ≤ L) (go : ∀ (c : CS) (D : List ab_E) (Q : QT) (nw : Nat) (s : MS), LInv c D Q nw s (k + 1) → ab_WA G (mLW nm) X 1612 (lwL k) [] (cH c (mC s) D)) : ab_WA G (mLW nm) X 1037 (lwL k) [] (cH c (mC s) D) := by
  have h := hLI.1
  have hM : (mC s).length = 12 := rfl
  refine ab_aload_n hX dL_law_1037 mm3 ?_
  refine lw_arg (j := 1) hX hsc (by omega) hL mm4 mm0 dL_law_1038 dL_law_1039 dL_law_1041 dL_law_1042 dL_law_1043 (by decide) ?_
  refine ab_callV1r hX dL_law_1044 cg_x ss_L_law_139 (cm_X11_allKnow hG hM (rs_0 h) (rs_1 h) (rs_w h) (rs_w5 h)) (Nat.le_of_ble_eq_true rfl) ?_
  refine ab_aload_n hX dL_law_1047 mm2 ?_
  refine lw_arg (j := 1) hX hsc (by omega) hL mm4 mm0 dL_law_1048 dL_law_1049 dL_law_1051 dL_law_1052 dL_law_1053 (by decide) ?_
  refine ab_callV1r hX dL_law_1054 (mg_o (A := cC c) (s := s) (B := D) rfl) ss_L_law_142 (cm_X12_allKnow (A := cC c) (s := s) (B := D) hG rfl (rs_I h)) (Nat.le_of_ble_eq_true rfl) ?_
  refine ab_icmpeq (tgt := 1612) hX dL_law_1057 (by decide) (fun _ => ?_) (fun h_ => (h_ (eq_allKnow h (a := (xs (6 * k + 1))))).elim)
  exact go c D Q nw s (LI_up hLI (up_0 D) h)
theorem lw_c29 (hG : ab_GG G) (hGX : ab_GX G) (hX : ab_Good G (mLW nm) X) (hsc : va_X (G.2.2.1 1) L xs G.2.2.2.2.1 G.2.2.2.2.1.heap ∧ G.2.2.1 1 < G.2.1) (hL : L ≤ 3072) {c : CS} {D : List ab_E} {Q : QT} {nw k : Nat} {s : MS} (hLI : LInv c D Q nw s k) (hk : 6 * k + 6 ≤ L) (go : ∀ (c : CS) (D : List ab_E) (Q : QT) (nw : Nat) (s : MS), LInv c D Q nw s (k + 1) → ab_WA G (mLW nm) X 1612 (lwL k) [] (cH c (mC s) D)) : ab_WA G (mLW nm) X 1062 (lwL k) [] (cH c (mC s) D) := by
  have h := hLI.1
  have hM : (mC s).length = 12 := rfl
  refine ab_aload_n hX dL_law_1062 mm3 ?_
  refine lw_arg (j := 1) hX hsc (by omega) hL mm4 mm0 dL_law_1063 dL_law_1064 dL_law_1066 dL_law_1067 dL_law_1068 (by decide) ?_
  refine lw_arg (j := 2) hX hsc (by omega) hL mm4 mm0 dL_law_1069 dL_law_1070 dL_law_1072 dL_law_1073 dL_law_1074 (by decide) ?_
  refine lw_arg (j := 3) hX hsc (by omega) hL mm4 mm0 dL_law_1075 dL_law_1076 dL_law_1078 dL_law_1079 dL_law_1080 (by decide) ?_
  refine ab_callV3r hX dL_law_1081 cg_x ss_L_law_143 (cm_X11_pencils hG hM ) (Nat.le_of_ble_eq_true rfl) ?_
  refine ab_aload_n hX dL_law_1084 mm2 ?_
  refine lw_arg (j := 1) hX hsc (by omega) hL mm4 mm0 dL_law_1085 dL_law_1086 dL_law_1088 dL_law_1089 dL_law_1090 (by decide) ?_
  refine lw_arg (j := 2) hX hsc (by omega) hL mm4 mm0 dL_law_1091 dL_law_1092 dL_law_1094 dL_law_1095 dL_law_1096 (by decide) ?_
  refine lw_arg (j := 3) hX hsc (by omega) hL mm4 mm0 dL_law_1097 dL_law_1098 dL_law_1100 dL_law_1101 dL_law_1102 (by decide) ?_
  refine ab_callV3r hX dL_law_1103 (mg_o (A := cC c) (s := s) (B := D) rfl) ss_L_law_147 (cm_X12_pencils (A := cC c) (s := s) (B := D) hG rfl ) (Nat.le_of_ble_eq_true rfl) ?_
  refine ab_lcmp hX dL_law_1106 ?_
  refine ab_ifeqC (tgt := 1612) hX dL_law_1107 (by decide) (fun _ => ?_) (fun h_ => (h_ (eq_pencils h (a := (xs (6 * k + 1))) (b := (xs (6 * k + 2))) (d := (xs (6 * k + 3))))).elim)
  obtain ⟨Q2, nw2, hr⟩ := rs_pencils h (a := (xs (6 * k + 1))) (b := (xs (6 * k + 2))) (d := (xs (6 * k + 3)))
  exact go c D Q2 nw2 (pcE s (xs (6 * k + 1)) (xs (6 * k + 2)) (xs (6 * k + 3))) (LI_up hLI (up_0 D) hr)
theorem lw_c30 (hG : ab_GG G) (hGX : ab_GX G) (hX : ab_Good G (mLW nm) X) (hsc : va_X (G.2.2.1 1) L xs G.2.2.2.2.1 G.2.2.2.2.1.heap ∧ G.2.2.1 1 < G.2.1) (hL : L ≤ 3072) {c : CS} {D : List ab_E} {Q : QT} {nw k : Nat} {s : MS} (hLI : LInv c D Q nw s k) (hk : 6 * k + 6 ≤ L) (go : ∀ (c : CS) (D : List ab_E) (Q : QT) (nw : Nat) (s : MS), LInv c D Q nw s (k + 1) → ab_WA G (mLW nm) X 1612 (lwL k) [] (cH c (mC s) D)) : ab_WA G (mLW nm) X 1112 (lwL k) [] (cH c (mC s) D) := by
  have h := hLI.1
  have hM : (mC s).length = 12 := rfl
  refine ab_aload_n hX dL_law_1112 mm3 ?_
  refine lw_arg (j := 1) hX hsc (by omega) hL mm4 mm0 dL_law_1113 dL_law_1114 dL_law_1116 dL_law_1117 dL_law_1118 (by decide) ?_
  refine ab_callV1r hX dL_law_1119 cg_x ss_L_law_148 (cm_X11_fits hG hM (rs_0 h) (rs_1 h) (rs_R h)) (Nat.le_of_ble_eq_true rfl) ?_
  refine ab_aload_n hX dL_law_1122 mm2 ?_
  refine lw_arg (j := 1) hX hsc (by omega) hL mm4 mm0 dL_law_1123 dL_law_1124 dL_law_1126 dL_law_1127 dL_law_1128 (by decide) ?_
  refine ab_callV1r hX dL_law_1129 (mg_o (A := cC c) (s := s) (B := D) rfl) ss_L_law_151 (cm_X12_fits (A := cC c) (s := s) (B := D) hG rfl (rs_I h) (rs_Sh h)) (Nat.le_of_ble_eq_true rfl) ?_
  refine ab_lcmp hX dL_law_1132 ?_
  refine ab_ifeqC (tgt := 1612) hX dL_law_1133 (by decide) (fun _ => ?_) (fun h_ => (h_ (eq_fits h (a := (xs (6 * k + 1))))).elim)
  exact go c D Q nw s (LI_up hLI (up_0 D) h)
theorem lw_c31 (hG : ab_GG G) (hGX : ab_GX G) (hX : ab_Good G (mLW nm) X) (hsc : va_X (G.2.2.1 1) L xs G.2.2.2.2.1 G.2.2.2.2.1.heap ∧ G.2.2.1 1 < G.2.1) (hL : L ≤ 3072) {c : CS} {D : List ab_E} {Q : QT} {nw k : Nat} {s : MS} (hLI : LInv c D Q nw s k) (hk : 6 * k + 6 ≤ L) (go : ∀ (c : CS) (D : List ab_E) (Q : QT) (nw : Nat) (s : MS), LInv c D Q nw s (k + 1) → ab_WA G (mLW nm) X 1612 (lwL k) [] (cH c (mC s) D)) : ab_WA G (mLW nm) X 1138 (lwL k) [] (cH c (mC s) D) := by
  have h := hLI.1
  have hM : (mC s).length = 12 := rfl
  refine ab_aload_n hX dL_law_1138 mm3 ?_
  refine lw_arg (j := 1) hX hsc (by omega) hL mm4 mm0 dL_law_1139 dL_law_1140 dL_law_1142 dL_law_1143 dL_law_1144 (by decide) ?_
  refine ab_callV1r hX dL_law_1145 cg_x ss_L_law_152 (cm_X11_judge hG hM (rs_0 h) (rs_1 h) (rs_R h)) (Nat.le_of_ble_eq_true rfl) ?_
  refine ab_aload_n hX dL_law_1148 mm2 ?_
  refine lw_arg (j := 1) hX hsc (by omega) hL mm4 mm0 dL_law_1149 dL_law_1150 dL_law_1152 dL_law_1153 dL_law_1154 (by decide) ?_
  refine ab_callV1r hX dL_law_1155 (mg_o (A := cC c) (s := s) (B := D) rfl) ss_L_law_155 (cm_X12_judge (A := cC c) (s := s) (B := D) hG rfl (rs_I h) (rs_Sh h)) (Nat.le_of_ble_eq_true rfl) ?_
  refine ab_icmpeq (tgt := 1612) hX dL_law_1158 (by decide) (fun _ => ?_) (fun h_ => (h_ (eq_judge h (a := (xs (6 * k + 1))))).elim)
  exact go c D Q nw s (LI_up hLI (up_0 D) h)
theorem lw_c32 (hG : ab_GG G) (hGX : ab_GX G) (hX : ab_Good G (mLW nm) X) (hsc : va_X (G.2.2.1 1) L xs G.2.2.2.2.1 G.2.2.2.2.1.heap ∧ G.2.2.1 1 < G.2.1) (hL : L ≤ 3072) {c : CS} {D : List ab_E} {Q : QT} {nw k : Nat} {s : MS} (hLI : LInv c D Q nw s k) (hk : 6 * k + 6 ≤ L) (go : ∀ (c : CS) (D : List ab_E) (Q : QT) (nw : Nat) (s : MS), LInv c D Q nw s (k + 1) → ab_WA G (mLW nm) X 1612 (lwL k) [] (cH c (mC s) D)) : ab_WA G (mLW nm) X 1163 (lwL k) [] (cH c (mC s) D) := by
  have h := hLI.1
  have hM : (mC s).length = 12 := rfl
  refine ab_aload_n hX dL_law_1163 mm3 ?_
  refine lw_arg (j := 1) hX hsc (by omega) hL mm4 mm0 dL_law_1164 dL_law_1165 dL_law_1167 dL_law_1168 dL_law_1169 (by decide) ?_
  refine lw_arg (j := 2) hX hsc (by omega) hL mm4 mm0 dL_law_1170 dL_law_1171 dL_law_1173 dL_law_1174 dL_law_1175 (by decide) ?_
  refine lw_arg (j := 3) hX hsc (by omega) hL mm4 mm0 dL_law_1176 dL_law_1177 dL_law_1179 dL_law_1180 dL_law_1181 (by decide) ?_
  refine ab_callV3r hX dL_law_1182 cg_x ss_L_law_156 (cm_X11_seeds hG hM (rs_0 h) (rs_w h) (rs_w5 h)) (Nat.le_of_ble_eq_true rfl) ?_
  refine ab_aload_n hX dL_law_1185 mm2 ?_
  refine lw_arg (j := 1) hX hsc (by omega) hL mm4 mm0 dL_law_1186 dL_law_1187 dL_law_1189 dL_law_1190 dL_law_1191 (by decide) ?_
  refine lw_arg (j := 2) hX hsc (by omega) hL mm4 mm0 dL_law_1192 dL_law_1193 dL_law_1195 dL_law_1196 dL_law_1197 (by decide) ?_
  refine lw_arg (j := 3) hX hsc (by omega) hL mm4 mm0 dL_law_1198 dL_law_1199 dL_law_1201 dL_law_1202 dL_law_1203 (by decide) ?_
  refine ab_callV3r hX dL_law_1204 (mg_o (A := cC c) (s := s) (B := D) rfl) ss_L_law_159 (cm_X12_seeds (A := cC c) (s := s) (B := D) hG rfl (rs_I h)) (Nat.le_of_ble_eq_true rfl) ?_
  refine ab_icmpeq (tgt := 1612) hX dL_law_1207 (by decide) (fun _ => ?_) (fun h_ => (h_ (eq_seeds h (a := (xs (6 * k + 1))) (b := (xs (6 * k + 2))) (d := (xs (6 * k + 3))))).elim)
  obtain ⟨Q2, nw2, hr⟩ := rs_seeds h (a := (xs (6 * k + 1))) (b := (xs (6 * k + 2))) (d := (xs (6 * k + 3)))
  exact go c D Q2 nw2 (seS s (Q (2 * 0)).1 nw (xs (6 * k + 1)) (xs (6 * k + 2)) (xs (6 * k + 3))) (LI_up hLI (up_0 D) hr)
theorem lw_c33 (hG : ab_GG G) (hGX : ab_GX G) (hX : ab_Good G (mLW nm) X) (hsc : va_X (G.2.2.1 1) L xs G.2.2.2.2.1 G.2.2.2.2.1.heap ∧ G.2.2.1 1 < G.2.1) (hL : L ≤ 3072) {c : CS} {D : List ab_E} {Q : QT} {nw k : Nat} {s : MS} (hLI : LInv c D Q nw s k) (hk : 6 * k + 6 ≤ L) (go : ∀ (c : CS) (D : List ab_E) (Q : QT) (nw : Nat) (s : MS), LInv c D Q nw s (k + 1) → ab_WA G (mLW nm) X 1612 (lwL k) [] (cH c (mC s) D)) : ab_WA G (mLW nm) X 1212 (lwL k) [] (cH c (mC s) D) := by
  have h := hLI.1
  have hM : (mC s).length = 12 := rfl
  refine ab_aload_n hX dL_law_1212 mm3 ?_
  refine ab_callV0r hX dL_law_1213 cg_x ss_L_law_160 (cm_X11_image hG hM h.1) (Nat.le_of_ble_eq_true rfl) ?_
  refine ab_aload_n hX dL_law_1216 mm2 ?_
  refine ab_callV0r hX dL_law_1217 (mg_o (A := cC (imgP c D Q).1) (s := s) (B := (imgP c D Q).2) rfl) ss_L_law_163 (cm_X12_image (A := cC (imgP c D Q).1) (s := s) (B := (imgP c D Q).2) hG rfl ) (Nat.le_of_ble_eq_true rfl) ?_
  refine ab_icmpeq (tgt := 1612) hX dL_law_1220 (by decide) (fun _ => ?_) (fun h_ => (h_ (eq_image h )).elim)
  obtain ⟨Q2, nw2, hr⟩ := rs_image h 
  exact go (imgP c D Q).1 (imgP c D Q).2 Q2 nw2 (imS s) (LI_up hLI (up_img h.1) hr)
theorem lw_c34 (hG : ab_GG G) (hGX : ab_GX G) (hX : ab_Good G (mLW nm) X) (hsc : va_X (G.2.2.1 1) L xs G.2.2.2.2.1 G.2.2.2.2.1.heap ∧ G.2.2.1 1 < G.2.1) (hL : L ≤ 3072) {c : CS} {D : List ab_E} {Q : QT} {nw k : Nat} {s : MS} (hLI : LInv c D Q nw s k) (hk : 6 * k + 6 ≤ L) (go : ∀ (c : CS) (D : List ab_E) (Q : QT) (nw : Nat) (s : MS), LInv c D Q nw s (k + 1) → ab_WA G (mLW nm) X 1612 (lwL k) [] (cH c (mC s) D)) : ab_WA G (mLW nm) X 1225 (lwL k) [] (cH c (mC s) D) := by
  have h := hLI.1
  have hM : (mC s).length = 12 := rfl
  refine ab_aload_n hX dL_law_1225 mm3 ?_
  refine ab_callV0r hX dL_law_1226 cg_x ss_L_law_164 (cm_X11_restore hG hM h.1) (Nat.le_of_ble_eq_true rfl) ?_
  refine ab_aload_n hX dL_law_1229 mm2 ?_
  refine ab_callV0r hX dL_law_1230 (mg_o (A := cC (rstP c D Q).1) (s := s) (B := (rstP c D Q).2) rfl) ss_L_law_167 (cm_X12_restore (A := cC (rstP c D Q).1) (s := s) (B := (rstP c D Q).2) hG rfl ) (Nat.le_of_ble_eq_true rfl) ?_
  refine ab_icmpeq (tgt := 1612) hX dL_law_1233 (by decide) (fun _ => ?_) (fun h_ => (h_ (eq_restore h )).elim)
  obtain ⟨Q2, nw2, hr⟩ := rs_restore h 
  exact go (rstP c D Q).1 (rstP c D Q).2 Q2 nw2 (reS s) (LI_up hLI (up_rst h.1) hr)
theorem lw_c35 (hG : ab_GG G) (hGX : ab_GX G) (hX : ab_Good G (mLW nm) X) (hsc : va_X (G.2.2.1 1) L xs G.2.2.2.2.1 G.2.2.2.2.1.heap ∧ G.2.2.1 1 < G.2.1) (hL : L ≤ 3072) {c : CS} {D : List ab_E} {Q : QT} {nw k : Nat} {s : MS} (hLI : LInv c D Q nw s k) (hk : 6 * k + 6 ≤ L) (go : ∀ (c : CS) (D : List ab_E) (Q : QT) (nw : Nat) (s : MS), LInv c D Q nw s (k + 1) → ab_WA G (mLW nm) X 1612 (lwL k) [] (cH c (mC s) D)) : ab_WA G (mLW nm) X 1238 (lwL k) [] (cH c (mC s) D) := by
  have h := hLI.1
  have hM : (mC s).length = 12 := rfl
  refine ab_aload_n hX dL_law_1238 mm3 ?_
  refine lw_arg (j := 1) hX hsc (by omega) hL mm4 mm0 dL_law_1239 dL_law_1240 dL_law_1242 dL_law_1243 dL_law_1244 (by decide) ?_
  refine ab_callV1r hX dL_law_1245 cg_x ss_L_law_168 (cm_X11_count hG hM (rs_0 h) (rs_1 h)) (Nat.le_of_ble_eq_true rfl) ?_
  refine ab_aload_n hX dL_law_1248 mm2 ?_
  refine lw_arg (j := 1) hX hsc (by omega) hL mm4 mm0 dL_law_1249 dL_law_1250 dL_law_1252 dL_law_1253 dL_law_1254 (by decide) ?_
  refine ab_callV1r hX dL_law_1255 (mg_o (A := cC c) (s := s) (B := D) rfl) ss_L_law_171 (cm_X12_count (A := cC c) (s := s) (B := D) hG rfl (rs_I h)) (Nat.le_of_ble_eq_true rfl) ?_
  refine ab_icmpeq (tgt := 1612) hX dL_law_1258 (by decide) (fun _ => ?_) (fun h_ => (h_ (eq_count h (a := (xs (6 * k + 1))))).elim)
  exact go c D Q nw s (LI_up hLI (up_0 D) h)
theorem lw_c36 (hG : ab_GG G) (hGX : ab_GX G) (hX : ab_Good G (mLW nm) X) (hsc : va_X (G.2.2.1 1) L xs G.2.2.2.2.1 G.2.2.2.2.1.heap ∧ G.2.2.1 1 < G.2.1) (hL : L ≤ 3072) {c : CS} {D : List ab_E} {Q : QT} {nw k : Nat} {s : MS} (hLI : LInv c D Q nw s k) (hk : 6 * k + 6 ≤ L) (go : ∀ (c : CS) (D : List ab_E) (Q : QT) (nw : Nat) (s : MS), LInv c D Q nw s (k + 1) → ab_WA G (mLW nm) X 1612 (lwL k) [] (cH c (mC s) D)) : ab_WA G (mLW nm) X 1263 (lwL k) [] (cH c (mC s) D) := by
  have h := hLI.1
  have hM : (mC s).length = 12 := rfl
  refine ab_aload_n hX dL_law_1263 mm3 ?_
  refine lw_arg (j := 1) hX hsc (by omega) hL mm4 mm0 dL_law_1264 dL_law_1265 dL_law_1267 dL_law_1268 dL_law_1269 (by decide) ?_
  refine lw_arg (j := 2) hX hsc (by omega) hL mm4 mm0 dL_law_1270 dL_law_1271 dL_law_1273 dL_law_1274 dL_law_1275 (by decide) ?_
  refine lw_arg (j := 3) hX hsc (by omega) hL mm4 mm0 dL_law_1276 dL_law_1277 dL_law_1279 dL_law_1280 dL_law_1281 (by decide) ?_
  refine lw_arg (j := 4) hX hsc (by omega) hL mm4 mm0 dL_law_1282 dL_law_1283 dL_law_1285 dL_law_1286 dL_law_1287 (by decide) ?_
  refine ab_callV4r hX dL_law_1288 cg_x ss_L_law_172 (cm_X11_keep hG hM ) (Nat.le_of_ble_eq_true rfl) ?_
  refine ab_aload_n hX dL_law_1291 mm2 ?_
  refine lw_arg (j := 1) hX hsc (by omega) hL mm4 mm0 dL_law_1292 dL_law_1293 dL_law_1295 dL_law_1296 dL_law_1297 (by decide) ?_
  refine lw_arg (j := 2) hX hsc (by omega) hL mm4 mm0 dL_law_1298 dL_law_1299 dL_law_1301 dL_law_1302 dL_law_1303 (by decide) ?_
  refine lw_arg (j := 3) hX hsc (by omega) hL mm4 mm0 dL_law_1304 dL_law_1305 dL_law_1307 dL_law_1308 dL_law_1309 (by decide) ?_
  refine lw_arg (j := 4) hX hsc (by omega) hL mm4 mm0 dL_law_1310 dL_law_1311 dL_law_1313 dL_law_1314 dL_law_1315 (by decide) ?_
  refine ab_callV4r hX dL_law_1316 (mg_o (A := cC (kepP c (xs (6 * k + 1)) (xs (6 * k + 2)) (xs (6 * k + 3)) (xs (6 * k + 4)))) (s := s) (B := D) rfl) ss_L_law_175 (cm_X12_keep_ (A := cC (kepP c (xs (6 * k + 1)) (xs (6 * k + 2)) (xs (6 * k + 3)) (xs (6 * k + 4)))) (s := s) (B := D) hG rfl ) (Nat.le_of_ble_eq_true rfl) ?_
  refine ab_icmpeq (tgt := 1612) hX dL_law_1319 (by decide) (fun _ => ?_) (fun h_ => (h_ (eq_keep h (a := (xs (6 * k + 1))) (b := (xs (6 * k + 2))) (d := (xs (6 * k + 3))) (e := (xs (6 * k + 4))))).elim)
  obtain ⟨Q2, nw2, hr⟩ := rs_keep h (a := (xs (6 * k + 1))) (b := (xs (6 * k + 2))) (d := (xs (6 * k + 3))) (e := (xs (6 * k + 4)))
  exact go (kepP c (xs (6 * k + 1)) (xs (6 * k + 2)) (xs (6 * k + 3)) (xs (6 * k + 4))) D Q2 nw2 (keS s (xs (6 * k + 1)) (xs (6 * k + 2)) (xs (6 * k + 3)) (xs (6 * k + 4))) (LI_up hLI (up_0 D) hr)
theorem lw_c37 (hG : ab_GG G) (hGX : ab_GX G) (hX : ab_Good G (mLW nm) X) (hsc : va_X (G.2.2.1 1) L xs G.2.2.2.2.1 G.2.2.2.2.1.heap ∧ G.2.2.1 1 < G.2.1) (hL : L ≤ 3072) {c : CS} {D : List ab_E} {Q : QT} {nw k : Nat} {s : MS} (hLI : LInv c D Q nw s k) (hk : 6 * k + 6 ≤ L) (go : ∀ (c : CS) (D : List ab_E) (Q : QT) (nw : Nat) (s : MS), LInv c D Q nw s (k + 1) → ab_WA G (mLW nm) X 1612 (lwL k) [] (cH c (mC s) D)) : ab_WA G (mLW nm) X 1324 (lwL k) [] (cH c (mC s) D) := by
  have h := hLI.1
  have hM : (mC s).length = 12 := rfl
  refine ab_aload_n hX dL_law_1324 mm3 ?_
  refine lw_arg (j := 1) hX hsc (by omega) hL mm4 mm0 dL_law_1325 dL_law_1326 dL_law_1328 dL_law_1329 dL_law_1330 (by decide) ?_
  refine lw_arg (j := 2) hX hsc (by omega) hL mm4 mm0 dL_law_1331 dL_law_1332 dL_law_1334 dL_law_1335 dL_law_1336 (by decide) ?_
  refine lw_arg (j := 3) hX hsc (by omega) hL mm4 mm0 dL_law_1337 dL_law_1338 dL_law_1340 dL_law_1341 dL_law_1342 (by decide) ?_
  refine ab_callV3r hX dL_law_1343 cg_x ss_L_law_176 (cm_X11_row hG hM ) (Nat.le_of_ble_eq_true rfl) ?_
  refine ab_aload_n hX dL_law_1346 mm2 ?_
  refine lw_arg (j := 1) hX hsc (by omega) hL mm4 mm0 dL_law_1347 dL_law_1348 dL_law_1350 dL_law_1351 dL_law_1352 (by decide) ?_
  refine lw_arg (j := 2) hX hsc (by omega) hL mm4 mm0 dL_law_1353 dL_law_1354 dL_law_1356 dL_law_1357 dL_law_1358 (by decide) ?_
  refine lw_arg (j := 3) hX hsc (by omega) hL mm4 mm0 dL_law_1359 dL_law_1360 dL_law_1362 dL_law_1363 dL_law_1364 (by decide) ?_
  refine ab_callV3r hX dL_law_1365 (mg_o (A := cC (rowP c (xs (6 * k + 1)) (xs (6 * k + 2)) (xs (6 * k + 3)))) (s := s) (B := D) rfl) ss_L_law_179 (cm_X12_row (A := cC (rowP c (xs (6 * k + 1)) (xs (6 * k + 2)) (xs (6 * k + 3)))) (s := s) (B := D) hG rfl ) (Nat.le_of_ble_eq_true rfl) ?_
  refine ab_icmpeq (tgt := 1612) hX dL_law_1368 (by decide) (fun _ => ?_) (fun h_ => (h_ (eq_row h (a := (xs (6 * k + 1))) (b := (xs (6 * k + 2))) (d := (xs (6 * k + 3))))).elim)
  obtain ⟨Q2, nw2, hr⟩ := rs_row h (a := (xs (6 * k + 1))) (b := (xs (6 * k + 2))) (d := (xs (6 * k + 3)))
  exact go (rowP c (xs (6 * k + 1)) (xs (6 * k + 2)) (xs (6 * k + 3))) D Q2 nw2 (roS s (xs (6 * k + 1)) (xs (6 * k + 2)) (xs (6 * k + 3))) (LI_up hLI (up_0 D) hr)
theorem lw_c38 (hG : ab_GG G) (hGX : ab_GX G) (hX : ab_Good G (mLW nm) X) (hsc : va_X (G.2.2.1 1) L xs G.2.2.2.2.1 G.2.2.2.2.1.heap ∧ G.2.2.1 1 < G.2.1) (hL : L ≤ 3072) {c : CS} {D : List ab_E} {Q : QT} {nw k : Nat} {s : MS} (hLI : LInv c D Q nw s k) (hk : 6 * k + 6 ≤ L) (go : ∀ (c : CS) (D : List ab_E) (Q : QT) (nw : Nat) (s : MS), LInv c D Q nw s (k + 1) → ab_WA G (mLW nm) X 1612 (lwL k) [] (cH c (mC s) D)) : ab_WA G (mLW nm) X 1373 (lwL k) [] (cH c (mC s) D) := by
  have h := hLI.1
  have hM : (mC s).length = 12 := rfl
  refine ab_aload_n hX dL_law_1373 mm3 ?_
  refine lw_arg (j := 1) hX hsc (by omega) hL mm4 mm0 dL_law_1374 dL_law_1375 dL_law_1377 dL_law_1378 dL_law_1379 (by decide) ?_
  refine lw_arg (j := 2) hX hsc (by omega) hL mm4 mm0 dL_law_1380 dL_law_1381 dL_law_1383 dL_law_1384 dL_law_1385 (by decide) ?_
  refine lw_arg (j := 3) hX hsc (by omega) hL mm4 mm0 dL_law_1386 dL_law_1387 dL_law_1389 dL_law_1390 dL_law_1391 (by decide) ?_
  refine ab_callV3r hX dL_law_1392 cg_x ss_L_law_180 (cm_X11_put hG hM ) (Nat.le_of_ble_eq_true rfl) ?_
  refine ab_aload_n hX dL_law_1395 mm2 ?_
  refine lw_arg (j := 1) hX hsc (by omega) hL mm4 mm0 dL_law_1396 dL_law_1397 dL_law_1399 dL_law_1400 dL_law_1401 (by decide) ?_
  refine lw_arg (j := 2) hX hsc (by omega) hL mm4 mm0 dL_law_1402 dL_law_1403 dL_law_1405 dL_law_1406 dL_law_1407 (by decide) ?_
  refine lw_arg (j := 3) hX hsc (by omega) hL mm4 mm0 dL_law_1408 dL_law_1409 dL_law_1411 dL_law_1412 dL_law_1413 (by decide) ?_
  refine ab_callV3r hX dL_law_1414 (mg_o (A := cC (putP c (xs (6 * k + 1)) (xs (6 * k + 2)) (xs (6 * k + 3)))) (s := s) (B := D) rfl) ss_L_law_183 (cm_X12_put (A := cC (putP c (xs (6 * k + 1)) (xs (6 * k + 2)) (xs (6 * k + 3)))) (s := s) (B := D) hG rfl (rs_Sh h)) (Nat.le_of_ble_eq_true rfl) ?_
  refine ab_icmpeq (tgt := 1612) hX dL_law_1417 (by decide) (fun _ => ?_) (fun h_ => (h_ (eq_put h (a := (xs (6 * k + 1))) (b := (xs (6 * k + 2))) (d := (xs (6 * k + 3))))).elim)
  obtain ⟨Q2, nw2, hr⟩ := rs_put h (a := (xs (6 * k + 1))) (b := (xs (6 * k + 2))) (d := (xs (6 * k + 3)))
  exact go (putP c (xs (6 * k + 1)) (xs (6 * k + 2)) (xs (6 * k + 3))) D Q2 nw2 (puS s (xs (6 * k + 1)) (xs (6 * k + 2)) (xs (6 * k + 3))) (LI_up hLI (up_0 D) hr)
theorem lw_c40 (hG : ab_GG G) (hGX : ab_GX G) (hX : ab_Good G (mLW nm) X) (hsc : va_X (G.2.2.1 1) L xs G.2.2.2.2.1 G.2.2.2.2.1.heap ∧ G.2.2.1 1 < G.2.1) (hL : L ≤ 3072) {c : CS} {D : List ab_E} {Q : QT} {nw k : Nat} {s : MS} (hLI : LInv c D Q nw s k) (hk : 6 * k + 6 ≤ L) (go : ∀ (c : CS) (D : List ab_E) (Q : QT) (nw : Nat) (s : MS), LInv c D Q nw s (k + 1) → ab_WA G (mLW nm) X 1612 (lwL k) [] (cH c (mC s) D)) : ab_WA G (mLW nm) X 1489 (lwL k) [] (cH c (mC s) D) := by
  have h := hLI.1
  have hM : (mC s).length = 12 := rfl
  refine ab_aload_n hX dL_law_1489 mm3 ?_
  refine lw_arg (j := 1) hX hsc (by omega) hL mm4 mm0 dL_law_1490 dL_law_1491 dL_law_1493 dL_law_1494 dL_law_1495 (by decide) ?_
  refine lw_arg (j := 2) hX hsc (by omega) hL mm4 mm0 dL_law_1496 dL_law_1497 dL_law_1499 dL_law_1500 dL_law_1501 (by decide) ?_
  refine lw_arg (j := 3) hX hsc (by omega) hL mm4 mm0 dL_law_1502 dL_law_1503 dL_law_1505 dL_law_1506 dL_law_1507 (by decide) ?_
  refine lw_arg (j := 4) hX hsc (by omega) hL mm4 mm0 dL_law_1508 dL_law_1509 dL_law_1511 dL_law_1512 dL_law_1513 (by decide) ?_
  refine lw_arg (j := 5) hX hsc (by omega) hL mm4 mm0 dL_law_1514 dL_law_1515 dL_law_1517 dL_law_1518 dL_law_1519 (by decide) ?_
  refine ab_callV5r hX dL_law_1520 cg_x ss_L_law_193 (cm_X11_copy hG hM ) (Nat.le_of_ble_eq_true rfl) ?_
  refine ab_aload_n hX dL_law_1523 mm2 ?_
  refine lw_arg (j := 1) hX hsc (by omega) hL mm4 mm0 dL_law_1524 dL_law_1525 dL_law_1527 dL_law_1528 dL_law_1529 (by decide) ?_
  refine lw_arg (j := 2) hX hsc (by omega) hL mm4 mm0 dL_law_1530 dL_law_1531 dL_law_1533 dL_law_1534 dL_law_1535 (by decide) ?_
  refine lw_arg (j := 3) hX hsc (by omega) hL mm4 mm0 dL_law_1536 dL_law_1537 dL_law_1539 dL_law_1540 dL_law_1541 (by decide) ?_
  refine lw_arg (j := 4) hX hsc (by omega) hL mm4 mm0 dL_law_1542 dL_law_1543 dL_law_1545 dL_law_1546 dL_law_1547 (by decide) ?_
  refine lw_arg (j := 5) hX hsc (by omega) hL mm4 mm0 dL_law_1548 dL_law_1549 dL_law_1551 dL_law_1552 dL_law_1553 (by decide) ?_
  refine ab_callV5r hX dL_law_1554 (mg_o (A := cC (cpP c (xs (6 * k + 1)) (xs (6 * k + 2)) (xs (6 * k + 3)) (xs (6 * k + 4)) (xs (6 * k + 5)))) (s := s) (B := D) rfl) ss_L_law_197 (cm_X12_copy (A := cC (cpP c (xs (6 * k + 1)) (xs (6 * k + 2)) (xs (6 * k + 3)) (xs (6 * k + 4)) (xs (6 * k + 5)))) (s := s) (B := D) hG rfl (rs_Sh h)) (Nat.le_of_ble_eq_true rfl) ?_
  refine ab_icmpeq (tgt := 1612) hX dL_law_1557 (by decide) (fun _ => ?_) (fun h_ => (h_ (eq_copy h (a := (xs (6 * k + 1))) (b := (xs (6 * k + 2))) (d := (xs (6 * k + 3))) (e := (xs (6 * k + 4))) (g := (xs (6 * k + 5))))).elim)
  obtain ⟨Q2, nw2, hr⟩ := rs_copy h (a := (xs (6 * k + 1))) (b := (xs (6 * k + 2))) (d := (xs (6 * k + 3))) (e := (xs (6 * k + 4))) (g := (xs (6 * k + 5)))
  exact go (cpP c (xs (6 * k + 1)) (xs (6 * k + 2)) (xs (6 * k + 3)) (xs (6 * k + 4)) (xs (6 * k + 5))) D Q2 nw2 (coS s (xs (6 * k + 1)) (xs (6 * k + 2)) (xs (6 * k + 3)) (xs (6 * k + 4)) (xs (6 * k + 5))) (LI_up hLI (up_0 D) hr)
theorem lw_c41 (hG : ab_GG G) (hGX : ab_GX G) (hX : ab_Good G (mLW nm) X) (hsc : va_X (G.2.2.1 1) L xs G.2.2.2.2.1 G.2.2.2.2.1.heap ∧ G.2.2.1 1 < G.2.1) (hL : L ≤ 3072) {c : CS} {D : List ab_E} {Q : QT} {nw k : Nat} {s : MS} (hLI : LInv c D Q nw s k) (hk : 6 * k + 6 ≤ L) (go : ∀ (c : CS) (D : List ab_E) (Q : QT) (nw : Nat) (s : MS), LInv c D Q nw s (k + 1) → ab_WA G (mLW nm) X 1612 (lwL k) [] (cH c (mC s) D)) : ab_WA G (mLW nm) X 1562 (lwL k) [] (cH c (mC s) D) := by
  have h := hLI.1
  have hM : (mC s).length = 12 := rfl
  refine ab_aload_n hX dL_law_1562 mm3 ?_
  refine lw_arg (j := 1) hX hsc (by omega) hL mm4 mm0 dL_law_1563 dL_law_1564 dL_law_1566 dL_law_1567 dL_law_1568 (by decide) ?_
  refine ab_callV1r hX dL_law_1569 cg_x ss_L_law_198 (cm_X11_cost hG hM h.2.2.2.2) (Nat.le_of_ble_eq_true rfl) ?_
  refine ab_aload_n hX dL_law_1572 mm2 ?_
  refine lw_arg (j := 1) hX hsc (by omega) hL mm4 mm0 dL_law_1573 dL_law_1574 dL_law_1576 dL_law_1577 dL_law_1578 (by decide) ?_
  refine ab_callV1r hX dL_law_1579 (mg_o (A := cC c) (s := s) (B := D) rfl) ss_L_law_201 (cm_X12_cost (A := cC c) (s := s) (B := D) hG rfl ) (Nat.le_of_ble_eq_true rfl) ?_
  refine ab_icmpeq (tgt := 1612) hX dL_law_1582 (by decide) (fun _ => ?_) (fun h_ => (h_ (eq_cost h (a := (xs (6 * k + 1))))).elim)
  exact go c D Q nw s (LI_up hLI (up_0 D) h)
theorem lw_c42 (hG : ab_GG G) (hGX : ab_GX G) (hX : ab_Good G (mLW nm) X) (hsc : va_X (G.2.2.1 1) L xs G.2.2.2.2.1 G.2.2.2.2.1.heap ∧ G.2.2.1 1 < G.2.1) (hL : L ≤ 3072) {c : CS} {D : List ab_E} {Q : QT} {nw k : Nat} {s : MS} (hLI : LInv c D Q nw s k) (hk : 6 * k + 6 ≤ L) (go : ∀ (c : CS) (D : List ab_E) (Q : QT) (nw : Nat) (s : MS), LInv c D Q nw s (k + 1) → ab_WA G (mLW nm) X 1612 (lwL k) [] (cH c (mC s) D)) : ab_WA G (mLW nm) X 1587 (lwL k) [] (cH c (mC s) D) := by
  have h := hLI.1
  have hM : (mC s).length = 12 := rfl
  refine ab_aload_n hX dL_law_1587 mm3 ?_
  refine lw_arg (j := 1) hX hsc (by omega) hL mm4 mm0 dL_law_1588 dL_law_1589 dL_law_1591 dL_law_1592 dL_law_1593 (by decide) ?_
  refine ab_callVW (rest := []) (av := [.int (xs (6 * k + 1))]) hX dL_law_1594 cg_x ss_L_law_202 (cm_X11_toss hG hM hGX h.2.2.2.2) rfl rfl (by decide) ?_
  show ab_WA G (mLW nm) X _ (lwL k) [.int (tosR c (xs (6 * k + 1)))] _
  refine ab_aload_n hX dL_law_1597 mm2 ?_
  refine lw_arg (j := 1) hX hsc (by omega) hL mm4 mm0 dL_law_1598 dL_law_1599 dL_law_1601 dL_law_1602 dL_law_1603 (by decide) ?_
  refine ab_callV1r hX dL_law_1604 (mg_o (A := cC c) (s := s) (B := (tosD c D (xs (6 * k + 1)))) rfl) ss_L_law_205 (cm_X12_toss (A := cC c) (s := s) (B := (tosD c D (xs (6 * k + 1)))) hG rfl ) (Nat.le_of_ble_eq_true rfl) ?_
  refine ab_icmpeq (tgt := 1612) hX dL_law_1607 (by decide) (fun _ => ?_) (fun h_ => (h_ (eq_toss h (a := (xs (6 * k + 1))))).elim)
  obtain ⟨Q2, nw2, hr⟩ := rs_toss h (a := (xs (6 * k + 1)))
  exact go c (tosD c D (xs (6 * k + 1))) Q2 nw2 s (LI_up hLI up_tos hr)
theorem elD_u {c : CS} {D : List ab_E} {f : Nat → Int64} (hf : D[0]? = some (eCell f)) {d i : Int32} : (elD c D f d i).length ≤ D.length + 1 ∧ ab_sz (elD c D f d i) ≤ ab_sz D + 6 := by
  unfold elD
  split
  · exact ⟨by rw [List.length_set]; omega, Nat.le_trans (Nat.le_of_eq (ab_sz_set hf rfl)) (Nat.le_add_right _ _)⟩
  · split
    · exact ⟨by rw [List.length_append]; exact Nat.le_refl _, by rw [ab_sz_app]; exact Nat.le_refl _⟩
    · exact ⟨by rw [List.length_append]; exact Nat.le_refl _, by rw [ab_sz_app]; exact Nat.le_refl _⟩
theorem elD_0 {c : CS} {D : List ab_E} {f : Nat → Int64} (hf : D[0]? = some (eCell f)) {d i : Int32} : ∃ g, (elD c D f d i)[0]? = some (eCell g) := by
  unfold elD
  split
  · exact ⟨_, gs_s hf⟩
  · split
    · exact ⟨f, ga_o hf⟩
    · exact ⟨f, ga_o hf⟩
theorem lw_c39 (hG : ab_GG G) (hGX : ab_GX G) (hX : ab_Good G (mLW nm) X) (hsc : va_X (G.2.2.1 1) L xs G.2.2.2.2.1 G.2.2.2.2.1.heap ∧ G.2.2.1 1 < G.2.1) (hL : L ≤ 3072) {c : CS} {D : List ab_E} {Q : QT} {nw k : Nat} {s : MS} (hLI : LInv c D Q nw s k) (hk : 6 * k + 6 ≤ L) (go : ∀ (c : CS) (D : List ab_E) (Q : QT) (nw : Nat) (s : MS), LInv c D Q nw s (k + 1) → ab_WA G (mLW nm) X 1612 (lwL k) [] (cH c (mC s) D)) : ab_WA G (mLW nm) X 1422 (lwL k) [] (cH c (mC s) D) := by
  have h := hLI.1
  have hM : (mC s).length = 12 := rfl
  obtain ⟨f, hf⟩ := hLI.2.1
  obtain ⟨eT, eV⟩ := eq_element h (a := xs (6 * k + 1)) (b := xs (6 * k + 2))
  refine ab_aload_n hX dL_law_1422 mm3 ?_
  refine lw_arg (j := 1) hX hsc (by omega) hL mm4 mm0 dL_law_1423 dL_law_1424 dL_law_1426 dL_law_1427 dL_law_1428 (by decide) ?_
  refine lw_arg (j := 2) hX hsc (by omega) hL mm4 mm0 dL_law_1429 dL_law_1430 dL_law_1432 dL_law_1433 dL_law_1434 (by decide) ?_
  refine ab_aload_n hX dL_law_1435 mm1 ?_
  refine ab_callSW (rest := []) (av := [.ref 0, .int (xs (6 * k + 1)), .int (xs (6 * k + 2)), .ref 54]) hX dL_law_1436 ss_L_law_184 (cm_L_element hG hGX hM hf) rfl rfl (by decide) ?_
  show ab_WA G (mLW nm) X _ (lwL k) [.int (elK c (xs (6 * k + 1)) (xs (6 * k + 2)))] (cH c (mC s) (elD c D f (xs (6 * k + 1)) (xs (6 * k + 2))))
  refine ab_istore hX dL_law_1439 (show 5 < 8 by decide) rfl ?_
  refine ab_aload_n hX dL_law_1441 mm3 ?_
  refine lw_arg (j := 1) hX hsc (by omega) hL mm5 mm1 dL_law_1442 dL_law_1443 dL_law_1445 dL_law_1446 dL_law_1447 (by decide) ?_
  refine lw_arg (j := 2) hX hsc (by omega) hL mm5 mm1 dL_law_1448 dL_law_1449 dL_law_1451 dL_law_1452 dL_law_1453 (by decide) ?_
  refine ab_callV2r hX dL_law_1454 (mg_o (A := cC c) (s := s) (B := (elD c D f (xs (6 * k + 1)) (xs (6 * k + 2)))) rfl) ss_L_law_189 (cm_X12_element (A := cC c) (s := s) (B := (elD c D f (xs (6 * k + 1)) (xs (6 * k + 2)))) hG rfl (rs_Sh h)) (Nat.le_of_ble_eq_true rfl) ?_
  refine ab_lstore hX dL_law_1457 (show 6 + 1 < 8 by decide) rfl ?_
  refine ab_aload_n hX dL_law_1459 mm4 ?_
  refine ab_callV0r hX dL_law_1460 (mg_o (A := cC c) (s := (mu1 s 21 (elT s (xs (6 * k + 1)) (xs (6 * k + 2))))) (B := (elD c D f (xs (6 * k + 1)) (xs (6 * k + 2)))) rfl) ss_L_law_190 (cm_X12_thrown (A := cC c) (s := (mu1 s 21 (elT s (xs (6 * k + 1)) (xs (6 * k + 2))))) (B := (elD c D f (xs (6 * k + 1)) (xs (6 * k + 2)))) hG rfl) (Nat.le_of_ble_eq_true rfl) ?_
  refine ab_iload hX dL_law_1463 mm1 ?_
  refine ab_icmpeq (tgt := 1470) hX dL_law_1465 (by decide) (fun _ => ?_) (fun h_ => (h_ eT.symm).elim)
  refine ab_iload hX dL_law_1470 mm1 ?_
  have hend : ab_WA G (mLW nm) X 1486 [(6, .long (elM s (xs (6 * k + 1)) (xs (6 * k + 2)))), (5, .int (elK c (xs (6 * k + 1)) (xs (6 * k + 2)))), (4, .int (nI (6 * k))), (3, .ref 54), (2, .ref 42), (1, .ref 0), (0, .float 1)] [] (cH c (mC (mu1 s 21 (elT s (xs (6 * k + 1)) (xs (6 * k + 2))))) (elD c D f (xs (6 * k + 1)) (xs (6 * k + 2)))) := by
    refine ab_goto (tgt := 1612) hX dL_law_1486 (by decide) ?_
    have hel := rs_element h hf (a := xs (6 * k + 1)) (b := xs (6 * k + 2)) (x := elT s (xs (6 * k + 1)) (xs (6 * k + 2)))
    have hfin : LInv c (elD c D f (xs (6 * k + 1)) (xs (6 * k + 2))) Q nw (mu1 s 21 (elT s (xs (6 * k + 1)) (xs (6 * k + 2)))) (k + 1) := ⟨hel, elD_0 hf, by have := (elD_u (c := c) (f := f) hf (d := (xs (6 * k + 1))) (i := (xs (6 * k + 2)))).1; have := hLI.2.2.1; omega, by have := (elD_u (c := c) (f := f) hf (d := (xs (6 * k + 1))) (i := (xs (6 * k + 2)))).2; have := hLI.2.2.2; omega⟩
    exact ab_pm5 mm2 mm3 mm4 mm5 mm6 (go c (elD c D f (xs (6 * k + 1)) (xs (6 * k + 2))) Q nw (mu1 s 21 (elT s (xs (6 * k + 1)) (xs (6 * k + 2)))) hfin)
  refine ab_ifne (tgt := 1486) hX dL_law_1472 (by decide) (fun _ => hend) (fun hz => ?_)
  refine ab_aload_n hX dL_law_1475 mm3 ?_
  refine ab_iconst (v := 0) hX dL_law_1476 (by decide) ?_
  have hg54 : (cH c (mC (mu1 s 21 (elT s (xs (6 * k + 1)) (xs (6 * k + 2))))) (elD c D f (xs (6 * k + 1)) (xs (6 * k + 2))))[54]? = some (eCell (vp_updL f 0 (nuA c (tn (xs (6 * k + 1))) (xs (6 * k + 2))).toInt64)) := cD_get (k := 0) rfl (by rw [elD, if_pos hz]; exact gs_s hf)
  refine ab_lald (i := 0) hX dL_law_1477 hg54 rfl (by decide) (by decide) ?_
  refine ab_lload hX dL_law_1478 mm0 ?_
  refine ab_lcmp hX dL_law_1480 ?_
  exact ab_ifeqC (tgt := 1486) hX dL_law_1481 (by decide) (fun _ => hend) (fun h_ => (h_ (eV hz)).elim)
theorem lw_exit {k : Nat} (hL : L ≤ 3072) (hk : k ≤ 513) (h : ¬ nI L - 6 < nI (6 * k)) : 6 * k + 6 ≤ L := by
  have e6 : (6 : Int32) = nI 6 := rfl
  have e : (nI L - 6).toInt = (L : Int) - 6 := by
    rw [Int32.toInt_sub, nI_toInt (by omega), e6, nI_toInt (by decide)]
    exact Int.bmod_eq_of_le (by omega) (by omega)
  rw [Int32.lt_iff_toInt_lt, e, nI_toInt (by omega)] at h
  omega
theorem lw_step (hG : ab_GG G) (hGX : ab_GX G) (hX : ab_Good G (mLW nm) X) (hsc : va_X (G.2.2.1 1) L xs G.2.2.2.2.1 G.2.2.2.2.1.heap ∧ G.2.2.1 1 < G.2.1) (hL : L ≤ 3072) (fin : ∀ (l : List (Nat × Value)) (h : List ab_E), h.length ≤ 51400 → ab_sz h ≤ 520000 → ab_WA G (mLW nm) X 1618 l [] h) {c : CS} {D : List ab_E} {Q : QT} {nw k : Nat} {s : MS} (hk9 : k ≤ 513) (hLI : LInv c D Q nw s k) (go : 6 * k + 6 ≤ L → ∀ (c : CS) (D : List ab_E) (Q : QT) (nw : Nat) (s : MS), LInv c D Q nw s (k + 1) → ab_WA G (mLW nm) X 1612 (lwL k) [] (cH c (mC s) D)) : ab_WA G (mLW nm) X 23 (lwL k) [] (cH c (mC s) D) := by
  refine ab_iload hX dL_law_23 mm0 ?_
  refine ab_aload_nS (j := 0) (x := 1) hX dL_law_25 mm4 ?_
  refine ab_slen2 hX hsc dL_law_26 ?_
  refine ab_bipush (v := 6) hX dL_law_27 (by decide) ?_
  refine ab_isub hX dL_law_29 ?_
  refine ab_icmpgt (tgt := 1618) hX dL_law_30 (by decide) (fun _ => ?_) (fun hc => ?_)
  · refine fin _ _ ?_ ?_
    · rw [cH_len, show (mC s).length = 12 from rfl]; exact n_up4 hLI.2.2.1 hk9
    · have e0 : ab_sz (cH c (mC s) D) = ab_sz (cC c) + (ab_sz (mC s) + ab_sz D) := by
        unfold cH ab_sz
        rw [List.map_append, List.map_append, List.sum_append, List.sum_append]
      rw [e0]
      exact n_up3 (szC2 c) (szM2 s) hLI.2.2.2 hk9
  · have hk6 := lw_exit hL hk9 hc
    refine ab_aload_nS (j := 0) (x := 1) hX dL_law_33 mm4 ?_
    refine ab_iload hX dL_law_34 mm0 ?_
    refine ab_sload hX hsc dL_law_36 (vp_in_nI (by omega) (by omega)) ?_
    refine ab_bipush (v := 63) hX dL_law_37 (by decide) ?_
    refine ab_iand hX dL_law_39 ?_
    generalize xs (nI (6 * k)).toNatClampNeg &&& 63 = sw
    rcases ab_sw0_42 sw with hs | hs | hs | hs | hs | hs | hs | hs | hs | hs | hs | hs | hs | hs | hs | hs | hs | hs | hs | hs | hs | hs | hs | hs | hs | hs | hs | hs | hs | hs | hs | hs | hs | hs | hs | hs | hs | hs | hs | hs | hs | hs | hs | hs
    · refine ab_tsIn (tgt := 228) hX dL_law_40 (by rw [hs]; decide) (by rw [hs]; decide) (off := 188) (by rw [hs]; rfl) (by decide) ?_
      exact lw_c0 hG hGX hX hsc hL hLI hk6 (go hk6)
    · refine ab_tsIn (tgt := 253) hX dL_law_40 (by rw [hs]; decide) (by rw [hs]; decide) (off := 213) (by rw [hs]; rfl) (by decide) ?_
      exact lw_c1 hG hGX hX hsc hL hLI hk6 (go hk6)
    · refine ab_tsIn (tgt := 290) hX dL_law_40 (by rw [hs]; decide) (by rw [hs]; decide) (off := 250) (by rw [hs]; rfl) (by decide) ?_
      exact lw_c2 hG hGX hX hsc hL hLI hk6 (go hk6)
    · refine ab_tsIn (tgt := 327) hX dL_law_40 (by rw [hs]; decide) (by rw [hs]; decide) (off := 287) (by rw [hs]; rfl) (by decide) ?_
      exact lw_c3 hG hGX hX hsc hL hLI hk6 (go hk6)
    · refine ab_tsIn (tgt := 352) hX dL_law_40 (by rw [hs]; decide) (by rw [hs]; decide) (off := 312) (by rw [hs]; rfl) (by decide) ?_
      exact lw_c4 hG hGX hX hsc hL hLI hk6 (go hk6)
    · refine ab_tsIn (tgt := 413) hX dL_law_40 (by rw [hs]; decide) (by rw [hs]; decide) (off := 373) (by rw [hs]; rfl) (by decide) ?_
      exact lw_c5 hG hGX hX hsc hL hLI hk6 (go hk6)
    · refine ab_tsIn (tgt := 462) hX dL_law_40 (by rw [hs]; decide) (by rw [hs]; decide) (off := 422) (by rw [hs]; rfl) (by decide) ?_
      exact lw_c6 hG hGX hX hsc hL hLI hk6 (go hk6)
    · refine ab_tsIn (tgt := 523) hX dL_law_40 (by rw [hs]; decide) (by rw [hs]; decide) (off := 483) (by rw [hs]; rfl) (by decide) ?_
      exact lw_c7 hG hGX hX hsc hL hLI hk6 (go hk6)
    · refine ab_tsIn (tgt := 536) hX dL_law_40 (by rw [hs]; decide) (by rw [hs]; decide) (off := 496) (by rw [hs]; rfl) (by decide) ?_
      exact lw_c8 hG hGX hX hsc hL hLI hk6 (go hk6)
    · refine ab_tsIn (tgt := 561) hX dL_law_40 (by rw [hs]; decide) (by rw [hs]; decide) (off := 521) (by rw [hs]; rfl) (by decide) ?_
      exact lw_c9 hG hGX hX hsc hL hLI hk6 (go hk6)
    · refine ab_tsIn (tgt := 586) hX dL_law_40 (by rw [hs]; decide) (by rw [hs]; decide) (off := 546) (by rw [hs]; rfl) (by decide) ?_
      exact lw_c10 hG hGX hX hsc hL hLI hk6 (go hk6)
    · refine ab_tsIn (tgt := 612) hX dL_law_40 (by rw [hs]; decide) (by rw [hs]; decide) (off := 572) (by rw [hs]; rfl) (by decide) ?_
      exact lw_c11 hG hGX hX hsc hL hLI hk6 (go hk6)
    · refine ab_tsIn (tgt := 637) hX dL_law_40 (by rw [hs]; decide) (by rw [hs]; decide) (off := 597) (by rw [hs]; rfl) (by decide) ?_
      exact lw_c12 hG hGX hX hsc hL hLI hk6 (go hk6)
    · refine ab_tsIn (tgt := 662) hX dL_law_40 (by rw [hs]; decide) (by rw [hs]; decide) (off := 622) (by rw [hs]; rfl) (by decide) ?_
      exact lw_c13 hG hGX hX hsc hL hLI hk6 (go hk6)
    · refine ab_tsIn (tgt := 687) hX dL_law_40 (by rw [hs]; decide) (by rw [hs]; decide) (off := 647) (by rw [hs]; rfl) (by decide) ?_
      exact lw_c14 hG hGX hX hsc hL hLI hk6 (go hk6)
    · refine ab_tsIn (tgt := 712) hX dL_law_40 (by rw [hs]; decide) (by rw [hs]; decide) (off := 672) (by rw [hs]; rfl) (by decide) ?_
      exact lw_c15 hG hGX hX hsc hL hLI hk6 (go hk6)
    · refine ab_tsIn (tgt := 725) hX dL_law_40 (by rw [hs]; decide) (by rw [hs]; decide) (off := 685) (by rw [hs]; rfl) (by decide) ?_
      exact lw_c16 hG hGX hX hsc hL hLI hk6 (go hk6)
    · refine ab_tsIn (tgt := 750) hX dL_law_40 (by rw [hs]; decide) (by rw [hs]; decide) (off := 710) (by rw [hs]; rfl) (by decide) ?_
      exact lw_c17 hG hGX hX hsc hL hLI hk6 (go hk6)
    · refine ab_tsIn (tgt := 763) hX dL_law_40 (by rw [hs]; decide) (by rw [hs]; decide) (off := 723) (by rw [hs]; rfl) (by decide) ?_
      exact lw_c18 hG hGX hX hsc hL hLI hk6 (go hk6)
    · refine ab_tsIn (tgt := 776) hX dL_law_40 (by rw [hs]; decide) (by rw [hs]; decide) (off := 736) (by rw [hs]; rfl) (by decide) ?_
      exact lw_c19 hG hGX hX hsc hL hLI hk6 (go hk6)
    · refine ab_tsIn (tgt := 789) hX dL_law_40 (by rw [hs]; decide) (by rw [hs]; decide) (off := 749) (by rw [hs]; rfl) (by decide) ?_
      exact lw_c20 hG hGX hX hsc hL hLI hk6 (go hk6)
    · refine ab_tsIn (tgt := 814) hX dL_law_40 (by rw [hs]; decide) (by rw [hs]; decide) (off := 774) (by rw [hs]; rfl) (by decide) ?_
      exact lw_c21 hG hGX hX hsc hL hLI hk6 (go hk6)
    · refine ab_tsIn (tgt := 839) hX dL_law_40 (by rw [hs]; decide) (by rw [hs]; decide) (off := 799) (by rw [hs]; rfl) (by decide) ?_
      exact lw_c22 hG hGX hX hsc hL hLI hk6 (go hk6)
    · refine ab_tsIn (tgt := 876) hX dL_law_40 (by rw [hs]; decide) (by rw [hs]; decide) (off := 836) (by rw [hs]; rfl) (by decide) ?_
      exact lw_c23 hG hGX hX hsc hL hLI hk6 (go hk6)
    · refine ab_tsIn (tgt := 913) hX dL_law_40 (by rw [hs]; decide) (by rw [hs]; decide) (off := 873) (by rw [hs]; rfl) (by decide) ?_
      exact lw_c24 hG hGX hX hsc hL hLI hk6 (go hk6)
    · refine ab_tsIn (tgt := 962) hX dL_law_40 (by rw [hs]; decide) (by rw [hs]; decide) (off := 922) (by rw [hs]; rfl) (by decide) ?_
      exact lw_c25 hG hGX hX hsc hL hLI hk6 (go hk6)
    · refine ab_tsIn (tgt := 975) hX dL_law_40 (by rw [hs]; decide) (by rw [hs]; decide) (off := 935) (by rw [hs]; rfl) (by decide) ?_
      exact lw_c26 hG hGX hX hsc hL hLI hk6 (go hk6)
    · refine ab_tsIn (tgt := 1000) hX dL_law_40 (by rw [hs]; decide) (by rw [hs]; decide) (off := 960) (by rw [hs]; rfl) (by decide) ?_
      exact lw_c27 hG hGX hX hsc hL hLI hk6 (go hk6)
    · refine ab_tsIn (tgt := 1037) hX dL_law_40 (by rw [hs]; decide) (by rw [hs]; decide) (off := 997) (by rw [hs]; rfl) (by decide) ?_
      exact lw_c28 hG hGX hX hsc hL hLI hk6 (go hk6)
    · refine ab_tsIn (tgt := 1062) hX dL_law_40 (by rw [hs]; decide) (by rw [hs]; decide) (off := 1022) (by rw [hs]; rfl) (by decide) ?_
      exact lw_c29 hG hGX hX hsc hL hLI hk6 (go hk6)
    · refine ab_tsIn (tgt := 1112) hX dL_law_40 (by rw [hs]; decide) (by rw [hs]; decide) (off := 1072) (by rw [hs]; rfl) (by decide) ?_
      exact lw_c30 hG hGX hX hsc hL hLI hk6 (go hk6)
    · refine ab_tsIn (tgt := 1138) hX dL_law_40 (by rw [hs]; decide) (by rw [hs]; decide) (off := 1098) (by rw [hs]; rfl) (by decide) ?_
      exact lw_c31 hG hGX hX hsc hL hLI hk6 (go hk6)
    · refine ab_tsIn (tgt := 1163) hX dL_law_40 (by rw [hs]; decide) (by rw [hs]; decide) (off := 1123) (by rw [hs]; rfl) (by decide) ?_
      exact lw_c32 hG hGX hX hsc hL hLI hk6 (go hk6)
    · refine ab_tsIn (tgt := 1212) hX dL_law_40 (by rw [hs]; decide) (by rw [hs]; decide) (off := 1172) (by rw [hs]; rfl) (by decide) ?_
      exact lw_c33 hG hGX hX hsc hL hLI hk6 (go hk6)
    · refine ab_tsIn (tgt := 1225) hX dL_law_40 (by rw [hs]; decide) (by rw [hs]; decide) (off := 1185) (by rw [hs]; rfl) (by decide) ?_
      exact lw_c34 hG hGX hX hsc hL hLI hk6 (go hk6)
    · refine ab_tsIn (tgt := 1238) hX dL_law_40 (by rw [hs]; decide) (by rw [hs]; decide) (off := 1198) (by rw [hs]; rfl) (by decide) ?_
      exact lw_c35 hG hGX hX hsc hL hLI hk6 (go hk6)
    · refine ab_tsIn (tgt := 1263) hX dL_law_40 (by rw [hs]; decide) (by rw [hs]; decide) (off := 1223) (by rw [hs]; rfl) (by decide) ?_
      exact lw_c36 hG hGX hX hsc hL hLI hk6 (go hk6)
    · refine ab_tsIn (tgt := 1324) hX dL_law_40 (by rw [hs]; decide) (by rw [hs]; decide) (off := 1284) (by rw [hs]; rfl) (by decide) ?_
      exact lw_c37 hG hGX hX hsc hL hLI hk6 (go hk6)
    · refine ab_tsIn (tgt := 1373) hX dL_law_40 (by rw [hs]; decide) (by rw [hs]; decide) (off := 1333) (by rw [hs]; rfl) (by decide) ?_
      exact lw_c38 hG hGX hX hsc hL hLI hk6 (go hk6)
    · refine ab_tsIn (tgt := 1422) hX dL_law_40 (by rw [hs]; decide) (by rw [hs]; decide) (off := 1382) (by rw [hs]; rfl) (by decide) ?_
      exact lw_c39 hG hGX hX hsc hL hLI hk6 (go hk6)
    · refine ab_tsIn (tgt := 1489) hX dL_law_40 (by rw [hs]; decide) (by rw [hs]; decide) (off := 1449) (by rw [hs]; rfl) (by decide) ?_
      exact lw_c40 hG hGX hX hsc hL hLI hk6 (go hk6)
    · refine ab_tsIn (tgt := 1562) hX dL_law_40 (by rw [hs]; decide) (by rw [hs]; decide) (off := 1522) (by rw [hs]; rfl) (by decide) ?_
      exact lw_c41 hG hGX hX hsc hL hLI hk6 (go hk6)
    · refine ab_tsIn (tgt := 1587) hX dL_law_40 (by rw [hs]; decide) (by rw [hs]; decide) (off := 1547) (by rw [hs]; rfl) (by decide) ?_
      exact lw_c42 hG hGX hX hsc hL hLI hk6 (go hk6)
    · refine ab_tsOut (tgt := 1612) hX dL_law_40 hs.1 (by decide) ?_
      exact go hk6 c D Q nw s (LI_up hLI (up_0 D) hLI.1)
theorem lw_loop (hG : ab_GG G) (hGX : ab_GX G) (hX : ab_Good G (mLW nm) X) (hsc : va_X (G.2.2.1 1) L xs G.2.2.2.2.1 G.2.2.2.2.1.heap ∧ G.2.2.1 1 < G.2.1) (hL : L ≤ 3072) (fin : ∀ (l : List (Nat × Value)) (h : List ab_E), h.length ≤ 51400 → ab_sz h ≤ 520000 → ab_WA G (mLW nm) X 1618 l [] h) : ∀ (n k : Nat) (c : CS) (D : List ab_E) (Q : QT) (nw : Nat) (s : MS), n + k = 513 → LInv c D Q nw s k → ab_WA G (mLW nm) X 23 (lwL k) [] (cH c (mC s) D) := by
  intro n
  induction n with
  | zero => exact fun k c D Q nw s hkn hLI => lw_step hG hGX hX hsc hL fin (by omega) hLI (fun hk => absurd hk (by omega))
  | succ n ih =>
    intro k c D Q nw s hkn hLI
    refine lw_step hG hGX hX hsc hL fin (by omega) hLI (fun hk c D Q nw s hLI => ?_)
    refine ab_iinc (v := nI (6 * (k + 1))) hX dL_law_1612 mm0 (by rw [show Int32.ofInt 6 = nI 6 from rfl, nI_add]; exact congrArg nI (by omega)) (show 4 < 8 by decide) rfl ?_
    refine ab_goto (tgt := 23) hX dL_law_1615 (by decide) ?_
    exact ih (k + 1) c D Q nw s (by omega) hLI
end LAW
