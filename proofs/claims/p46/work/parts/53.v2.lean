/-! the law: what may be, what is left, the truth -/
section
variable {ql qs : Nat → SY} {nl ns : Nat}
theorem wld_0 : wldC ql nl qs ns 0 = mbT ql nl := rfl
theorem wld_1 : wldC ql nl qs ns 1 = lfT ql nl qs ns := rfl
theorem many_0 : manyC ql nl qs ns 0 = lbc (mbT ql nl) := rfl
theorem many_1 : manyC ql nl qs ns 1 = lbc (lfT ql nl qs ns) := rfl
theorem prov_0 : provC ql nl qs ns 0 = faI (lfT ql nl qs ns) := rfl
theorem prov_1 : provC ql nl qs ns 1 = fnI (lfT ql nl qs ns) := rfl
theorem slip_0 {t : Int32} : slipC qs ns t 0 = toT qs ns t := rfl
theorem cn_6 {c : CS} {T : Nat} (h : c.1 (20 + 0) = nI T) (hT : T < 64) : cntC c ql nl qs ns 6 = bi (wb (lfT ql nl qs ns) T) := by
  show bi (hwB (lfT ql nl qs ns) (c.1 (20 + 0))) = _
  rw [h, hwB_w _ hT]
theorem is_t {w : Int64} {T : Nat} (hT : T < 64) (h : (w >>> ((nI T).toInt64 &&& 63)) &&& 1 = 1) : bi (wb w T) = 1 := by rw [(w_shb w hT).mp h]; rfl
theorem is_f {w : Int64} {T : Nat} (hT : T < 64) (h : ¬ (w >>> ((nI T).toInt64 &&& 63)) &&& 1 = 1) : bi (wb w T) = 0 := by rw [wbF.mp (fun q => h ((w_shb w hT).mpr q))]; rfl
theorem iq_1 {T : Nat} (hn : ns ≤ 10) (hT : T < 64) (h : (mbT ql nl >>> ((nI T).toInt64 &&& 63)) &&& 1 = 1) (h2 : toT qs ns (nI T) = 0) : bi (wb (lfT ql nl qs ns) T) = 1 := by rw [(ft_is hn hT).mpr ⟨(w_shb _ hT).mp h, h2⟩]; rfl
theorem iq_2 {T : Nat} (hn : ns ≤ 10) (hT : T < 64) (h : ¬ (mbT ql nl >>> ((nI T).toInt64 &&& 63)) &&& 1 = 1) : bi (wb (lfT ql nl qs ns) T) = 0 := by rw [wbF.mp (fun q => h ((w_shb _ hT).mpr ((ft_is hn hT).mp q).1))]; rfl
theorem iq_3 {T : Nat} (hn : ns ≤ 10) (hT : T < 64) (h : ¬ toT qs ns (nI T) = 0) : bi (wb (lfT ql nl qs ns) T) = 0 := by rw [wbF.mp (fun q => h ((ft_is hn hT).mp q).2)]; rfl
theorem bi_n1 {b : Bool} (h : ¬ bi b = 1) : bi b = 0 := by cases b with | false => rfl | true => exact absurd rfl h
end
theorem v_4 {G : ab_G} {nm : String} {X : ab_X} {L : Nat} {xs : Nat → Int32} (hS : ab_GS L xs G) (hX : ab_Good G (mLW nm) X) {pre : List ab_E} {c0 : CS} {D0 : List ab_E} {Q0 : QT} {nw T m : Nat} {f : Nat → Int32} (hP0 : PI c0 D0 Q0 nw) {c : CS} {D : List ab_E} {Q : QT} (hP : PI c D Q nw) (hb : LB c Q nw T f) (kk :  ab_WA G (mLW nm) X 467 [(9, .int (bi (wb (lfT (Q (2 * 0)).2 (Q (2 * 0)).1 (Q (2 * 0 + 1)).2 (Q (2 * 0 + 1)).1) T))), (7, .long (lfT (Q (2 * 0)).2 (Q (2 * 0)).1 (Q (2 * 0 + 1)).2 (Q (2 * 0 + 1)).1)), (5, .long (mbT (Q (2 * 0)).2 (Q (2 * 0)).1)), (3, .long (toF c0 Q0 nw)), (2, .ref (pre.length + 42)), (1, .ref (pre.length + 0)), (0, .float 1)] [] (LH pre c f D)) : ab_WA G (mLW nm) X 284 [(3, .long (toF c0 Q0 nw)), (2, .ref (pre.length + 42)), (1, .ref (pre.length + 0)), (0, .float 1)] [] (LH pre c f D) := by
  have hb3 := hb.2.2.2.1
  have hT := hb.2.2.2.2.2.1
  have hT6 := hb.2.2.2.2.1
  have hn := (hP.1.1 (2 * 0 + 1) (by decide)).2.1
  refine ab_aload_n hX dL_law_284 mm2 ?_
  refine ab_iconst (v := 0) hX dL_law_285 (by decide) ?_
  refine ab_callV1r hX dL_law_286 LH_x ss_L_law_75 (LC1l (pre := pre) hS (fun G' g => cm_X11_worlds g.1 (M := [bC _]) rfl (hP.1.1 (2 * 0) (by decide)) (hP.1.1 (2 * 0 + 1) (by decide)))) (Nat.le_of_ble_eq_true rfl) ?_
  rw [wld_0]
  refine ab_lstore hX dL_law_289 (show 5 + 1 < 15 by decide) rfl ?_
  refine ab_aload_n hX dL_law_291 mm3 ?_
  refine ab_iconst (v := 1) hX dL_law_292 (by decide) ?_
  refine ab_callV1r hX dL_law_293 LH_x ss_L_law_75 (LC1l (pre := pre) hS (fun G' g => cm_X11_worlds g.1 (M := [bC _]) rfl (hP.1.1 (2 * 0) (by decide)) (hP.1.1 (2 * 0 + 1) (by decide)))) (Nat.le_of_ble_eq_true rfl) ?_
  rw [wld_1]
  refine ab_lstore hX dL_law_296 (show 7 + 1 < 15 by decide) rfl ?_
  refine ab_lload hX dL_law_298 mm0 ?_
  refine ab_lload hX dL_law_300 mm1 ?_
  refine ab_ldc2 hX dL_law_302 tw_924 ?_
  refine ab_lxor hX dL_law_305 ?_
  refine ab_land hX dL_law_306 ?_
  refine ab_lconst (v := 0) hX dL_law_307 rfl ?_
  refine ab_lcmp hX dL_law_308 ?_
  refine ab_ifneC (tgt := 338) hX dL_law_309 (by decide) (fun h_1 => (by exact absurd (ft_1 hn) h_1)) (fun h_1 => ?_)
  refine ab_aload_n hX dL_law_312 mm4 ?_
  refine ab_iconst (v := 0) hX dL_law_313 (by decide) ?_
  refine ab_callV1r hX dL_law_314 LH_x ss_L_law_79 (LC1i (pre := pre) hS (fun G' g => cm_X11_many g.1 (M := [bC _]) rfl (hP.1.1 (2 * 0) (by decide)) (hP.1.1 (2 * 0 + 1) (by decide)))) (Nat.le_of_ble_eq_true rfl) ?_
  rw [many_0]
  refine ab_lload hX dL_law_317 mm1 ?_
  refine ab_callS1r hX dL_law_319 ss_L_law_142 (cm_J13_bitCount_95d88 hS.1) (Nat.le_of_ble_eq_true rfl) ?_
  refine ab_icmpne (tgt := 338) hX dL_law_322 (by decide) (fun h_2 => (by exact absurd rfl h_2)) (fun h_2 => ?_)
  refine ab_aload_n hX dL_law_325 mm4 ?_
  refine ab_iconst (v := 1) hX dL_law_326 (by decide) ?_
  refine ab_callV1r hX dL_law_327 LH_x ss_L_law_79 (LC1i (pre := pre) hS (fun G' g => cm_X11_many g.1 (M := [bC _]) rfl (hP.1.1 (2 * 0) (by decide)) (hP.1.1 (2 * 0 + 1) (by decide)))) (Nat.le_of_ble_eq_true rfl) ?_
  rw [many_1]
  refine ab_lload hX dL_law_330 mm0 ?_
  refine ab_callS1r hX dL_law_332 ss_L_law_142 (cm_J13_bitCount_95d88 hS.1) (Nat.le_of_ble_eq_true rfl) ?_
  refine ab_icmpeq (tgt := 340) hX dL_law_335 (by decide) (fun h_3 => ?_) (fun h_3 => (by exact absurd rfl h_3))
  refine ab_lload hX dL_law_340 mm0 ?_
  refine ab_aload_n hX dL_law_342 mm3 ?_
  refine ab_iconst (v := 3) hX dL_law_343 (by decide) ?_
  refine ab_iald (i := 3) hX dL_law_344 LH_b rfl (by decide) (by decide) ?_
  rw [hb3]
  refine ab_lshr hX dL_law_345 ?_
  refine ab_lconst (v := 1) hX dL_law_346 rfl ?_
  refine ab_land hX dL_law_347 ?_
  refine ab_lconst (v := 1) hX dL_law_348 rfl ?_
  refine ab_lcmp hX dL_law_349 ?_
  have J360 : ab_WA G (mLW nm) X 360 [(9, .int (bi (wb (lfT (Q (2 * 0)).2 (Q (2 * 0)).1 (Q (2 * 0 + 1)).2 (Q (2 * 0 + 1)).1) T))), (7, .long (lfT (Q (2 * 0)).2 (Q (2 * 0)).1 (Q (2 * 0 + 1)).2 (Q (2 * 0 + 1)).1)), (5, .long (mbT (Q (2 * 0)).2 (Q (2 * 0)).1)), (3, .long (toF c0 Q0 nw)), (2, .ref (pre.length + 42)), (1, .ref (pre.length + 0)), (0, .float 1)] [] (LH pre c f D) := by
    refine ab_iload hX dL_law_360 mm0 ?_
    refine ab_lload hX dL_law_362 mm2 ?_
    refine ab_aload_n hX dL_law_364 mm4 ?_
    refine ab_iconst (v := 3) hX dL_law_365 (by decide) ?_
    refine ab_iald (i := 3) hX dL_law_366 LH_b rfl (by decide) (by decide) ?_
    rw [hb3]
    refine ab_lshr hX dL_law_367 ?_
    refine ab_lconst (v := 1) hX dL_law_368 rfl ?_
    refine ab_land hX dL_law_369 ?_
    refine ab_lconst (v := 1) hX dL_law_370 rfl ?_
    refine ab_lcmp hX dL_law_371 ?_
    have J391 : ab_WA G (mLW nm) X 391 [(9, .int (bi (wb (lfT (Q (2 * 0)).2 (Q (2 * 0)).1 (Q (2 * 0 + 1)).2 (Q (2 * 0 + 1)).1) T))), (7, .long (lfT (Q (2 * 0)).2 (Q (2 * 0)).1 (Q (2 * 0 + 1)).2 (Q (2 * 0 + 1)).1)), (5, .long (mbT (Q (2 * 0)).2 (Q (2 * 0)).1)), (3, .long (toF c0 Q0 nw)), (2, .ref (pre.length + 42)), (1, .ref (pre.length + 0)), (0, .float 1)] [] (LH pre c f D) := by
      refine ab_aload_n hX dL_law_391 mm5 ?_
      refine ab_bipush (v := 6) hX dL_law_392 (by decide) ?_
      refine ab_callV1r hX dL_law_394 LH_x ss_L_law_48 (LC1i (pre := pre) hS (fun G' g => cm_X11_count g.1 (M := [bC _]) rfl (hP.1.1 (2 * 0) (by decide)) (hP.1.1 (2 * 0 + 1) (by decide)))) (Nat.le_of_ble_eq_true rfl) ?_
      rw [cn_6 hT hT6]
      refine ab_iconst (v := 1) hX dL_law_397 (by decide) ?_
      have J413 : ab_WA G (mLW nm) X 413 [(9, .int (bi (wb (lfT (Q (2 * 0)).2 (Q (2 * 0)).1 (Q (2 * 0 + 1)).2 (Q (2 * 0 + 1)).1) T))), (7, .long (lfT (Q (2 * 0)).2 (Q (2 * 0)).1 (Q (2 * 0 + 1)).2 (Q (2 * 0 + 1)).1)), (5, .long (mbT (Q (2 * 0)).2 (Q (2 * 0)).1)), (3, .long (toF c0 Q0 nw)), (2, .ref (pre.length + 42)), (1, .ref (pre.length + 0)), (0, .float 1)] [] (LH pre c f D) := by
        refine ab_iload hX dL_law_413 mm0 ?_
        have J444 : ab_WA G (mLW nm) X 444 [(9, .int (bi (wb (lfT (Q (2 * 0)).2 (Q (2 * 0)).1 (Q (2 * 0 + 1)).2 (Q (2 * 0 + 1)).1) T))), (7, .long (lfT (Q (2 * 0)).2 (Q (2 * 0)).1 (Q (2 * 0 + 1)).2 (Q (2 * 0 + 1)).1)), (5, .long (mbT (Q (2 * 0)).2 (Q (2 * 0)).1)), (3, .long (toF c0 Q0 nw)), (2, .ref (pre.length + 42)), (1, .ref (pre.length + 0)), (0, .float 1)] [] (LH pre c f D) := by
          refine ab_lload hX dL_law_444 mm1 ?_
          refine ab_lconst (v := 0) hX dL_law_446 rfl ?_
          refine ab_lcmp hX dL_law_447 ?_
          refine ab_ifeqC (tgt := 467) hX dL_law_448 (by decide) (fun h_4 => ?_) (fun h_4 => ?_)
          ·
            exact ab_pm7 mm0 mm1 mm2 mm3 mm4 mm5 mm6 kk
          ·
            refine ab_aload_n hX dL_law_451 mm5 ?_
            refine ab_iconst (v := 0) hX dL_law_452 (by decide) ?_
            refine ab_callV1r hX dL_law_453 LH_x ss_L_law_82 (LC1i (pre := pre) hS (fun G' g => cm_X11_proved g.1 (M := [bC _]) rfl (hP.1.1 (2 * 0) (by decide)) (hP.1.1 (2 * 0 + 1) (by decide)))) (Nat.le_of_ble_eq_true rfl) ?_
            rw [prov_0]
            refine ab_aload_n hX dL_law_456 mm5 ?_
            refine ab_iconst (v := 1) hX dL_law_457 (by decide) ?_
            refine ab_callV1r hX dL_law_458 LH_x ss_L_law_82 (LC1i (pre := pre) hS (fun G' g => cm_X11_proved g.1 (M := [bC _]) rfl (hP.1.1 (2 * 0) (by decide)) (hP.1.1 (2 * 0 + 1) (by decide)))) (Nat.le_of_ble_eq_true rfl) ?_
            rw [prov_1]
            refine ab_iand hX dL_law_461 ?_
            refine ab_ifeq (tgt := 467) hX dL_law_462 (by decide) (fun h_5 => ?_) (fun h_5 => (by exact absurd (ft_fafn (by assumption)) h_5))
            exact ab_pm7 mm0 mm1 mm2 mm3 mm4 mm5 mm6 kk
        refine ab_ifeqB (tgt := 444) hX dL_law_415 (by decide) (fun h_6 => ?_) (fun h_6 => ?_)
        ·
          exact ab_pm7 mm0 mm1 mm2 mm3 mm4 mm5 mm6 J444
        ·
          refine ab_aload_n hX dL_law_418 mm5 ?_
          refine ab_iconst (v := 0) hX dL_law_419 (by decide) ?_
          refine ab_callV1r hX dL_law_420 LH_x ss_L_law_82 (LC1i (pre := pre) hS (fun G' g => cm_X11_proved g.1 (M := [bC _]) rfl (hP.1.1 (2 * 0) (by decide)) (hP.1.1 (2 * 0 + 1) (by decide)))) (Nat.le_of_ble_eq_true rfl) ?_
          rw [prov_0]
          refine ab_aload_n hX dL_law_423 mm4 ?_
          refine ab_iconst (v := 3) hX dL_law_424 (by decide) ?_
          refine ab_iald (i := 3) hX dL_law_425 LH_b rfl (by decide) (by decide) ?_
          rw [hb3]
          refine ab_iconst (v := (-1)) hX dL_law_426 (by decide) ?_
          refine ab_ixor hX dL_law_427 ?_
          refine ab_iand hX dL_law_428 ?_
          refine ab_ifne (tgt := 465) hX dL_law_429 (by decide) (fun h_7 => (by exact absurd (ft_fa hT6 (by assumption)) h_7)) (fun h_7 => ?_)
          refine ab_aload_n hX dL_law_432 mm5 ?_
          refine ab_iconst (v := 1) hX dL_law_433 (by decide) ?_
          refine ab_callV1r hX dL_law_434 LH_x ss_L_law_82 (LC1i (pre := pre) hS (fun G' g => cm_X11_proved g.1 (M := [bC _]) rfl (hP.1.1 (2 * 0) (by decide)) (hP.1.1 (2 * 0 + 1) (by decide)))) (Nat.le_of_ble_eq_true rfl) ?_
          rw [prov_1]
          refine ab_aload_n hX dL_law_437 mm4 ?_
          refine ab_iconst (v := 3) hX dL_law_438 (by decide) ?_
          refine ab_iald (i := 3) hX dL_law_439 LH_b rfl (by decide) (by decide) ?_
          rw [hb3]
          refine ab_iand hX dL_law_440 ?_
          refine ab_ifne (tgt := 465) hX dL_law_441 (by decide) (fun h_8 => (by exact absurd (ft_fn hT6 (by assumption)) h_8)) (fun h_8 => ?_)
          exact ab_pm7 mm0 mm1 mm2 mm3 mm4 mm5 mm6 J444
      refine ab_icmpne (tgt := 405) hX dL_law_398 (by decide) (fun h_9 => ?_) (fun h_9 => ?_)
      ·
        refine ab_iconst (v := 0) hX dL_law_405 (by decide) ?_
        refine ab_iload hX dL_law_406 mm0 ?_
        refine ab_icmpeq (tgt := 413) hX dL_law_408 (by decide) (fun h_10 => ?_) (fun h_10 => (by first | exact absurd (bi_n1 (by assumption)).symm h_10 | exact absurd (Eq.symm (by assumption)) h_10))
        exact ab_pm7 mm0 mm1 mm2 mm3 mm4 mm5 mm6 J413
      ·
        refine ab_iconst (v := 1) hX dL_law_401 (by decide) ?_
        refine ab_goto (tgt := 406) hX dL_law_402 (by decide) ?_
        refine ab_iload hX dL_law_406 mm0 ?_
        refine ab_icmpeq (tgt := 413) hX dL_law_408 (by decide) (fun h_11 => ?_) (fun h_11 => (by first | exact absurd (bi_n1 (by assumption)).symm h_11 | exact absurd (Eq.symm (by assumption)) h_11))
        exact ab_pm7 mm0 mm1 mm2 mm3 mm4 mm5 mm6 J413
    refine ab_ifneC (tgt := 387) hX dL_law_372 (by decide) (fun h_12 => ?_) (fun h_12 => ?_)
    ·
      refine ab_iconst (v := 0) hX dL_law_387 (by decide) ?_
      refine ab_icmpne (tgt := 411) hX dL_law_388 (by decide) (fun h_13 => (by first | exact absurd (iq_1 hn hT6 (by assumption) (by assumption)) h_13 | exact absurd (iq_2 hn hT6 (by assumption)) h_13 | exact absurd (iq_3 hn hT6 (by assumption)) h_13)) (fun h_13 => ?_)
      exact ab_pm7 mm0 mm1 mm2 mm3 mm4 mm5 mm6 J391
    ·
      refine ab_aload_n hX dL_law_375 mm5 ?_
      refine ab_iconst (v := 0) hX dL_law_376 (by decide) ?_
      refine ab_callV1r hX dL_law_377 LH_x ss_L_law_85 (LC1i (pre := pre) hS (fun G' g => cm_X11_slips g.1 (M := [bC _]) rfl (hP.1.1 (2 * 0 + 1) (by decide)))) (Nat.le_of_ble_eq_true rfl) ?_
      rw [slip_0, hT]
      refine ab_ifne (tgt := 387) hX dL_law_380 (by decide) (fun h_14 => ?_) (fun h_14 => ?_)
      ·
        refine ab_iconst (v := 0) hX dL_law_387 (by decide) ?_
        refine ab_icmpne (tgt := 411) hX dL_law_388 (by decide) (fun h_15 => (by first | exact absurd (iq_1 hn hT6 (by assumption) (by assumption)) h_15 | exact absurd (iq_2 hn hT6 (by assumption)) h_15 | exact absurd (iq_3 hn hT6 (by assumption)) h_15)) (fun h_15 => ?_)
        exact ab_pm7 mm0 mm1 mm2 mm3 mm4 mm5 mm6 J391
      ·
        refine ab_iconst (v := 1) hX dL_law_383 (by decide) ?_
        refine ab_goto (tgt := 388) hX dL_law_384 (by decide) ?_
        refine ab_icmpne (tgt := 411) hX dL_law_388 (by decide) (fun h_16 => (by first | exact absurd (iq_1 hn hT6 (by assumption) (by assumption)) h_16 | exact absurd (iq_2 hn hT6 (by assumption)) h_16 | exact absurd (iq_3 hn hT6 (by assumption)) h_16)) (fun h_16 => ?_)
        exact ab_pm7 mm0 mm1 mm2 mm3 mm4 mm5 mm6 J391
  refine ab_ifneC (tgt := 357) hX dL_law_350 (by decide) (fun h_17 => ?_) (fun h_17 => ?_)
  ·
    refine ab_iconst (v := 0) hX dL_law_357 (by decide) ?_
    refine ab_istore hX dL_law_358 (show 9 < 15 by decide) rfl ?_
    exact ab_pm7 (mmv0 (congrArg Value.int (by first | exact is_t hT6 (by assumption) | exact is_f hT6 (by assumption)))) mm1 mm2 mm3 mm4 mm5 mm6 J360
  ·
    refine ab_iconst (v := 1) hX dL_law_353 (by decide) ?_
    refine ab_goto (tgt := 358) hX dL_law_354 (by decide) ?_
    refine ab_istore hX dL_law_358 (show 9 < 15 by decide) rfl ?_
    exact ab_pm7 (mmv0 (congrArg Value.int (by first | exact is_t hT6 (by assumption) | exact is_f hT6 (by assumption)))) mm1 mm2 mm3 mm4 mm5 mm6 J360
