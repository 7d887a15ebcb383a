/-! the law: what each knows, lies, what all know, who slipped -/
theorem cert_e {c : CS} {lf : Int64} {nw w T : Nat} (h : c.1 (10 + 0) = nI nw) (h5 : nw ≤ 5) (hw : w < nw) (hT : c.1 (20 + 0) = nI T) : certC c lf (nI w) = alI (lkI lf (nI T) (kbT c 0 (nI w))) := by
  unfold certC
  rw [if_pos (hw_in h h5 hw), hT]
  rfl
theorem knof_e {c : CS} {lf : Int64} {nw w v T : Nat} (h : c.1 (10 + 0) = nI nw) (h5 : nw ≤ 5) (hw : w < nw) (hv : v < nw) (hT : c.1 (20 + 0) = nI T) : knofC c lf (nI w) (nI v) = acc (koG c lf (lkI lf (nI T) (kbT c 0 (nI w))) (nI v)) 63 64 := by
  unfold knofC
  rw [if_pos (hw_in h h5 hw), if_pos (hw_in h h5 hv), hT]
theorem with_e {c : CS} {ql qs : Nat → SY} {nl ns nw w : Nat} (h : c.1 (10 + 0) = nI nw) (h5 : nw ≤ 5) (hw : w < nw) : withC c ql nl qs ns (nI w) = lbc (ltT ql nl qs ns ((1 : Int32) <<< (nI w &&& 31) ^^^ (-1))) - lbc (lfT ql nl qs ns) := by
  unfold withC
  rw [if_pos (hw_in h h5 hw)]
theorem lie_0 {c : CS} {lf : Int64} {nw w : Nat} (h : c.1 (10 + 0) = nI nw) (h5 : nw ≤ 5) (hw : w < nw) : lieC c lf (nI w) 0 = (liP c lf (nI w)).1 := by
  unfold lieC
  rw [if_pos (hw_in h h5 hw)]
  rfl
theorem lie_1 {c : CS} {lf : Int64} {nw w : Nat} (h : c.1 (10 + 0) = nI nw) (h5 : nw ≤ 5) (hw : w < nw) : lieC c lf (nI w) 1 = (liP c lf (nI w)).2.1 := by
  unfold lieC
  rw [if_pos (hw_in h h5 hw)]
  rfl
theorem lie_2 {c : CS} {lf : Int64} {nw w : Nat} (h : c.1 (10 + 0) = nI nw) (h5 : nw ≤ 5) (hw : w < nw) : lieC c lf (nI w) 2 = (liP c lf (nI w)).2.2 := by
  unfold lieC
  rw [if_pos (hw_in h h5 hw)]
  rfl
theorem iw5 : ∀ k, k < 6 → iw (nI k) 0 5 = true := by decide
theorem alk_e {c : CS} {lf : Int64} {nw k T : Nat} (h : c.1 (10 + 0) = nI nw) (h5 : nw ≤ 5) (h0 : 0 < nw) (hk : k < 6) (hT : c.1 (20 + 0) = nI T) : alkC c nw lf (nI k) = alI (rN c nw lf (nI T) (k + 1)) := by
  unfold alkC
  rw [if_pos (iw5 k hk), h, if_neg (fun q => by have := (nI_eq (b := 0) (by omega) (by decide)).mp q; omega), hT, tn8 (by omega)]
  rfl
theorem al_e {c : CS} {ql : Nat → SY} {nl : Nat} {qs : Nat → SY} {ns k : Nat} (h : c.1 (30 + (2 * 0 + 1)) = nI ns) (hn : ns ≤ 10) (hk : k < ns) : aloneC c ql nl qs (nI k) = lbc (mbT ql nl &&& (wY (qs k) ^^^ (-1))) := by
  unfold aloneC
  rw [h, if_pos (show iw (nI k) 0 (nI ns - 1) = true from ?_), tn8 (by omega)]
  have e : ∀ n, n ≤ 10 → ∀ k, k < n → iw (nI k) 0 (nI n - 1) = true := by decide
  exact e ns hn k hk
theorem kb_w {c : CS} {nw w : Nat} (h5 : nw ≤ 5) (hw : w < nw) : kbT c 0 (nI w) = c.2.1 0 w := kb_n (by omega)
theorem ft_knw {c : CS} {lf : Int64} {u : Int32} {nw w : Nat} {x : Int32} (h5 : nw ≤ 5) (hw : w < nw) (hx : x = c.2.1 0 w) (hb : ∃ b, b < 64 ∧ c.2.1 0 w = nI b) : x &&& (alI (lkI lf u (kbT c 0 (nI w))) ^^^ (-1)) = 0 := by
  obtain ⟨b, b1, b2⟩ := hb
  rw [hx, kb_w h5 hw, b2]
  exact ft_kn lf u b1
theorem v_5z {G : ab_G} {nm : String} {X : ab_X} {L : Nat} {xs : Nat → Int32} (hS : ab_GS L xs G) (hX : ab_Good G (mLW nm) X) {pre : List ab_E} {c0 : CS} {D0 : List ab_E} {Q0 : QT} {nw T m : Nat} {f : Nat → Int32} (hP0 : PI c0 D0 Q0 nw) {c : CS} {D : List ab_E} {Q : QT} (kk :  ab_WA G (mLW nm) X 470 [(10, .int (nI 0)), (9, .int (bi (wb (lfT (Q (2 * 0)).2 (Q (2 * 0)).1 (Q (2 * 0 + 1)).2 (Q (2 * 0 + 1)).1) T))), (7, .long (lfT (Q (2 * 0)).2 (Q (2 * 0)).1 (Q (2 * 0 + 1)).2 (Q (2 * 0 + 1)).1)), (5, .long (mbT (Q (2 * 0)).2 (Q (2 * 0)).1)), (3, .long (toF c0 Q0 nw)), (2, .ref (pre.length + 42)), (1, .ref (pre.length + 0)), (0, .float 1)] [] (LH pre c f D)) : ab_WA G (mLW nm) X 467 [(9, .int (bi (wb (lfT (Q (2 * 0)).2 (Q (2 * 0)).1 (Q (2 * 0 + 1)).2 (Q (2 * 0 + 1)).1) T))), (7, .long (lfT (Q (2 * 0)).2 (Q (2 * 0)).1 (Q (2 * 0 + 1)).2 (Q (2 * 0 + 1)).1)), (5, .long (mbT (Q (2 * 0)).2 (Q (2 * 0)).1)), (3, .long (toF c0 Q0 nw)), (2, .ref (pre.length + 42)), (1, .ref (pre.length + 0)), (0, .float 1)] [] (LH pre c f D) := by
  refine ab_iconst (v := 0) hX dL_law_467 (by decide) ?_
  refine ab_istore hX dL_law_468 (show 10 < 15 by decide) rfl ?_
  exact ab_pm8 mm0 mm1 mm2 mm3 mm4 mm5 mm6 mm7 kk
theorem v_5a {G : ab_G} {nm : String} {X : ab_X} {L : Nat} {xs : Nat → Int32} (hS : ab_GS L xs G) (hX : ab_Good G (mLW nm) X) {pre : List ab_E} {c0 : CS} {D0 : List ab_E} {Q0 : QT} {nw T m : Nat} {f : Nat → Int32} (hP0 : PI c0 D0 Q0 nw) {c : CS} {D : List ab_E} {Q : QT} {w : Nat} (hw : w < nw) (hP : PI c D Q nw) (hb : LB c Q nw T f) (kk :  ab_WA G (mLW nm) X 530 [(11, .int (nI 0)), (10, .int (nI w)), (9, .int (bi (wb (lfT (Q (2 * 0)).2 (Q (2 * 0)).1 (Q (2 * 0 + 1)).2 (Q (2 * 0 + 1)).1) T))), (7, .long (lfT (Q (2 * 0)).2 (Q (2 * 0)).1 (Q (2 * 0 + 1)).2 (Q (2 * 0 + 1)).1)), (5, .long (mbT (Q (2 * 0)).2 (Q (2 * 0)).1)), (3, .long (toF c0 Q0 nw)), (2, .ref (pre.length + 42)), (1, .ref (pre.length + 0)), (0, .float 1)] [] (LH pre c f D)) : ab_WA G (mLW nm) X 470 [(10, .int (nI w)), (9, .int (bi (wb (lfT (Q (2 * 0)).2 (Q (2 * 0)).1 (Q (2 * 0 + 1)).2 (Q (2 * 0 + 1)).1) T))), (7, .long (lfT (Q (2 * 0)).2 (Q (2 * 0)).1 (Q (2 * 0 + 1)).2 (Q (2 * 0 + 1)).1)), (5, .long (mbT (Q (2 * 0)).2 (Q (2 * 0)).1)), (3, .long (toF c0 Q0 nw)), (2, .ref (pre.length + 42)), (1, .ref (pre.length + 0)), (0, .float 1)] [] (LH pre c f D) := by
  have hb1 := hb.2.1
  have hb2 := hb.2.2.1
  have hb3 := hb.2.2.2.1
  have hT := hb.2.2.2.2.2.1
  have hT6 := hb.2.2.2.2.1
  have hn := (hP.1.1 (2 * 0 + 1) (by decide)).2.1
  have h5 := hP.2.2.1
  have hw10 := hP.2.1
  refine ab_iload hX dL_law_470 mm0 ?_
  refine ab_aload_n hX dL_law_472 mm5 ?_
  refine ab_iconst (v := 1) hX dL_law_473 (by decide) ?_
  refine ab_iald (i := 1) hX dL_law_474 LH_b rfl (by decide) (by decide) ?_
  refine ab_icmpge (tgt := 691) hX dL_law_475 (by decide) (fun h_1 => (by rw [hb1] at h_1; have := (nI_leI (by omega) (by omega)).mp h_1; omega)) (fun h_1 => ?_)
  refine ab_aload_n hX dL_law_478 mm6 ?_
  refine ab_iconst (v := 0) hX dL_law_479 (by decide) ?_
  refine ab_callV1r hX dL_law_480 LH_x ss_L_law_82 (LC1i (pre := pre) hS (fun G' g => cm_X11_proved g.1 (M := [bC _]) rfl (hP.1.1 (2 * 0) (by decide)) (hP.1.1 (2 * 0 + 1) (by decide)))) (Nat.le_of_ble_eq_true rfl) ?_
  rw [prov_0]
  refine ab_aload_n hX dL_law_483 mm6 ?_
  refine ab_iconst (v := 1) hX dL_law_484 (by decide) ?_
  refine ab_callV1r hX dL_law_485 LH_x ss_L_law_82 (LC1i (pre := pre) hS (fun G' g => cm_X11_proved g.1 (M := [bC _]) rfl (hP.1.1 (2 * 0) (by decide)) (hP.1.1 (2 * 0 + 1) (by decide)))) (Nat.le_of_ble_eq_true rfl) ?_
  rw [prov_1]
  refine ab_ior hX dL_law_488 ?_
  refine ab_aload_n hX dL_law_489 mm6 ?_
  refine ab_iload hX dL_law_490 mm0 ?_
  refine ab_callV1r hX dL_law_492 LH_x ss_L_law_69 (LC1i (pre := pre) hS (fun G' g => cm_X11_certain g.1 (M := [bC _]) rfl (hP.1.1 (2 * 0) (by decide)) (hP.1.1 (2 * 0 + 1) (by decide)))) (Nat.le_of_ble_eq_true rfl) ?_
  rw [cert_e hw10 h5 hw hT]
  refine ab_iconst (v := (-1)) hX dL_law_495 (by decide) ?_
  refine ab_ixor hX dL_law_496 ?_
  refine ab_iand hX dL_law_497 ?_
  refine ab_ifne (tgt := 525) hX dL_law_498 (by decide) (fun h_2 => (by exact absurd (ft_cert _ _ _) h_2)) (fun h_2 => ?_)
  refine ab_iload hX dL_law_501 mm1 ?_
  have J527 : ab_WA G (mLW nm) X 527 [(10, .int (nI w)), (9, .int (bi (wb (lfT (Q (2 * 0)).2 (Q (2 * 0)).1 (Q (2 * 0 + 1)).2 (Q (2 * 0 + 1)).1) T))), (7, .long (lfT (Q (2 * 0)).2 (Q (2 * 0)).1 (Q (2 * 0 + 1)).2 (Q (2 * 0 + 1)).1)), (5, .long (mbT (Q (2 * 0)).2 (Q (2 * 0)).1)), (3, .long (toF c0 Q0 nw)), (2, .ref (pre.length + 42)), (1, .ref (pre.length + 0)), (0, .float 1)] [] (LH pre c f D) := by
    refine ab_iconst (v := 0) hX dL_law_527 (by decide) ?_
    refine ab_istore hX dL_law_528 (show 11 < 15 by decide) rfl ?_
    exact ab_pm9 mm0 mm1 mm2 mm3 mm4 mm5 mm6 mm7 mm8 kk
  refine ab_ifeqB (tgt := 527) hX dL_law_503 (by decide) (fun h_3 => ?_) (fun h_3 => ?_)
  ·
    exact ab_pm8 mm0 mm1 mm2 mm3 mm4 mm5 mm6 mm7 J527
  ·
    refine ab_aload_n hX dL_law_506 mm5 ?_
    refine ab_bipush (v := 10) hX dL_law_507 (by decide) ?_
    refine ab_iload hX dL_law_509 mm0 ?_
    refine ab_iadd hX dL_law_511 ?_
    refine ab_iald (i := (10 + w)) hX dL_law_512 LH_b (nI_add 10 w) (by omega) (by decide) ?_
    refine ab_aload_n hX dL_law_513 mm6 ?_
    refine ab_iload hX dL_law_514 mm0 ?_
    refine ab_callV1r hX dL_law_516 LH_x ss_L_law_69 (LC1i (pre := pre) hS (fun G' g => cm_X11_certain g.1 (M := [bC _]) rfl (hP.1.1 (2 * 0) (by decide)) (hP.1.1 (2 * 0 + 1) (by decide)))) (Nat.le_of_ble_eq_true rfl) ?_
    rw [cert_e hw10 h5 hw hT]
    refine ab_iconst (v := (-1)) hX dL_law_519 (by decide) ?_
    refine ab_ixor hX dL_law_520 ?_
    refine ab_iand hX dL_law_521 ?_
    refine ab_ifeq (tgt := 527) hX dL_law_522 (by decide) (fun h_4 => ?_) (fun h_4 => (by exact absurd (ft_knw h5 hw (hb.2.2.2.2.2.2 w hw) (hP.2.2.2.2.2.2.1 w hw)) h_4))
    exact ab_pm8 mm0 mm1 mm2 mm3 mm4 mm5 mm6 mm7 J527
theorem v_5e {G : ab_G} {nm : String} {X : ab_X} {L : Nat} {xs : Nat → Int32} (hS : ab_GS L xs G) (hX : ab_Good G (mLW nm) X) {pre : List ab_E} {c0 : CS} {D0 : List ab_E} {Q0 : QT} {nw T m : Nat} {f : Nat → Int32} (hP0 : PI c0 D0 Q0 nw) {c : CS} {D : List ab_E} {Q : QT} (hP : PI c D Q nw) (hb : LB c Q nw T f) (kk :  ab_WA G (mLW nm) X 691 [(9, .int (bi (wb (lfT (Q (2 * 0)).2 (Q (2 * 0)).1 (Q (2 * 0 + 1)).2 (Q (2 * 0 + 1)).1) T))), (7, .long (lfT (Q (2 * 0)).2 (Q (2 * 0)).1 (Q (2 * 0 + 1)).2 (Q (2 * 0 + 1)).1)), (5, .long (mbT (Q (2 * 0)).2 (Q (2 * 0)).1)), (3, .long (toF c0 Q0 nw)), (2, .ref (pre.length + 42)), (1, .ref (pre.length + 0)), (0, .float 1)] [] (LH pre c f D)) : ab_WA G (mLW nm) X 470 [(10, .int (nI nw)), (9, .int (bi (wb (lfT (Q (2 * 0)).2 (Q (2 * 0)).1 (Q (2 * 0 + 1)).2 (Q (2 * 0 + 1)).1) T))), (7, .long (lfT (Q (2 * 0)).2 (Q (2 * 0)).1 (Q (2 * 0 + 1)).2 (Q (2 * 0 + 1)).1)), (5, .long (mbT (Q (2 * 0)).2 (Q (2 * 0)).1)), (3, .long (toF c0 Q0 nw)), (2, .ref (pre.length + 42)), (1, .ref (pre.length + 0)), (0, .float 1)] [] (LH pre c f D) := by
  have hb1 := hb.2.1
  have hb2 := hb.2.2.1
  have hb3 := hb.2.2.2.1
  have hT := hb.2.2.2.2.2.1
  have hT6 := hb.2.2.2.2.1
  have hn := (hP.1.1 (2 * 0 + 1) (by decide)).2.1
  have h5 := hP.2.2.1
  have hw10 := hP.2.1
  refine ab_iload hX dL_law_470 mm0 ?_
  refine ab_aload_n hX dL_law_472 mm5 ?_
  refine ab_iconst (v := 1) hX dL_law_473 (by decide) ?_
  refine ab_iald (i := 1) hX dL_law_474 LH_b rfl (by decide) (by decide) ?_
  refine ab_icmpge (tgt := 691) hX dL_law_475 (by decide) (fun h_1 => ?_) (fun h_1 => (by exact absurd (by rw [hb1]; exact Int32.le_refl _) h_1))
  exact ab_pm7 mm1 mm2 mm3 mm4 mm5 mm6 mm7 kk
theorem v_5i {G : ab_G} {nm : String} {X : ab_X} {L : Nat} {xs : Nat → Int32} (hS : ab_GS L xs G) (hX : ab_Good G (mLW nm) X) {pre : List ab_E} {c0 : CS} {D0 : List ab_E} {Q0 : QT} {nw T m : Nat} {f : Nat → Int32} (hP0 : PI c0 D0 Q0 nw) {c : CS} {D : List ab_E} {Q : QT} {w v : Nat} (hw : w < nw) (hv : v < nw) (hP : PI c D Q nw) (hb : LB c Q nw T f) (kk :  ab_WA G (mLW nm) X 530 [(11, .int (nI (v + 1))), (10, .int (nI w)), (9, .int (bi (wb (lfT (Q (2 * 0)).2 (Q (2 * 0)).1 (Q (2 * 0 + 1)).2 (Q (2 * 0 + 1)).1) T))), (7, .long (lfT (Q (2 * 0)).2 (Q (2 * 0)).1 (Q (2 * 0 + 1)).2 (Q (2 * 0 + 1)).1)), (5, .long (mbT (Q (2 * 0)).2 (Q (2 * 0)).1)), (3, .long (toF c0 Q0 nw)), (2, .ref (pre.length + 42)), (1, .ref (pre.length + 0)), (0, .float 1)] [] (LH pre c f D)) : ab_WA G (mLW nm) X 530 [(11, .int (nI v)), (10, .int (nI w)), (9, .int (bi (wb (lfT (Q (2 * 0)).2 (Q (2 * 0)).1 (Q (2 * 0 + 1)).2 (Q (2 * 0 + 1)).1) T))), (7, .long (lfT (Q (2 * 0)).2 (Q (2 * 0)).1 (Q (2 * 0 + 1)).2 (Q (2 * 0 + 1)).1)), (5, .long (mbT (Q (2 * 0)).2 (Q (2 * 0)).1)), (3, .long (toF c0 Q0 nw)), (2, .ref (pre.length + 42)), (1, .ref (pre.length + 0)), (0, .float 1)] [] (LH pre c f D) := by
  have hb1 := hb.2.1
  have hb2 := hb.2.2.1
  have hb3 := hb.2.2.2.1
  have hT := hb.2.2.2.2.2.1
  have hT6 := hb.2.2.2.2.1
  have hn := (hP.1.1 (2 * 0 + 1) (by decide)).2.1
  have h5 := hP.2.2.1
  have hw10 := hP.2.1
  refine ab_iload hX dL_law_530 mm0 ?_
  refine ab_aload_n hX dL_law_532 mm6 ?_
  refine ab_iconst (v := 1) hX dL_law_533 (by decide) ?_
  refine ab_iald (i := 1) hX dL_law_534 LH_b rfl (by decide) (by decide) ?_
  refine ab_icmpge (tgt := 600) hX dL_law_535 (by decide) (fun h_1 => (by rw [hb1] at h_1; have := (nI_leI (by omega) (by omega)).mp h_1; omega)) (fun h_1 => ?_)
  refine ab_iload hX dL_law_538 mm2 ?_
  have J563 : ab_WA G (mLW nm) X 563 [(11, .int (nI v)), (10, .int (nI w)), (9, .int (bi (wb (lfT (Q (2 * 0)).2 (Q (2 * 0)).1 (Q (2 * 0 + 1)).2 (Q (2 * 0 + 1)).1) T))), (7, .long (lfT (Q (2 * 0)).2 (Q (2 * 0)).1 (Q (2 * 0 + 1)).2 (Q (2 * 0 + 1)).1)), (5, .long (mbT (Q (2 * 0)).2 (Q (2 * 0)).1)), (3, .long (toF c0 Q0 nw)), (2, .ref (pre.length + 42)), (1, .ref (pre.length + 0)), (0, .float 1)] [] (LH pre c f D) := by
    refine ab_iload hX dL_law_563 mm2 ?_
    have J594 : ab_WA G (mLW nm) X 594 [(11, .int (nI v)), (10, .int (nI w)), (9, .int (bi (wb (lfT (Q (2 * 0)).2 (Q (2 * 0)).1 (Q (2 * 0 + 1)).2 (Q (2 * 0 + 1)).1) T))), (7, .long (lfT (Q (2 * 0)).2 (Q (2 * 0)).1 (Q (2 * 0 + 1)).2 (Q (2 * 0 + 1)).1)), (5, .long (mbT (Q (2 * 0)).2 (Q (2 * 0)).1)), (3, .long (toF c0 Q0 nw)), (2, .ref (pre.length + 42)), (1, .ref (pre.length + 0)), (0, .float 1)] [] (LH pre c f D) := by
      refine ab_iinc hX dL_law_594 mm0 rfl (show 11 < 15 by decide) rfl ?_
      refine ab_goto (tgt := 530) hX dL_law_597 (by decide) ?_
      exact ab_pm9 (mmv0 (congrArg Value.int (by exact (nI_1 _).symm))) mm1 mm2 mm3 mm4 mm5 mm6 mm7 mm8 kk
    refine ab_ifeqB (tgt := 594) hX dL_law_565 (by decide) (fun h_2 => ?_) (fun h_2 => ?_)
    ·
      exact ab_pm9 mm0 mm1 mm2 mm3 mm4 mm5 mm6 mm7 mm8 J594
    ·
      refine ab_iload hX dL_law_568 mm0 ?_
      refine ab_iload hX dL_law_570 mm1 ?_
      refine ab_icmpne (tgt := 594) hX dL_law_572 (by decide) (fun h_3 => ?_) (fun h_3 => ?_)
      ·
        exact ab_pm9 mm0 mm1 mm2 mm3 mm4 mm5 mm6 mm7 mm8 J594
      ·
        refine ab_aload_n hX dL_law_575 mm7 ?_
        refine ab_iload hX dL_law_576 mm1 ?_
        refine ab_iload hX dL_law_578 mm1 ?_
        refine ab_callV2r hX dL_law_580 LH_x ss_L_law_72 (LC2i (pre := pre) hS (fun G' g => cm_X11_knowsOf g.1 (M := [bC _]) rfl (hP.1.1 (2 * 0) (by decide)) (hP.1.1 (2 * 0 + 1) (by decide)))) (Nat.le_of_ble_eq_true rfl) ?_
        rw [knof_e hw10 h5 hw hw hT]
        refine ab_aload_n hX dL_law_583 mm7 ?_
        refine ab_iload hX dL_law_584 mm1 ?_
        refine ab_callV1r hX dL_law_586 LH_x ss_L_law_69 (LC1i (pre := pre) hS (fun G' g => cm_X11_certain g.1 (M := [bC _]) rfl (hP.1.1 (2 * 0) (by decide)) (hP.1.1 (2 * 0 + 1) (by decide)))) (Nat.le_of_ble_eq_true rfl) ?_
        rw [cert_e hw10 h5 hw hT]
        refine ab_icmpeq (tgt := 594) hX dL_law_589 (by decide) (fun h_4 => ?_) (fun h_4 => (by exact absurd (ft_kos hT6 (by assumption)) h_4))
        exact ab_pm9 mm0 mm1 mm2 mm3 mm4 mm5 mm6 mm7 mm8 J594
  refine ab_ifeqB (tgt := 563) hX dL_law_540 (by decide) (fun h_5 => ?_) (fun h_5 => ?_)
  ·
    exact ab_pm9 mm0 mm1 mm2 mm3 mm4 mm5 mm6 mm7 mm8 J563
  ·
    refine ab_aload_n hX dL_law_543 mm7 ?_
    refine ab_iload hX dL_law_544 mm1 ?_
    refine ab_iload hX dL_law_546 mm0 ?_
    refine ab_callV2r hX dL_law_548 LH_x ss_L_law_72 (LC2i (pre := pre) hS (fun G' g => cm_X11_knowsOf g.1 (M := [bC _]) rfl (hP.1.1 (2 * 0) (by decide)) (hP.1.1 (2 * 0 + 1) (by decide)))) (Nat.le_of_ble_eq_true rfl) ?_
    rw [knof_e hw10 h5 hw hv hT]
    refine ab_aload_n hX dL_law_551 mm7 ?_
    refine ab_iload hX dL_law_552 mm0 ?_
    refine ab_callV1r hX dL_law_554 LH_x ss_L_law_69 (LC1i (pre := pre) hS (fun G' g => cm_X11_certain g.1 (M := [bC _]) rfl (hP.1.1 (2 * 0) (by decide)) (hP.1.1 (2 * 0 + 1) (by decide)))) (Nat.le_of_ble_eq_true rfl) ?_
    rw [cert_e hw10 h5 hv hT]
    refine ab_iconst (v := (-1)) hX dL_law_557 (by decide) ?_
    refine ab_ixor hX dL_law_558 ?_
    refine ab_iand hX dL_law_559 ?_
    refine ab_ifne (tgt := 592) hX dL_law_560 (by decide) (fun h_6 => (by exact absurd (ft_ko hT6 (by assumption)) h_6)) (fun h_6 => ?_)
    exact ab_pm9 mm0 mm1 mm2 mm3 mm4 mm5 mm6 mm7 mm8 J563
theorem v_5ie {G : ab_G} {nm : String} {X : ab_X} {L : Nat} {xs : Nat → Int32} (hS : ab_GS L xs G) (hX : ab_Good G (mLW nm) X) {pre : List ab_E} {c0 : CS} {D0 : List ab_E} {Q0 : QT} {nw T m : Nat} {f : Nat → Int32} (hP0 : PI c0 D0 Q0 nw) {c : CS} {D : List ab_E} {Q : QT} {w : Nat} (hP : PI c D Q nw) (hb : LB c Q nw T f) (kk :  ab_WA G (mLW nm) X 600 [(10, .int (nI w)), (9, .int (bi (wb (lfT (Q (2 * 0)).2 (Q (2 * 0)).1 (Q (2 * 0 + 1)).2 (Q (2 * 0 + 1)).1) T))), (7, .long (lfT (Q (2 * 0)).2 (Q (2 * 0)).1 (Q (2 * 0 + 1)).2 (Q (2 * 0 + 1)).1)), (5, .long (mbT (Q (2 * 0)).2 (Q (2 * 0)).1)), (3, .long (toF c0 Q0 nw)), (2, .ref (pre.length + 42)), (1, .ref (pre.length + 0)), (0, .float 1)] [] (LH pre c f D)) : ab_WA G (mLW nm) X 530 [(11, .int (nI nw)), (10, .int (nI w)), (9, .int (bi (wb (lfT (Q (2 * 0)).2 (Q (2 * 0)).1 (Q (2 * 0 + 1)).2 (Q (2 * 0 + 1)).1) T))), (7, .long (lfT (Q (2 * 0)).2 (Q (2 * 0)).1 (Q (2 * 0 + 1)).2 (Q (2 * 0 + 1)).1)), (5, .long (mbT (Q (2 * 0)).2 (Q (2 * 0)).1)), (3, .long (toF c0 Q0 nw)), (2, .ref (pre.length + 42)), (1, .ref (pre.length + 0)), (0, .float 1)] [] (LH pre c f D) := by
  have hb1 := hb.2.1
  have hb2 := hb.2.2.1
  have hb3 := hb.2.2.2.1
  have hT := hb.2.2.2.2.2.1
  have hT6 := hb.2.2.2.2.1
  have hn := (hP.1.1 (2 * 0 + 1) (by decide)).2.1
  have h5 := hP.2.2.1
  have hw10 := hP.2.1
  refine ab_iload hX dL_law_530 mm0 ?_
  refine ab_aload_n hX dL_law_532 mm6 ?_
  refine ab_iconst (v := 1) hX dL_law_533 (by decide) ?_
  refine ab_iald (i := 1) hX dL_law_534 LH_b rfl (by decide) (by decide) ?_
  refine ab_icmpge (tgt := 600) hX dL_law_535 (by decide) (fun h_1 => ?_) (fun h_1 => (by exact absurd (by rw [hb1]; exact Int32.le_refl _) h_1))
  exact ab_pm8 mm1 mm2 mm3 mm4 mm5 mm6 mm7 mm8 kk
theorem v_5b {G : ab_G} {nm : String} {X : ab_X} {L : Nat} {xs : Nat → Int32} (hS : ab_GS L xs G) (hX : ab_Good G (mLW nm) X) {pre : List ab_E} {c0 : CS} {D0 : List ab_E} {Q0 : QT} {nw T m : Nat} {f : Nat → Int32} (hP0 : PI c0 D0 Q0 nw) {c : CS} {D : List ab_E} {Q : QT} {w : Nat} (hw : w < nw) (hP : PI c D Q nw) (hb : LB c Q nw T f) (kk :  ab_WA G (mLW nm) X 470 [(10, .int (nI (w + 1))), (9, .int (bi (wb (lfT (Q (2 * 0)).2 (Q (2 * 0)).1 (Q (2 * 0 + 1)).2 (Q (2 * 0 + 1)).1) T))), (7, .long (lfT (Q (2 * 0)).2 (Q (2 * 0)).1 (Q (2 * 0 + 1)).2 (Q (2 * 0 + 1)).1)), (5, .long (mbT (Q (2 * 0)).2 (Q (2 * 0)).1)), (3, .long (toF c0 Q0 nw)), (2, .ref (pre.length + 42)), (1, .ref (pre.length + 0)), (0, .float 1)] [] (LH pre c f D)) : ab_WA G (mLW nm) X 600 [(10, .int (nI w)), (9, .int (bi (wb (lfT (Q (2 * 0)).2 (Q (2 * 0)).1 (Q (2 * 0 + 1)).2 (Q (2 * 0 + 1)).1) T))), (7, .long (lfT (Q (2 * 0)).2 (Q (2 * 0)).1 (Q (2 * 0 + 1)).2 (Q (2 * 0 + 1)).1)), (5, .long (mbT (Q (2 * 0)).2 (Q (2 * 0)).1)), (3, .long (toF c0 Q0 nw)), (2, .ref (pre.length + 42)), (1, .ref (pre.length + 0)), (0, .float 1)] [] (LH pre c f D) := by
  have hb1 := hb.2.1
  have hb2 := hb.2.2.1
  have hb3 := hb.2.2.2.1
  have hT := hb.2.2.2.2.2.1
  have hT6 := hb.2.2.2.2.1
  have hn := (hP.1.1 (2 * 0 + 1) (by decide)).2.1
  have h5 := hP.2.2.1
  have hw10 := hP.2.1
  refine ab_aload_n hX dL_law_600 mm6 ?_
  refine ab_iload hX dL_law_601 mm0 ?_
  refine ab_callV1r hX dL_law_603 LH_x ss_L_law_63 (LC1i (pre := pre) hS (fun G' g => cm_X11_without g.1 (M := [bC _]) rfl (hP.1.1 (2 * 0) (by decide)) (hP.1.1 (2 * 0 + 1) (by decide)))) (Nat.le_of_ble_eq_true rfl) ?_
  rw [with_e hw10 h5 hw]
  refine ab_iflt (tgt := 659) hX dL_law_606 (by decide) (fun h_1 => (by exact absurd h_1 (ft_wi (lt_lf hn _)))) (fun h_1 => ?_)
  refine ab_aload_n hX dL_law_609 mm6 ?_
  refine ab_iload hX dL_law_610 mm0 ?_
  refine ab_iconst (v := 2) hX dL_law_612 (by decide) ?_
  refine ab_callV2r hX dL_law_613 LH_x ss_L_law_66 (LC2i (pre := pre) hS (fun G' g => cm_X11_lie g.1 (M := [bC _]) rfl (hP.1.1 (2 * 0) (by decide)) (hP.1.1 (2 * 0 + 1) (by decide)))) (Nat.le_of_ble_eq_true rfl) ?_
  rw [lie_2 hw10 h5 hw]
  refine ab_aload_n hX dL_law_616 mm6 ?_
  refine ab_iconst (v := 1) hX dL_law_617 (by decide) ?_
  refine ab_callV1r hX dL_law_618 LH_x ss_L_law_79 (LC1i (pre := pre) hS (fun G' g => cm_X11_many g.1 (M := [bC _]) rfl (hP.1.1 (2 * 0) (by decide)) (hP.1.1 (2 * 0 + 1) (by decide)))) (Nat.le_of_ble_eq_true rfl) ?_
  rw [many_1]
  refine ab_icmpgt (tgt := 659) hX dL_law_621 (by decide) (fun h_2 => (by exact absurd (ft_lie2 _ _ _) (fa_of_lt h_2).2.1)) (fun h_2 => ?_)
  refine ab_aload_n hX dL_law_624 mm6 ?_
  refine ab_iload hX dL_law_625 mm0 ?_
  refine ab_iconst (v := 0) hX dL_law_627 (by decide) ?_
  refine ab_callV2r hX dL_law_628 LH_x ss_L_law_66 (LC2i (pre := pre) hS (fun G' g => cm_X11_lie g.1 (M := [bC _]) rfl (hP.1.1 (2 * 0) (by decide)) (hP.1.1 (2 * 0 + 1) (by decide)))) (Nat.le_of_ble_eq_true rfl) ?_
  rw [lie_0 hw10 h5 hw]
  have J661 : ab_WA G (mLW nm) X 661 [(10, .int (nI w)), (9, .int (bi (wb (lfT (Q (2 * 0)).2 (Q (2 * 0)).1 (Q (2 * 0 + 1)).2 (Q (2 * 0 + 1)).1) T))), (7, .long (lfT (Q (2 * 0)).2 (Q (2 * 0)).1 (Q (2 * 0 + 1)).2 (Q (2 * 0 + 1)).1)), (5, .long (mbT (Q (2 * 0)).2 (Q (2 * 0)).1)), (3, .long (toF c0 Q0 nw)), (2, .ref (pre.length + 42)), (1, .ref (pre.length + 0)), (0, .float 1)] [] (LH pre c f D) := by
    refine ab_iload hX dL_law_661 mm1 ?_
    have J685 : ab_WA G (mLW nm) X 685 [(10, .int (nI w)), (9, .int (bi (wb (lfT (Q (2 * 0)).2 (Q (2 * 0)).1 (Q (2 * 0 + 1)).2 (Q (2 * 0 + 1)).1) T))), (7, .long (lfT (Q (2 * 0)).2 (Q (2 * 0)).1 (Q (2 * 0 + 1)).2 (Q (2 * 0 + 1)).1)), (5, .long (mbT (Q (2 * 0)).2 (Q (2 * 0)).1)), (3, .long (toF c0 Q0 nw)), (2, .ref (pre.length + 42)), (1, .ref (pre.length + 0)), (0, .float 1)] [] (LH pre c f D) := by
      refine ab_iinc hX dL_law_685 mm0 rfl (show 10 < 15 by decide) rfl ?_
      refine ab_goto (tgt := 470) hX dL_law_688 (by decide) ?_
      exact ab_pm8 (mmv0 (congrArg Value.int (by exact (nI_1 _).symm))) mm1 mm2 mm3 mm4 mm5 mm6 mm7 kk
    refine ab_ifeqB (tgt := 685) hX dL_law_663 (by decide) (fun h_3 => ?_) (fun h_3 => ?_)
    ·
      exact ab_pm8 mm0 mm1 mm2 mm3 mm4 mm5 mm6 mm7 J685
    ·
      refine ab_aload_n hX dL_law_666 mm6 ?_
      refine ab_iconst (v := 0) hX dL_law_667 (by decide) ?_
      refine ab_callV1r hX dL_law_668 LH_x ss_L_law_110 (LC1i (pre := pre) hS (fun G' g => cm_X11_allKnow g.1 (M := [bC _]) rfl (hP.1.1 (2 * 0) (by decide)) (hP.1.1 (2 * 0 + 1) (by decide)) hP.2.1 hP.2.2.1)) (Nat.le_of_ble_eq_true rfl) ?_
      rw [show alkC c nw (lfT (Q (2 * 0)).2 (Q (2 * 0)).1 (Q (2 * 0 + 1)).2 (Q (2 * 0 + 1)).1) 0 = _ from alk_e (k := 0) hw10 h5 (by omega) (by decide) hT]
      refine ab_aload_n hX dL_law_671 mm6 ?_
      refine ab_iload hX dL_law_672 mm0 ?_
      refine ab_callV1r hX dL_law_674 LH_x ss_L_law_69 (LC1i (pre := pre) hS (fun G' g => cm_X11_certain g.1 (M := [bC _]) rfl (hP.1.1 (2 * 0) (by decide)) (hP.1.1 (2 * 0 + 1) (by decide)))) (Nat.le_of_ble_eq_true rfl) ?_
      rw [cert_e hw10 h5 hw hT]
      refine ab_iconst (v := (-1)) hX dL_law_677 (by decide) ?_
      refine ab_ixor hX dL_law_678 ?_
      refine ab_iand hX dL_law_679 ?_
      refine ab_ifeq (tgt := 685) hX dL_law_680 (by decide) (fun h_4 => ?_) (fun h_4 => (by exact absurd (ft_ak0 h5 hw hT6) h_4))
      exact ab_pm8 mm0 mm1 mm2 mm3 mm4 mm5 mm6 mm7 J685
  refine ab_ifne (tgt := 638) hX dL_law_631 (by decide) (fun h_5 => ?_) (fun h_5 => ?_)
  ·
    refine ab_iconst (v := 0) hX dL_law_638 (by decide) ?_
    refine ab_aload_n hX dL_law_639 mm6 ?_
    refine ab_iload hX dL_law_640 mm0 ?_
    refine ab_iconst (v := 1) hX dL_law_642 (by decide) ?_
    refine ab_callV2r hX dL_law_643 LH_x ss_L_law_66 (LC2i (pre := pre) hS (fun G' g => cm_X11_lie g.1 (M := [bC _]) rfl (hP.1.1 (2 * 0) (by decide)) (hP.1.1 (2 * 0 + 1) (by decide)))) (Nat.le_of_ble_eq_true rfl) ?_
    rw [lie_1 hw10 h5 hw]
    refine ab_bipush (v := (-4)) hX dL_law_646 (by decide) ?_
    refine ab_icmpne (tgt := 655) hX dL_law_648 (by decide) (fun h_6 => ?_) (fun h_6 => ?_)
    ·
      refine ab_iconst (v := 0) hX dL_law_655 (by decide) ?_
      refine ab_icmpeq (tgt := 661) hX dL_law_656 (by decide) (fun h_7 => ?_) (fun h_7 => ?_)
      ·
        exact ab_pm8 mm0 mm1 mm2 mm3 mm4 mm5 mm6 mm7 J661
      ·
        exact False.elim (by first | exact absurd rfl (by assumption) | exact absurd ((ft_lie01 _ _ _).mp (by assumption)) (by assumption) | exact absurd ((ft_lie01 _ _ _).mpr (by assumption)) (by assumption))
    ·
      refine ab_iconst (v := 1) hX dL_law_651 (by decide) ?_
      refine ab_goto (tgt := 656) hX dL_law_652 (by decide) ?_
      refine ab_icmpeq (tgt := 661) hX dL_law_656 (by decide) (fun h_8 => ?_) (fun h_8 => ?_)
      ·
        exact ab_pm8 mm0 mm1 mm2 mm3 mm4 mm5 mm6 mm7 J661
      ·
        exact False.elim (by first | exact absurd rfl (by assumption) | exact absurd ((ft_lie01 _ _ _).mp (by assumption)) (by assumption) | exact absurd ((ft_lie01 _ _ _).mpr (by assumption)) (by assumption))
  ·
    refine ab_iconst (v := 1) hX dL_law_634 (by decide) ?_
    refine ab_goto (tgt := 639) hX dL_law_635 (by decide) ?_
    refine ab_aload_n hX dL_law_639 mm6 ?_
    refine ab_iload hX dL_law_640 mm0 ?_
    refine ab_iconst (v := 1) hX dL_law_642 (by decide) ?_
    refine ab_callV2r hX dL_law_643 LH_x ss_L_law_66 (LC2i (pre := pre) hS (fun G' g => cm_X11_lie g.1 (M := [bC _]) rfl (hP.1.1 (2 * 0) (by decide)) (hP.1.1 (2 * 0 + 1) (by decide)))) (Nat.le_of_ble_eq_true rfl) ?_
    rw [lie_1 hw10 h5 hw]
    refine ab_bipush (v := (-4)) hX dL_law_646 (by decide) ?_
    refine ab_icmpne (tgt := 655) hX dL_law_648 (by decide) (fun h_9 => ?_) (fun h_9 => ?_)
    ·
      refine ab_iconst (v := 0) hX dL_law_655 (by decide) ?_
      refine ab_icmpeq (tgt := 661) hX dL_law_656 (by decide) (fun h_10 => ?_) (fun h_10 => ?_)
      ·
        exact ab_pm8 mm0 mm1 mm2 mm3 mm4 mm5 mm6 mm7 J661
      ·
        exact False.elim (by first | exact absurd rfl (by assumption) | exact absurd ((ft_lie01 _ _ _).mp (by assumption)) (by assumption) | exact absurd ((ft_lie01 _ _ _).mpr (by assumption)) (by assumption))
    ·
      refine ab_iconst (v := 1) hX dL_law_651 (by decide) ?_
      refine ab_goto (tgt := 656) hX dL_law_652 (by decide) ?_
      refine ab_icmpeq (tgt := 661) hX dL_law_656 (by decide) (fun h_11 => ?_) (fun h_11 => ?_)
      ·
        exact ab_pm8 mm0 mm1 mm2 mm3 mm4 mm5 mm6 mm7 J661
      ·
        exact False.elim (by first | exact absurd rfl (by assumption) | exact absurd ((ft_lie01 _ _ _).mp (by assumption)) (by assumption) | exact absurd ((ft_lie01 _ _ _).mpr (by assumption)) (by assumption))
theorem v_6z {G : ab_G} {nm : String} {X : ab_X} {L : Nat} {xs : Nat → Int32} (hS : ab_GS L xs G) (hX : ab_Good G (mLW nm) X) {pre : List ab_E} {c0 : CS} {D0 : List ab_E} {Q0 : QT} {nw T m : Nat} {f : Nat → Int32} (hP0 : PI c0 D0 Q0 nw) {c : CS} {D : List ab_E} {Q : QT} (kk :  ab_WA G (mLW nm) X 694 [(10, .int (nI (0 + 1))), (9, .int (bi (wb (lfT (Q (2 * 0)).2 (Q (2 * 0)).1 (Q (2 * 0 + 1)).2 (Q (2 * 0 + 1)).1) T))), (7, .long (lfT (Q (2 * 0)).2 (Q (2 * 0)).1 (Q (2 * 0 + 1)).2 (Q (2 * 0 + 1)).1)), (5, .long (mbT (Q (2 * 0)).2 (Q (2 * 0)).1)), (3, .long (toF c0 Q0 nw)), (2, .ref (pre.length + 42)), (1, .ref (pre.length + 0)), (0, .float 1)] [] (LH pre c f D)) : ab_WA G (mLW nm) X 691 [(9, .int (bi (wb (lfT (Q (2 * 0)).2 (Q (2 * 0)).1 (Q (2 * 0 + 1)).2 (Q (2 * 0 + 1)).1) T))), (7, .long (lfT (Q (2 * 0)).2 (Q (2 * 0)).1 (Q (2 * 0 + 1)).2 (Q (2 * 0 + 1)).1)), (5, .long (mbT (Q (2 * 0)).2 (Q (2 * 0)).1)), (3, .long (toF c0 Q0 nw)), (2, .ref (pre.length + 42)), (1, .ref (pre.length + 0)), (0, .float 1)] [] (LH pre c f D) := by
  refine ab_iconst (v := 1) hX dL_law_691 (by decide) ?_
  refine ab_istore hX dL_law_692 (show 10 < 15 by decide) rfl ?_
  exact ab_pm8 mm0 mm1 mm2 mm3 mm4 mm5 mm6 mm7 kk
theorem v_6s {G : ab_G} {nm : String} {X : ab_X} {L : Nat} {xs : Nat → Int32} (hS : ab_GS L xs G) (hX : ab_Good G (mLW nm) X) {pre : List ab_E} {c0 : CS} {D0 : List ab_E} {Q0 : QT} {nw T m : Nat} {f : Nat → Int32} (hP0 : PI c0 D0 Q0 nw) {c : CS} {D : List ab_E} {Q : QT} {n : Nat} (hn5 : n < 5) (h0 : 0 < nw) (hP : PI c D Q nw) (hb : LB c Q nw T f) (kk :  ab_WA G (mLW nm) X 694 [(10, .int (nI (n + 1 + 1))), (9, .int (bi (wb (lfT (Q (2 * 0)).2 (Q (2 * 0)).1 (Q (2 * 0 + 1)).2 (Q (2 * 0 + 1)).1) T))), (7, .long (lfT (Q (2 * 0)).2 (Q (2 * 0)).1 (Q (2 * 0 + 1)).2 (Q (2 * 0 + 1)).1)), (5, .long (mbT (Q (2 * 0)).2 (Q (2 * 0)).1)), (3, .long (toF c0 Q0 nw)), (2, .ref (pre.length + 42)), (1, .ref (pre.length + 0)), (0, .float 1)] [] (LH pre c f D)) : ab_WA G (mLW nm) X 694 [(10, .int (nI (n + 1))), (9, .int (bi (wb (lfT (Q (2 * 0)).2 (Q (2 * 0)).1 (Q (2 * 0 + 1)).2 (Q (2 * 0 + 1)).1) T))), (7, .long (lfT (Q (2 * 0)).2 (Q (2 * 0)).1 (Q (2 * 0 + 1)).2 (Q (2 * 0 + 1)).1)), (5, .long (mbT (Q (2 * 0)).2 (Q (2 * 0)).1)), (3, .long (toF c0 Q0 nw)), (2, .ref (pre.length + 42)), (1, .ref (pre.length + 0)), (0, .float 1)] [] (LH pre c f D) := by
  have hb1 := hb.2.1
  have hb2 := hb.2.2.1
  have hb3 := hb.2.2.2.1
  have hT := hb.2.2.2.2.2.1
  have hT6 := hb.2.2.2.2.1
  have hn := (hP.1.1 (2 * 0 + 1) (by decide)).2.1
  have h5 := hP.2.2.1
  have hw10 := hP.2.1
  refine ab_iload hX dL_law_694 mm0 ?_
  refine ab_bipush (v := 6) hX dL_law_696 (by decide) ?_
  refine ab_icmpge (tgt := 735) hX dL_law_698 (by decide) (fun h_1 => (by have := (nI_leI (a := 6) (by omega) (by omega)).mp h_1; omega)) (fun h_1 => ?_)
  refine ab_aload_n hX dL_law_701 mm5 ?_
  refine ab_iconst (v := 1) hX dL_law_702 (by decide) ?_
  refine ab_iald (i := 1) hX dL_law_703 LH_b rfl (by decide) (by decide) ?_
  refine ab_ifle (tgt := 735) hX dL_law_704 (by decide) (fun h_2 => (by rw [hb1] at h_2; have := (nI_leI (b := 0) (by omega) (by omega)).mp h_2; omega)) (fun h_2 => ?_)
  refine ab_aload_n hX dL_law_707 mm6 ?_
  refine ab_iload hX dL_law_708 mm0 ?_
  refine ab_callV1r hX dL_law_710 LH_x ss_L_law_110 (LC1i (pre := pre) hS (fun G' g => cm_X11_allKnow g.1 (M := [bC _]) rfl (hP.1.1 (2 * 0) (by decide)) (hP.1.1 (2 * 0 + 1) (by decide)) hP.2.1 hP.2.2.1)) (Nat.le_of_ble_eq_true rfl) ?_
  rw [alk_e (k := n + 1) hw10 h5 (by omega) (by omega) hT]
  refine ab_aload_n hX dL_law_713 mm6 ?_
  refine ab_iload hX dL_law_714 mm0 ?_
  refine ab_iconst (v := 1) hX dL_law_716 (by decide) ?_
  refine ab_isub hX dL_law_717 ?_
  rw [show nI (n + 1) - 1 = nI n from nI_pred n]
  refine ab_callV1r hX dL_law_718 LH_x ss_L_law_110 (LC1i (pre := pre) hS (fun G' g => cm_X11_allKnow g.1 (M := [bC _]) rfl (hP.1.1 (2 * 0) (by decide)) (hP.1.1 (2 * 0 + 1) (by decide)) hP.2.1 hP.2.2.1)) (Nat.le_of_ble_eq_true rfl) ?_
  rw [alk_e (k := n) hw10 h5 (by omega) (by omega) hT]
  refine ab_iconst (v := (-1)) hX dL_law_721 (by decide) ?_
  refine ab_ixor hX dL_law_722 ?_
  refine ab_iand hX dL_law_723 ?_
  refine ab_ifeq (tgt := 729) hX dL_law_724 (by decide) (fun h_3 => ?_) (fun h_3 => (by exact absurd (ft_akn h5) h_3))
  refine ab_iinc hX dL_law_729 mm0 rfl (show 10 < 15 by decide) rfl ?_
  refine ab_goto (tgt := 694) hX dL_law_732 (by decide) ?_
  exact ab_pm8 (mmv0 (congrArg Value.int (by exact (nI_1 _).symm))) mm1 mm2 mm3 mm4 mm5 mm6 mm7 kk
theorem v_6e {G : ab_G} {nm : String} {X : ab_X} {L : Nat} {xs : Nat → Int32} (hS : ab_GS L xs G) (hX : ab_Good G (mLW nm) X) {pre : List ab_E} {c0 : CS} {D0 : List ab_E} {Q0 : QT} {nw T m : Nat} {f : Nat → Int32} (hP0 : PI c0 D0 Q0 nw) {c : CS} {D : List ab_E} {Q : QT} (kk :  ab_WA G (mLW nm) X 735 [(9, .int (bi (wb (lfT (Q (2 * 0)).2 (Q (2 * 0)).1 (Q (2 * 0 + 1)).2 (Q (2 * 0 + 1)).1) T))), (7, .long (lfT (Q (2 * 0)).2 (Q (2 * 0)).1 (Q (2 * 0 + 1)).2 (Q (2 * 0 + 1)).1)), (5, .long (mbT (Q (2 * 0)).2 (Q (2 * 0)).1)), (3, .long (toF c0 Q0 nw)), (2, .ref (pre.length + 42)), (1, .ref (pre.length + 0)), (0, .float 1)] [] (LH pre c f D)) : ab_WA G (mLW nm) X 694 [(10, .int (nI (5 + 1))), (9, .int (bi (wb (lfT (Q (2 * 0)).2 (Q (2 * 0)).1 (Q (2 * 0 + 1)).2 (Q (2 * 0 + 1)).1) T))), (7, .long (lfT (Q (2 * 0)).2 (Q (2 * 0)).1 (Q (2 * 0 + 1)).2 (Q (2 * 0 + 1)).1)), (5, .long (mbT (Q (2 * 0)).2 (Q (2 * 0)).1)), (3, .long (toF c0 Q0 nw)), (2, .ref (pre.length + 42)), (1, .ref (pre.length + 0)), (0, .float 1)] [] (LH pre c f D) := by
  refine ab_iload hX dL_law_694 mm0 ?_
  refine ab_bipush (v := 6) hX dL_law_696 (by decide) ?_
  refine ab_icmpge (tgt := 735) hX dL_law_698 (by decide) (fun h_1 => ?_) (fun h_1 => (by exact absurd (Int32.le_refl _) h_1))
  exact ab_pm7 mm1 mm2 mm3 mm4 mm5 mm6 mm7 kk
theorem v_6w {G : ab_G} {nm : String} {X : ab_X} {L : Nat} {xs : Nat → Int32} (hS : ab_GS L xs G) (hX : ab_Good G (mLW nm) X) {pre : List ab_E} {c0 : CS} {D0 : List ab_E} {Q0 : QT} {nw T m : Nat} {f : Nat → Int32} (hP0 : PI c0 D0 Q0 nw) {c : CS} {D : List ab_E} {Q : QT} (h0 : nw = 0) (hP : PI c D Q nw) (hb : LB c Q nw T f) (kk :  ab_WA G (mLW nm) X 735 [(9, .int (bi (wb (lfT (Q (2 * 0)).2 (Q (2 * 0)).1 (Q (2 * 0 + 1)).2 (Q (2 * 0 + 1)).1) T))), (7, .long (lfT (Q (2 * 0)).2 (Q (2 * 0)).1 (Q (2 * 0 + 1)).2 (Q (2 * 0 + 1)).1)), (5, .long (mbT (Q (2 * 0)).2 (Q (2 * 0)).1)), (3, .long (toF c0 Q0 nw)), (2, .ref (pre.length + 42)), (1, .ref (pre.length + 0)), (0, .float 1)] [] (LH pre c f D)) : ab_WA G (mLW nm) X 694 [(10, .int (nI (0 + 1))), (9, .int (bi (wb (lfT (Q (2 * 0)).2 (Q (2 * 0)).1 (Q (2 * 0 + 1)).2 (Q (2 * 0 + 1)).1) T))), (7, .long (lfT (Q (2 * 0)).2 (Q (2 * 0)).1 (Q (2 * 0 + 1)).2 (Q (2 * 0 + 1)).1)), (5, .long (mbT (Q (2 * 0)).2 (Q (2 * 0)).1)), (3, .long (toF c0 Q0 nw)), (2, .ref (pre.length + 42)), (1, .ref (pre.length + 0)), (0, .float 1)] [] (LH pre c f D) := by
  have hb1 := hb.2.1
  have hb2 := hb.2.2.1
  have hb3 := hb.2.2.2.1
  have hT := hb.2.2.2.2.2.1
  have hT6 := hb.2.2.2.2.1
  have hn := (hP.1.1 (2 * 0 + 1) (by decide)).2.1
  have h5 := hP.2.2.1
  have hw10 := hP.2.1
  refine ab_iload hX dL_law_694 mm0 ?_
  refine ab_bipush (v := 6) hX dL_law_696 (by decide) ?_
  refine ab_icmpge (tgt := 735) hX dL_law_698 (by decide) (fun h_1 => (by exact absurd h_1 (by decide))) (fun h_1 => ?_)
  refine ab_aload_n hX dL_law_701 mm5 ?_
  refine ab_iconst (v := 1) hX dL_law_702 (by decide) ?_
  refine ab_iald (i := 1) hX dL_law_703 LH_b rfl (by decide) (by decide) ?_
  refine ab_ifle (tgt := 735) hX dL_law_704 (by decide) (fun h_2 => ?_) (fun h_2 => (by exact absurd (by rw [hb1, h0]; exact Int32.le_refl _) h_2))
  exact ab_pm7 mm1 mm2 mm3 mm4 mm5 mm6 mm7 kk
theorem v_7z {G : ab_G} {nm : String} {X : ab_X} {L : Nat} {xs : Nat → Int32} (hS : ab_GS L xs G) (hX : ab_Good G (mLW nm) X) {pre : List ab_E} {c0 : CS} {D0 : List ab_E} {Q0 : QT} {nw T m : Nat} {f : Nat → Int32} (hP0 : PI c0 D0 Q0 nw) {c : CS} {D : List ab_E} {Q : QT} (kk :  ab_WA G (mLW nm) X 738 [(10, .int (nI 0)), (9, .int (bi (wb (lfT (Q (2 * 0)).2 (Q (2 * 0)).1 (Q (2 * 0 + 1)).2 (Q (2 * 0 + 1)).1) T))), (7, .long (lfT (Q (2 * 0)).2 (Q (2 * 0)).1 (Q (2 * 0 + 1)).2 (Q (2 * 0 + 1)).1)), (5, .long (mbT (Q (2 * 0)).2 (Q (2 * 0)).1)), (3, .long (toF c0 Q0 nw)), (2, .ref (pre.length + 42)), (1, .ref (pre.length + 0)), (0, .float 1)] [] (LH pre c f D)) : ab_WA G (mLW nm) X 735 [(9, .int (bi (wb (lfT (Q (2 * 0)).2 (Q (2 * 0)).1 (Q (2 * 0 + 1)).2 (Q (2 * 0 + 1)).1) T))), (7, .long (lfT (Q (2 * 0)).2 (Q (2 * 0)).1 (Q (2 * 0 + 1)).2 (Q (2 * 0 + 1)).1)), (5, .long (mbT (Q (2 * 0)).2 (Q (2 * 0)).1)), (3, .long (toF c0 Q0 nw)), (2, .ref (pre.length + 42)), (1, .ref (pre.length + 0)), (0, .float 1)] [] (LH pre c f D) := by
  refine ab_iconst (v := 0) hX dL_law_735 (by decide) ?_
  refine ab_istore hX dL_law_736 (show 10 < 15 by decide) rfl ?_
  exact ab_pm8 mm0 mm1 mm2 mm3 mm4 mm5 mm6 mm7 kk
theorem v_7s {G : ab_G} {nm : String} {X : ab_X} {L : Nat} {xs : Nat → Int32} (hS : ab_GS L xs G) (hX : ab_Good G (mLW nm) X) {pre : List ab_E} {c0 : CS} {D0 : List ab_E} {Q0 : QT} {nw T m : Nat} {f : Nat → Int32} (hP0 : PI c0 D0 Q0 nw) {c : CS} {D : List ab_E} {Q : QT} {k : Nat} (hk : k < (Q (2 * 0 + 1)).1) (hP : PI c D Q nw) (hb : LB c Q nw T f) (kk :  ab_WA G (mLW nm) X 738 [(10, .int (nI (k + 1))), (9, .int (bi (wb (lfT (Q (2 * 0)).2 (Q (2 * 0)).1 (Q (2 * 0 + 1)).2 (Q (2 * 0 + 1)).1) T))), (7, .long (lfT (Q (2 * 0)).2 (Q (2 * 0)).1 (Q (2 * 0 + 1)).2 (Q (2 * 0 + 1)).1)), (5, .long (mbT (Q (2 * 0)).2 (Q (2 * 0)).1)), (3, .long (toF c0 Q0 nw)), (2, .ref (pre.length + 42)), (1, .ref (pre.length + 0)), (0, .float 1)] [] (LH pre c f D)) : ab_WA G (mLW nm) X 738 [(10, .int (nI k)), (9, .int (bi (wb (lfT (Q (2 * 0)).2 (Q (2 * 0)).1 (Q (2 * 0 + 1)).2 (Q (2 * 0 + 1)).1) T))), (7, .long (lfT (Q (2 * 0)).2 (Q (2 * 0)).1 (Q (2 * 0 + 1)).2 (Q (2 * 0 + 1)).1)), (5, .long (mbT (Q (2 * 0)).2 (Q (2 * 0)).1)), (3, .long (toF c0 Q0 nw)), (2, .ref (pre.length + 42)), (1, .ref (pre.length + 0)), (0, .float 1)] [] (LH pre c f D) := by
  have hb1 := hb.2.1
  have hb2 := hb.2.2.1
  have hb3 := hb.2.2.2.1
  have hT := hb.2.2.2.2.2.1
  have hT6 := hb.2.2.2.2.1
  have hn := (hP.1.1 (2 * 0 + 1) (by decide)).2.1
  have h5 := hP.2.2.1
  have hw10 := hP.2.1
  have h31 := (hP.1.1 (2 * 0 + 1) (by decide)).1
  refine ab_iload hX dL_law_738 mm0 ?_
  refine ab_aload_n hX dL_law_740 mm5 ?_
  refine ab_iconst (v := 2) hX dL_law_741 (by decide) ?_
  refine ab_iald (i := 2) hX dL_law_742 LH_b rfl (by decide) (by decide) ?_
  refine ab_icmpge (tgt := 782) hX dL_law_743 (by decide) (fun h_1 => (by rw [hb2] at h_1; have := (nI_leI (by omega) (by omega)).mp h_1; omega)) (fun h_1 => ?_)
  refine ab_aload_n hX dL_law_746 mm6 ?_
  refine ab_iload hX dL_law_747 mm0 ?_
  refine ab_callV1r hX dL_law_749 LH_x ss_L_law_57 (LC1i (pre := pre) hS (fun G' g => cm_X11_alone g.1 (M := [bC _]) rfl (hP.1.1 (2 * 0) (by decide)) (hP.1.1 (2 * 0 + 1) (by decide)))) (Nat.le_of_ble_eq_true rfl) ?_
  rw [al_e h31 hn hk]
  refine ab_aload_n hX dL_law_752 mm6 ?_
  refine ab_iconst (v := 0) hX dL_law_753 (by decide) ?_
  refine ab_callV1r hX dL_law_754 LH_x ss_L_law_79 (LC1i (pre := pre) hS (fun G' g => cm_X11_many g.1 (M := [bC _]) rfl (hP.1.1 (2 * 0) (by decide)) (hP.1.1 (2 * 0 + 1) (by decide)))) (Nat.le_of_ble_eq_true rfl) ?_
  rw [many_0]
  refine ab_icmpgt (tgt := 774) hX dL_law_757 (by decide) (fun h_2 => (by exact absurd (ft_alone hn hk).1 (fa_of_lt h_2).2.1)) (fun h_2 => ?_)
  refine ab_aload_n hX dL_law_760 mm6 ?_
  refine ab_iload hX dL_law_761 mm0 ?_
  refine ab_callV1r hX dL_law_763 LH_x ss_L_law_57 (LC1i (pre := pre) hS (fun G' g => cm_X11_alone g.1 (M := [bC _]) rfl (hP.1.1 (2 * 0) (by decide)) (hP.1.1 (2 * 0 + 1) (by decide)))) (Nat.le_of_ble_eq_true rfl) ?_
  rw [al_e h31 hn hk]
  refine ab_aload_n hX dL_law_766 mm6 ?_
  refine ab_iconst (v := 1) hX dL_law_767 (by decide) ?_
  refine ab_callV1r hX dL_law_768 LH_x ss_L_law_79 (LC1i (pre := pre) hS (fun G' g => cm_X11_many g.1 (M := [bC _]) rfl (hP.1.1 (2 * 0) (by decide)) (hP.1.1 (2 * 0 + 1) (by decide)))) (Nat.le_of_ble_eq_true rfl) ?_
  rw [many_1]
  refine ab_icmpge (tgt := 776) hX dL_law_771 (by decide) (fun h_3 => ?_) (fun h_3 => (by exact absurd (ft_alone hn hk).2 h_3))
  refine ab_iinc hX dL_law_776 mm0 rfl (show 10 < 15 by decide) rfl ?_
  refine ab_goto (tgt := 738) hX dL_law_779 (by decide) ?_
  exact ab_pm8 (mmv0 (congrArg Value.int (by exact (nI_1 _).symm))) mm1 mm2 mm3 mm4 mm5 mm6 mm7 kk
theorem v_7e {G : ab_G} {nm : String} {X : ab_X} {L : Nat} {xs : Nat → Int32} (hS : ab_GS L xs G) (hX : ab_Good G (mLW nm) X) {pre : List ab_E} {c0 : CS} {D0 : List ab_E} {Q0 : QT} {nw T m : Nat} {f : Nat → Int32} (hP0 : PI c0 D0 Q0 nw) {c : CS} {D : List ab_E} {Q : QT} (hP : PI c D Q nw) (hb : LB c Q nw T f) (kk :  ab_WA G (mLW nm) X 782 [(9, .int (bi (wb (lfT (Q (2 * 0)).2 (Q (2 * 0)).1 (Q (2 * 0 + 1)).2 (Q (2 * 0 + 1)).1) T))), (7, .long (lfT (Q (2 * 0)).2 (Q (2 * 0)).1 (Q (2 * 0 + 1)).2 (Q (2 * 0 + 1)).1)), (5, .long (mbT (Q (2 * 0)).2 (Q (2 * 0)).1)), (3, .long (toF c0 Q0 nw)), (2, .ref (pre.length + 42)), (1, .ref (pre.length + 0)), (0, .float 1)] [] (LH pre c f D)) : ab_WA G (mLW nm) X 738 [(10, .int (nI (Q (2 * 0 + 1)).1)), (9, .int (bi (wb (lfT (Q (2 * 0)).2 (Q (2 * 0)).1 (Q (2 * 0 + 1)).2 (Q (2 * 0 + 1)).1) T))), (7, .long (lfT (Q (2 * 0)).2 (Q (2 * 0)).1 (Q (2 * 0 + 1)).2 (Q (2 * 0 + 1)).1)), (5, .long (mbT (Q (2 * 0)).2 (Q (2 * 0)).1)), (3, .long (toF c0 Q0 nw)), (2, .ref (pre.length + 42)), (1, .ref (pre.length + 0)), (0, .float 1)] [] (LH pre c f D) := by
  have hb1 := hb.2.1
  have hb2 := hb.2.2.1
  have hb3 := hb.2.2.2.1
  have hT := hb.2.2.2.2.2.1
  have hT6 := hb.2.2.2.2.1
  have hn := (hP.1.1 (2 * 0 + 1) (by decide)).2.1
  have h5 := hP.2.2.1
  have hw10 := hP.2.1
  refine ab_iload hX dL_law_738 mm0 ?_
  refine ab_aload_n hX dL_law_740 mm5 ?_
  refine ab_iconst (v := 2) hX dL_law_741 (by decide) ?_
  refine ab_iald (i := 2) hX dL_law_742 LH_b rfl (by decide) (by decide) ?_
  refine ab_icmpge (tgt := 782) hX dL_law_743 (by decide) (fun h_1 => ?_) (fun h_1 => (by exact absurd (by rw [hb2]; exact Int32.le_refl _) h_1))
  exact ab_pm7 mm1 mm2 mm3 mm4 mm5 mm6 mm7 kk
theorem v_8 {G : ab_G} {nm : String} {X : ab_X} {L : Nat} {xs : Nat → Int32} (hS : ab_GS L xs G) (hX : ab_Good G (mLW nm) X) {pre : List ab_E} {c0 : CS} {D0 : List ab_E} {Q0 : QT} {nw T m : Nat} {f : Nat → Int32} (hP0 : PI c0 D0 Q0 nw) {c : CS} {D : List ab_E} {Q : QT} (hP : PI c D Q nw) (hb : LB c Q nw T f) (kk :  ab_WA G (mLW nm) X 829 [(9, .int (bi (wb (lfT (Q (2 * 0)).2 (Q (2 * 0)).1 (Q (2 * 0 + 1)).2 (Q (2 * 0 + 1)).1) T))), (7, .long (lfT (Q (2 * 0)).2 (Q (2 * 0)).1 (Q (2 * 0 + 1)).2 (Q (2 * 0 + 1)).1)), (5, .long (mbT (Q (2 * 0)).2 (Q (2 * 0)).1)), (3, .long (toF c0 Q0 nw)), (2, .ref (pre.length + 42)), (1, .ref (pre.length + 0)), (0, .float 1)] [] (LH pre c f D)) : ab_WA G (mLW nm) X 782 [(9, .int (bi (wb (lfT (Q (2 * 0)).2 (Q (2 * 0)).1 (Q (2 * 0 + 1)).2 (Q (2 * 0 + 1)).1) T))), (7, .long (lfT (Q (2 * 0)).2 (Q (2 * 0)).1 (Q (2 * 0 + 1)).2 (Q (2 * 0 + 1)).1)), (5, .long (mbT (Q (2 * 0)).2 (Q (2 * 0)).1)), (3, .long (toF c0 Q0 nw)), (2, .ref (pre.length + 42)), (1, .ref (pre.length + 0)), (0, .float 1)] [] (LH pre c f D) := by
  have hb1 := hb.2.1
  have hb2 := hb.2.2.1
  have hb3 := hb.2.2.2.1
  have hT := hb.2.2.2.2.2.1
  have hT6 := hb.2.2.2.2.1
  have hn := (hP.1.1 (2 * 0 + 1) (by decide)).2.1
  have h5 := hP.2.2.1
  have hw10 := hP.2.1
  have hsl := ft_slipped (ql := (Q (2 * 0)).2) (nl := (Q (2 * 0)).1) (qs := (Q (2 * 0 + 1)).2) hn
  refine ab_aload_n hX dL_law_782 mm5 ?_
  refine ab_callV0r hX dL_law_783 LH_x ss_L_law_92 (LC0i (pre := pre) hS (fun G' g => cm_X11_slipped g.1 (M := [bC _]) rfl (hP.1.1 (2 * 0) (by decide)) (hP.1.1 (2 * 0 + 1) (by decide)))) (Nat.le_of_ble_eq_true rfl) ?_
  refine ab_istore hX dL_law_786 (show 10 < 15 by decide) rfl ?_
  refine ab_iload hX dL_law_788 mm0 ?_
  refine ab_ifne (tgt := 797) hX dL_law_790 (by decide) (fun h_1 => ?_) (fun h_1 => ?_)
  ·
    refine ab_iconst (v := 0) hX dL_law_797 (by decide) ?_
    refine ab_lload hX dL_law_798 mm2 ?_
    refine ab_lconst (v := 0) hX dL_law_800 rfl ?_
    refine ab_lcmp hX dL_law_801 ?_
    refine ab_ifeqC (tgt := 809) hX dL_law_802 (by decide) (fun h_2 => ?_) (fun h_2 => ?_)
    ·
      refine ab_iconst (v := 0) hX dL_law_809 (by decide) ?_
      refine ab_icmpne (tgt := 827) hX dL_law_810 (by decide) (fun h_3 => ?_) (fun h_3 => ?_)
      ·
        exact False.elim (by first | exact absurd rfl (by assumption) | exact absurd (by assumption) (hsl.1.mp (by assumption)) | exact absurd (hsl.1.mpr (by assumption)) (by assumption) | exact absurd (hsl.2 (by assumption)) (by assumption))
      ·
        refine ab_lload hX dL_law_813 mm3 ?_
        refine ab_lconst (v := 0) hX dL_law_815 rfl ?_
        refine ab_lcmp hX dL_law_816 ?_
        refine ab_ifneC (tgt := 829) hX dL_law_817 (by decide) (fun h_4 => ?_) (fun h_4 => ?_)
        ·
          exact ab_pm7 mm1 mm2 mm3 mm4 mm5 mm6 mm7 kk
        ·
          refine ab_iload hX dL_law_820 mm0 ?_
          refine ab_bipush (v := (-4)) hX dL_law_822 (by decide) ?_
          refine ab_icmpeq (tgt := 829) hX dL_law_824 (by decide) (fun h_5 => ?_) (fun h_5 => ?_)
          ·
            exact ab_pm7 mm1 mm2 mm3 mm4 mm5 mm6 mm7 kk
          ·
            exact False.elim (by first | exact absurd rfl (by assumption) | exact absurd (by assumption) (hsl.1.mp (by assumption)) | exact absurd (hsl.1.mpr (by assumption)) (by assumption) | exact absurd (hsl.2 (by assumption)) (by assumption))
    ·
      refine ab_iconst (v := 1) hX dL_law_805 (by decide) ?_
      refine ab_goto (tgt := 810) hX dL_law_806 (by decide) ?_
      refine ab_icmpne (tgt := 827) hX dL_law_810 (by decide) (fun h_6 => ?_) (fun h_6 => ?_)
      ·
        exact False.elim (by first | exact absurd rfl (by assumption) | exact absurd (by assumption) (hsl.1.mp (by assumption)) | exact absurd (hsl.1.mpr (by assumption)) (by assumption) | exact absurd (hsl.2 (by assumption)) (by assumption))
      ·
        refine ab_lload hX dL_law_813 mm3 ?_
        refine ab_lconst (v := 0) hX dL_law_815 rfl ?_
        refine ab_lcmp hX dL_law_816 ?_
        refine ab_ifneC (tgt := 829) hX dL_law_817 (by decide) (fun h_7 => ?_) (fun h_7 => ?_)
        ·
          exact ab_pm7 mm1 mm2 mm3 mm4 mm5 mm6 mm7 kk
        ·
          refine ab_iload hX dL_law_820 mm0 ?_
          refine ab_bipush (v := (-4)) hX dL_law_822 (by decide) ?_
          refine ab_icmpeq (tgt := 829) hX dL_law_824 (by decide) (fun h_8 => ?_) (fun h_8 => ?_)
          ·
            exact ab_pm7 mm1 mm2 mm3 mm4 mm5 mm6 mm7 kk
          ·
            exact False.elim (by first | exact absurd rfl (by assumption) | exact absurd (by assumption) (hsl.1.mp (by assumption)) | exact absurd (hsl.1.mpr (by assumption)) (by assumption) | exact absurd (hsl.2 (by assumption)) (by assumption))
  ·
    refine ab_iconst (v := 1) hX dL_law_793 (by decide) ?_
    refine ab_goto (tgt := 798) hX dL_law_794 (by decide) ?_
    refine ab_lload hX dL_law_798 mm2 ?_
    refine ab_lconst (v := 0) hX dL_law_800 rfl ?_
    refine ab_lcmp hX dL_law_801 ?_
    refine ab_ifeqC (tgt := 809) hX dL_law_802 (by decide) (fun h_9 => ?_) (fun h_9 => ?_)
    ·
      refine ab_iconst (v := 0) hX dL_law_809 (by decide) ?_
      refine ab_icmpne (tgt := 827) hX dL_law_810 (by decide) (fun h_10 => ?_) (fun h_10 => ?_)
      ·
        exact False.elim (by first | exact absurd rfl (by assumption) | exact absurd (by assumption) (hsl.1.mp (by assumption)) | exact absurd (hsl.1.mpr (by assumption)) (by assumption) | exact absurd (hsl.2 (by assumption)) (by assumption))
      ·
        refine ab_lload hX dL_law_813 mm3 ?_
        refine ab_lconst (v := 0) hX dL_law_815 rfl ?_
        refine ab_lcmp hX dL_law_816 ?_
        refine ab_ifneC (tgt := 829) hX dL_law_817 (by decide) (fun h_11 => ?_) (fun h_11 => ?_)
        ·
          exact ab_pm7 mm1 mm2 mm3 mm4 mm5 mm6 mm7 kk
        ·
          refine ab_iload hX dL_law_820 mm0 ?_
          refine ab_bipush (v := (-4)) hX dL_law_822 (by decide) ?_
          refine ab_icmpeq (tgt := 829) hX dL_law_824 (by decide) (fun h_12 => ?_) (fun h_12 => ?_)
          ·
            exact ab_pm7 mm1 mm2 mm3 mm4 mm5 mm6 mm7 kk
          ·
            exact False.elim (by first | exact absurd rfl (by assumption) | exact absurd (by assumption) (hsl.1.mp (by assumption)) | exact absurd (hsl.1.mpr (by assumption)) (by assumption) | exact absurd (hsl.2 (by assumption)) (by assumption))
    ·
      refine ab_iconst (v := 1) hX dL_law_805 (by decide) ?_
      refine ab_goto (tgt := 810) hX dL_law_806 (by decide) ?_
      refine ab_icmpne (tgt := 827) hX dL_law_810 (by decide) (fun h_13 => ?_) (fun h_13 => ?_)
      ·
        exact False.elim (by first | exact absurd rfl (by assumption) | exact absurd (by assumption) (hsl.1.mp (by assumption)) | exact absurd (hsl.1.mpr (by assumption)) (by assumption) | exact absurd (hsl.2 (by assumption)) (by assumption))
      ·
        refine ab_lload hX dL_law_813 mm3 ?_
        refine ab_lconst (v := 0) hX dL_law_815 rfl ?_
        refine ab_lcmp hX dL_law_816 ?_
        refine ab_ifneC (tgt := 829) hX dL_law_817 (by decide) (fun h_14 => ?_) (fun h_14 => ?_)
        ·
          exact ab_pm7 mm1 mm2 mm3 mm4 mm5 mm6 mm7 kk
        ·
          refine ab_iload hX dL_law_820 mm0 ?_
          refine ab_bipush (v := (-4)) hX dL_law_822 (by decide) ?_
          refine ab_icmpeq (tgt := 829) hX dL_law_824 (by decide) (fun h_15 => ?_) (fun h_15 => ?_)
          ·
            exact ab_pm7 mm1 mm2 mm3 mm4 mm5 mm6 mm7 kk
          ·
            exact False.elim (by first | exact absurd rfl (by assumption) | exact absurd (by assumption) (hsl.1.mp (by assumption)) | exact absurd (hsl.1.mpr (by assumption)) (by assumption) | exact absurd (hsl.2 (by assumption)) (by assumption))
