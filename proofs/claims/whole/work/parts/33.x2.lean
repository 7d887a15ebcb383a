abbrev mX8_failT : ab_M := (yX8_fail, cX8_fail, 2, none, 6, 84)
abbrev mX11_elementT : ab_M := (yX11_element, cX11_element, 4, some .long, 6, 84)
abbrev mX11_toss : ab_M := (yX11_toss, cX11_toss, 5, some .int, 8, 120)
abbrev mL_element : ab_M := (yL_element, cL_element, 5, some .int, 8, 120)
theorem ss_X11_toss_75 : ab_sV mX11_toss 75 12 mX11_shelfAt 1 := ⟨⟨zc_X11_shelfAt.1, zc_X11_shelfAt.2.1, zc_X11_shelfAt.2.2, by decide, by decide⟩, tw_300, _, _, _, rfl, Or.inl ⟨tw_299, tw_3⟩⟩
theorem ss_X11_toss_141 : ab_sV mX11_toss 141 10 mX9_refusalAsSaying 0 := ⟨⟨zc_X9_refusalAsSaying.1, zc_X9_refusalAsSaying.2.1, zc_X9_refusalAsSaying.2.2, by decide, by decide⟩, tw_583, _, _, _, rfl, Or.inl ⟨tw_582, tw_584⟩⟩
theorem ss_X11_toss_385_9 : ab_sV mX11_toss 385 9 mX8_fail 1 := ⟨⟨zc_X8_fail.1, zc_X8_fail.2.1, zc_X8_fail.2.2, by decide, by decide⟩, tw_960, _, _, _, rfl, Or.inl ⟨tw_959, tw_961⟩⟩
theorem ss_X11_toss_385_3 : ab_sV mX11_toss 385 3 mX8_fail 1 := ⟨⟨zc_X8_fail.1, zc_X8_fail.2.1, zc_X8_fail.2.2, by decide, by decide⟩, tw_960, _, _, _, rfl, Or.inr (Or.inr ⟨⟨"WitnessesMustLie$Says", "fail", "(I)V"⟩, "WitnessesMustLie$Says", _, _, _, tw_959, tw_962, tw_960, tw_972, tw_965, by decide +kernel, by decide +kernel, rfl⟩)⟩
theorem ss_X11_toss_385_2 : ab_sV mX11_toss 385 2 mX8_fail 1 := ⟨⟨zc_X8_fail.1, zc_X8_fail.2.1, zc_X8_fail.2.2, by decide, by decide⟩, tw_960, _, _, _, rfl, Or.inr (Or.inr ⟨⟨"WitnessesMustLie$Says", "fail", "(I)V"⟩, "WitnessesMustLie$Says", _, _, _, tw_959, tw_962, tw_960, tw_972, tw_964, by decide +kernel, by decide +kernel, rfl⟩)⟩
theorem ss_X11_toss_385_4 : ab_sV mX11_toss 385 4 mX8_fail 1 := ⟨⟨zc_X8_fail.1, zc_X8_fail.2.1, zc_X8_fail.2.2, by decide, by decide⟩, tw_960, _, _, _, rfl, Or.inr (Or.inr ⟨⟨"WitnessesMustLie$Says", "fail", "(I)V"⟩, "WitnessesMustLie$Says", _, _, _, tw_959, tw_962, tw_960, tw_972, tw_966, by decide +kernel, by decide +kernel, rfl⟩)⟩
theorem ss_X11_toss_385_6 : ab_sV mX11_toss 385 6 mX8_fail 1 := ⟨⟨zc_X8_fail.1, zc_X8_fail.2.1, zc_X8_fail.2.2, by decide, by decide⟩, tw_960, _, _, _, rfl, Or.inr (Or.inr ⟨⟨"WitnessesMustLie$Says", "fail", "(I)V"⟩, "WitnessesMustLie$Says", _, _, _, tw_959, tw_962, tw_960, tw_972, tw_970, by decide +kernel, by decide +kernel, rfl⟩)⟩
theorem ss_X11_toss_385_1 : ab_sV mX11_toss 385 1 mX8_fail 1 := ⟨⟨zc_X8_fail.1, zc_X8_fail.2.1, zc_X8_fail.2.2, by decide, by decide⟩, tw_960, _, _, _, rfl, Or.inr (Or.inr ⟨⟨"WitnessesMustLie$Says", "fail", "(I)V"⟩, "WitnessesMustLie$Says", _, _, _, tw_959, tw_962, tw_960, tw_972, tw_963, by decide +kernel, by decide +kernel, rfl⟩)⟩
theorem ss_X11_toss_385_5 : ab_sV mX11_toss 385 5 mX4_fail 1 := ⟨⟨zc_X4_fail.1, zc_X4_fail.2.1, zc_X4_fail.2.2, by decide, by decide⟩, tw_968, _, _, _, rfl, Or.inr (Or.inr ⟨⟨"WitnessesMustLie$Says", "fail", "(I)V"⟩, "WitnessesMustLie$Says", _, _, _, tw_959, tw_962, tw_960, tw_972, tw_967, by decide +kernel, by decide +kernel, rfl⟩)⟩
theorem ss_X11_toss_385_7 : ab_sV mX11_toss 385 7 mX8_fail 1 := ⟨⟨zc_X8_fail.1, zc_X8_fail.2.1, zc_X8_fail.2.2, by decide, by decide⟩, tw_960, _, _, _, rfl, Or.inr (Or.inr ⟨⟨"WitnessesMustLie$Says", "fail", "(I)V"⟩, "WitnessesMustLie$Says", _, _, _, tw_959, tw_962, tw_960, tw_972, tw_971, by decide +kernel, by decide +kernel, rfl⟩)⟩
theorem ss_X11_toss_388_9 : ab_sV mX11_toss 388 9 mX8_failure 1 := ⟨⟨zc_X8_failure.1, zc_X8_failure.2.1, zc_X8_failure.2.2, by decide, by decide⟩, tw_1022, _, _, _, rfl, Or.inl ⟨tw_1021, tw_1023⟩⟩
theorem ss_X11_toss_388_3 : ab_sV mX11_toss 388 3 mX8_failure 1 := ⟨⟨zc_X8_failure.1, zc_X8_failure.2.1, zc_X8_failure.2.2, by decide, by decide⟩, tw_1022, _, _, _, rfl, Or.inr (Or.inr ⟨⟨"WitnessesMustLie$Says", "failure", "(I)I"⟩, "WitnessesMustLie$Says", _, _, _, tw_1021, tw_1024, tw_1022, tw_1038, tw_1030, by decide +kernel, by decide +kernel, rfl⟩)⟩
theorem ss_X11_toss_388_2 : ab_sV mX11_toss 388 2 mX1_failure 1 := ⟨⟨zc_X1_failure.1, zc_X1_failure.2.1, zc_X1_failure.2.2, by decide, by decide⟩, tw_1026, _, _, _, rfl, Or.inr (Or.inr ⟨⟨"WitnessesMustLie$Says", "failure", "(I)I"⟩, "WitnessesMustLie$Says", _, _, _, tw_1021, tw_1024, tw_1022, tw_1038, tw_1029, by decide +kernel, by decide +kernel, rfl⟩)⟩
theorem ss_X11_toss_388_4 : ab_sV mX11_toss 388 4 mX1_failure 1 := ⟨⟨zc_X1_failure.1, zc_X1_failure.2.1, zc_X1_failure.2.2, by decide, by decide⟩, tw_1026, _, _, _, rfl, Or.inr (Or.inr ⟨⟨"WitnessesMustLie$Says", "failure", "(I)I"⟩, "WitnessesMustLie$Says", _, _, _, tw_1021, tw_1024, tw_1022, tw_1038, tw_1031, by decide +kernel, by decide +kernel, rfl⟩)⟩
theorem ss_X11_toss_388_6 : ab_sV mX11_toss 388 6 mX1_failure 1 := ⟨⟨zc_X1_failure.1, zc_X1_failure.2.1, zc_X1_failure.2.2, by decide, by decide⟩, tw_1026, _, _, _, rfl, Or.inr (Or.inr ⟨⟨"WitnessesMustLie$Says", "failure", "(I)I"⟩, "WitnessesMustLie$Says", _, _, _, tw_1021, tw_1024, tw_1022, tw_1038, tw_1033, by decide +kernel, by decide +kernel, rfl⟩)⟩
theorem ss_X11_toss_388_1 : ab_sV mX11_toss 388 1 mX1_failure 1 := ⟨⟨zc_X1_failure.1, zc_X1_failure.2.1, zc_X1_failure.2.2, by decide, by decide⟩, tw_1026, _, _, _, rfl, Or.inr (Or.inr ⟨⟨"WitnessesMustLie$Says", "failure", "(I)I"⟩, "WitnessesMustLie$Says", _, _, _, tw_1021, tw_1024, tw_1022, tw_1038, tw_1025, by decide +kernel, by decide +kernel, rfl⟩)⟩
theorem ss_X11_toss_388_5 : ab_sV mX11_toss 388 5 mX8_failure 1 := ⟨⟨zc_X8_failure.1, zc_X8_failure.2.1, zc_X8_failure.2.2, by decide, by decide⟩, tw_1022, _, _, _, rfl, Or.inr (Or.inr ⟨⟨"WitnessesMustLie$Says", "failure", "(I)I"⟩, "WitnessesMustLie$Says", _, _, _, tw_1021, tw_1024, tw_1022, tw_1038, tw_1032, by decide +kernel, by decide +kernel, rfl⟩)⟩
theorem ss_X11_toss_388_7 : ab_sV mX11_toss 388 7 mX6_failure 1 := ⟨⟨zc_X6_failure.1, zc_X6_failure.2.1, zc_X6_failure.2.2, by decide, by decide⟩, tw_1035, _, _, _, rfl, Or.inr (Or.inr ⟨⟨"WitnessesMustLie$Says", "failure", "(I)I"⟩, "WitnessesMustLie$Says", _, _, _, tw_1021, tw_1024, tw_1022, tw_1038, tw_1034, by decide +kernel, by decide +kernel, rfl⟩)⟩
theorem ss_X11_elementT_75 : ab_sV mX11_elementT 75 12 mX11_shelfAt 1 := ⟨⟨zc_X11_shelfAt.1, zc_X11_shelfAt.2.1, zc_X11_shelfAt.2.2, by decide, by decide⟩, tw_300, _, _, _, rfl, Or.inl ⟨tw_299, tw_3⟩⟩
theorem ss_X11_elementT_79 : ab_sV mX11_elementT 79 10 mX9_refusalAsRow 0 := ⟨⟨zc_X9_refusalAsRow.1, zc_X9_refusalAsRow.2.1, zc_X9_refusalAsRow.2.2, by decide, by decide⟩, tw_303, _, _, _, rfl, Or.inl ⟨tw_302, tw_304⟩⟩
theorem ss_X11_elementT_364 : ab_sV mX11_elementT 364 10 mX9_hasPlaces 2 := ⟨⟨zc_X9_hasPlaces.1, zc_X9_hasPlaces.2.1, zc_X9_hasPlaces.2.2, by decide, by decide⟩, tw_321, _, _, _, rfl, Or.inl ⟨tw_916, tw_322⟩⟩
theorem ss_X11_elementT_314 : ab_sV mX11_elementT 314 10 mX9_numberAt 1 := ⟨⟨zc_X9_numberAt.1, zc_X9_numberAt.2.1, zc_X9_numberAt.2.2, by decide, by decide⟩, tw_317, _, _, _, rfl, Or.inl ⟨tw_316, tw_318⟩⟩
theorem sw_fail_9 : ab_sW mX11_toss 385 9 mX8_failT 1 := ⟨⟨zc_X8_fail.1, zc_X8_fail.2.1, zc_X8_fail.2.2, by decide, by decide⟩, tw_960, _, _, _, rfl, tw_959, tw_961⟩
theorem sw_fail_3 : ab_sW mX11_toss 385 3 mX8_failT 1 := ⟨⟨zc_X8_fail.1, zc_X8_fail.2.1, zc_X8_fail.2.2, by decide, by decide⟩, tw_960, _, _, _, rfl, tw_959, tw_965⟩
theorem sw_fail_2 : ab_sW mX11_toss 385 2 mX8_failT 1 := ⟨⟨zc_X8_fail.1, zc_X8_fail.2.1, zc_X8_fail.2.2, by decide, by decide⟩, tw_960, _, _, _, rfl, tw_959, tw_964⟩
theorem sw_fail_4 : ab_sW mX11_toss 385 4 mX8_failT 1 := ⟨⟨zc_X8_fail.1, zc_X8_fail.2.1, zc_X8_fail.2.2, by decide, by decide⟩, tw_960, _, _, _, rfl, tw_959, tw_966⟩
theorem sw_fail_6 : ab_sW mX11_toss 385 6 mX8_failT 1 := ⟨⟨zc_X8_fail.1, zc_X8_fail.2.1, zc_X8_fail.2.2, by decide, by decide⟩, tw_960, _, _, _, rfl, tw_959, tw_970⟩
theorem sw_fail_1 : ab_sW mX11_toss 385 1 mX8_failT 1 := ⟨⟨zc_X8_fail.1, zc_X8_fail.2.1, zc_X8_fail.2.2, by decide, by decide⟩, tw_960, _, _, _, rfl, tw_959, tw_963⟩
theorem sw_fail_7 : ab_sW mX11_toss 385 7 mX8_failT 1 := ⟨⟨zc_X8_fail.1, zc_X8_fail.2.1, zc_X8_fail.2.2, by decide, by decide⟩, tw_960, _, _, _, rfl, tw_959, tw_971⟩
theorem fail_0 {G : ab_G} (hG : ab_GG G) {h : List ab_E} {b ci : Nat} {fs : List Value} (hc : h[b]? = some (.inr (ci, fs))) : ab_CM G mX8_fail [.ref b, .int 0] h (none) h := by
  refine ab_meth (l0 := [(0, .ref b), (1, .int 0)]) hG (by decide +kernel) rfl (Nat.le_of_ble_eq_true rfl) (Nat.le_refl _) (Nat.le_refl _) (fun X hX hF => ?_)
  refine ab_iload_n hX dX8_fail_0 mm1 ?_
  refine ab_ifeq (tgt := 14) hX dX8_fail_1 (by decide) (fun h_1 => ?_) (fun h_1 => (by exact absurd (show (0 : Int32) = 0 by decide) h_1))
  exact ab_vreturn hX hF dX8_fail_14 rfl rfl (by rfl)
theorem fail_T {G : ab_G} (hG : ab_GG G) (hGX : ab_GX G) {h : List ab_E} {b : Nat} {f : Int32} (hf : ¬ f = 0) : ab_CT G mX8_failT [.ref b, .int f] h "java/lang/IllegalStateException" (h ++ [.inr (14, [])]) := by
  refine ab_methT (l0 := [(0, .ref b), (1, .int f)]) hG (by decide +kernel) rfl (Nat.le_of_ble_eq_true rfl) gl_a gz_a (fun X hX hT hF => ?_)
  refine ab_iload_n hX dX8_fail_0 mm1 ?_
  refine ab_ifeq (tgt := 14) hX dX8_fail_1 (by decide) (fun h_1 => absurd h_1 hf) (fun h_1 => ?_)
  exact ab_throwS hX hT hGX hF rfl (by decide +kernel) (by decide +kernel) tw_973 tw_73 hGX.2.2.2.1 ow_f dX8_fail_4 dX8_fail_7 dX8_fail_8 dX8_fail_10 dX8_fail_13 (by decide) (by decide)
theorem vz_fail {G : ab_G} (hG : ab_GG G) {c : CS} {M D : List ab_E} {k : Nat} (hk : k < 8) {f : Int32} (h : k = 6 ∨ f = 0) : ∃ (Z : ab_M) (ci : Nat) (fs : List Value), (cH c M D)[kR k]? = some (.inr (ci, fs)) ∧ ab_sV mX11_toss 385 ci Z 1 ∧ ab_CM G Z [.ref (kR k), .int f] (cH c M D) none (cH c M D) := by
  rcases h with rfl | rfl
  · exact ⟨_, _, _, cH_get rfl, ss_X11_toss_385_5, cm_X4_fail hG (cH_get rfl) rfl⟩
  · obtain rfl | rfl | rfl | rfl | rfl | rfl | rfl | rfl : k = 0 ∨ k = 1 ∨ k = 2 ∨ k = 3 ∨ k = 4 ∨ k = 5 ∨ k = 6 ∨ k = 7 := by omega
    · exact ⟨_, _, _, cH_get rfl, ss_X11_toss_385_9, fail_0 hG (cH_get rfl)⟩
    · exact ⟨_, _, _, cH_get rfl, ss_X11_toss_385_3, fail_0 hG (cH_get rfl)⟩
    · exact ⟨_, _, _, cH_get rfl, ss_X11_toss_385_2, fail_0 hG (cH_get rfl)⟩
    · exact ⟨_, _, _, cH_get rfl, ss_X11_toss_385_4, fail_0 hG (cH_get rfl)⟩
    · exact ⟨_, _, _, cH_get rfl, ss_X11_toss_385_6, fail_0 hG (cH_get rfl)⟩
    · exact ⟨_, _, _, cH_get rfl, ss_X11_toss_385_1, fail_0 hG (cH_get rfl)⟩
    · exact ⟨_, _, _, cH_get rfl, ss_X11_toss_385_5, cm_X4_fail hG (cH_get rfl) rfl⟩
    · exact ⟨_, _, _, cH_get rfl, ss_X11_toss_385_7, fail_0 hG (cH_get rfl)⟩
theorem vz_failT {c : CS} {M D : List ab_E} {k : Nat} (hk : k < 8) (h6 : ¬ k = 6) : ∃ (ci : Nat) (fs : List Value), (cH c M D)[kR k]? = some (.inr (ci, fs)) ∧ ab_sW mX11_toss 385 ci mX8_failT 1 := by
  obtain rfl | rfl | rfl | rfl | rfl | rfl | rfl | rfl : k = 0 ∨ k = 1 ∨ k = 2 ∨ k = 3 ∨ k = 4 ∨ k = 5 ∨ k = 6 ∨ k = 7 := by omega
  · exact ⟨_, _, cH_get rfl, sw_fail_9⟩
  · exact ⟨_, _, cH_get rfl, sw_fail_3⟩
  · exact ⟨_, _, cH_get rfl, sw_fail_2⟩
  · exact ⟨_, _, cH_get rfl, sw_fail_4⟩
  · exact ⟨_, _, cH_get rfl, sw_fail_6⟩
  · exact ⟨_, _, cH_get rfl, sw_fail_1⟩
  · exact absurd rfl h6
  · exact ⟨_, _, cH_get rfl, sw_fail_7⟩
def tosR (c : CS) (d : Int32) : Int32 := if iw d 0 7 = true then (if rfU c (tn d) 1 = 0 then (if skc c (tn d) = 6 then -15 else if c.1 (60 + tn d) = 0 then -15 else flV (skc c (tn d)) (c.1 (60 + tn d))) else rfU c (tn d) 1) else -1
def tosD (c : CS) (D : List ab_E) (d : Int32) : List ab_E := if iw d 0 7 = true then (if rfU c (tn d) 1 = 0 then (if skc c (tn d) = 6 then D else if c.1 (60 + tn d) = 0 then D else D ++ [.inr (14, [])]) else D) else D
theorem le_tos {c : CS} {D : List ab_E} {d : Int32} : leD D (tosD c D d) := by
  unfold tosD
  repeat' split
  all_goals first | exact le_rf _ | exact le_app
theorem vz_X11_toss_388 {G : ab_G} (hG : ab_GG G) {c : CS} {M D : List ab_E} {k : Nat} (hk : k < 8) : ∃ (Z : ab_M) (ci : Nat) (fs : List Value), (cH c M D)[kR k]? = some (.inr (ci, fs)) ∧ ab_sV mX11_toss 388 ci Z 1 ∧ ∀ (f : Int32), ab_CM G Z [.ref (kR k), .int f] (cH c M D) (some (.int (flV k f))) (cH c M D) := by
  obtain rfl | rfl | rfl | rfl | rfl | rfl | rfl | rfl : k = 0 ∨ k = 1 ∨ k = 2 ∨ k = 3 ∨ k = 4 ∨ k = 5 ∨ k = 6 ∨ k = 7 := by omega
  · exact ⟨_, _, _, cH_get rfl, ss_X11_toss_388_9, fun f => cm_X8_failure hG (cH_get rfl) rfl⟩
  · exact ⟨_, _, _, cH_get rfl, ss_X11_toss_388_3, fun f => cm_X8_failure hG (cH_get rfl) rfl⟩
  · exact ⟨_, _, _, cH_get rfl, ss_X11_toss_388_2, fun f => cm_X1_failure hG (cH_get rfl) rfl⟩
  · exact ⟨_, _, _, cH_get rfl, ss_X11_toss_388_4, fun f => cm_X1_failure hG (cH_get rfl) rfl⟩
  · exact ⟨_, _, _, cH_get rfl, ss_X11_toss_388_6, fun f => cm_X1_failure hG (cH_get rfl) rfl⟩
  · exact ⟨_, _, _, cH_get rfl, ss_X11_toss_388_1, fun f => cm_X1_failure hG (cH_get rfl) rfl⟩
  · exact ⟨_, _, _, cH_get rfl, ss_X11_toss_388_5, fun f => cm_X8_failure hG (cH_get rfl) rfl⟩
  · exact ⟨_, _, _, cH_get rfl, ss_X11_toss_388_7, fun f => cm_X6_failure hG (cH_get rfl)⟩
theorem cm_X11_toss {G : ab_G} (hG : ab_GG G) {c : CS} {M D : List ab_E} (hM : M.length = 12) (hGX : ab_GX G) (hK : ∀ d, d < 8 → ∃ k, k < 8 ∧ c.2.2.2 (10 + d) = .ref (kR k)) {d : Int32} : ab_CW G mX11_toss [(23, 34, 37, 359)] [.ref 0, .int d] (cH c M D) (some (.int (tosR c d))) (cH c M (tosD c D d)) := by
  refine ab_methW (l0 := [(0, .ref 0), (1, .int d)]) hG (by decide +kernel) rfl (Nat.le_of_ble_eq_true rfl) (cH_lenE le_tos.1) (cH_szE le_tos.2) (fun X hX hT hF => ?_)
  refine ab_aload_n hX dX11_toss_0 mm0 ?_
  refine ab_iload_n hX dX11_toss_1 mm1 ?_
  rcases sh_cases d with ⟨j, hj, rfl, jinc, jc⟩ | hno
  ·
    obtain ⟨kd, hkd, hkr⟩ := hK _ hj
    have hskc := skc_k hkr
    refine ab_callV1r hX dX11_toss_2 cg_x ss_X11_toss_75 (sh_ok hG hM hj) (Nat.le_of_ble_eq_true rfl) ?_
    refine ab_astore_n hX dX11_toss_5 rfl (by decide) rfl ?_
    refine ab_aload_n hX dX11_toss_6 mm0 ?_
    refine ab_ifnonnull (tgt := 12) hX dX11_toss_7 (by decide) ?_
    refine ab_aload_n hX dX11_toss_12 mm0 ?_
    refine ab_callV0r hX dX11_toss_13 (cg_sd hj) ss_X11_toss_141 (cm_X9_refusalAsSaying hG hM hj) (Nat.le_of_ble_eq_true rfl) ?_
    refine ab_istore_n hX dX11_toss_16 rfl (by decide) rfl ?_
    refine ab_iload_n hX dX11_toss_17 mm0 ?_
    refine ab_ifeq (tgt := 23) hX dX11_toss_18 (by decide) (fun h_1 => ?_) (fun h_1 => ?_)
    ·
      refine ab_aload_n hX dX11_toss_23 mm1 ?_
      refine ab_getfield hX dX11_toss_24 (fs_X11_148_10 rfl) (cg_sd hj) (by show some (c.2.2.2 (10 + j)) = _; rw [hkr]) ?_
      refine ab_aload_n hX dX11_toss_27 mm1 ?_
      refine ab_getfield hX dX11_toss_28 (fs_X11_152_10 rfl) (cg_sd hj) rfl ?_
      by_cases h6 : kd = 6
      ·
        obtain ⟨Z_, ci_, fs_, hg_, hs_, hc_⟩ := vz_fail hG (c := c) (M := M) (D := D) hkd (f := (c.1 (60 + j))) (Or.inl h6)
        refine ab_callV1v hX dX11_toss_31 hg_ hs_ hc_ (Nat.le_of_ble_eq_true rfl) ?_
        refine ab_goto (tgt := 51) hX dX11_toss_34 (by decide) ?_
        refine ab_bipush (v := (-15)) hX dX11_toss_51 (by decide) ?_
        exact ab_ireturn hX hF dX11_toss_53 rfl (by rfl) (congrArg some (congrArg Value.int (by first | (simp only [tosR, jinc, jc, hskc, h_1, h6, ↓reduceIte, Bool.false_eq_true]; done) | (simp only [tosR, jinc, jc, hskc, h_1, h6, ↓reduceIte, Bool.false_eq_true]; rfl)))) (by simp only [tosD, jinc, jc, hskc, h_1, h6, ↓reduceIte, Bool.false_eq_true])
      ·
        by_cases hf0 : c.1 (60 + j) = 0
        ·
          obtain ⟨Z_, ci_, fs_, hg_, hs_, hc_⟩ := vz_fail hG (c := c) (M := M) (D := D) hkd (f := (c.1 (60 + j))) (Or.inr hf0)
          refine ab_callV1v hX dX11_toss_31 hg_ hs_ hc_ (Nat.le_of_ble_eq_true rfl) ?_
          refine ab_goto (tgt := 51) hX dX11_toss_34 (by decide) ?_
          refine ab_bipush (v := (-15)) hX dX11_toss_51 (by decide) ?_
          exact ab_ireturn hX hF dX11_toss_53 rfl (by rfl) (congrArg some (congrArg Value.int (by first | (simp only [tosR, jinc, jc, hskc, h_1, h6, hf0, ↓reduceIte, Bool.false_eq_true]; done) | (simp only [tosR, jinc, jc, hskc, h_1, h6, hf0, ↓reduceIte, Bool.false_eq_true]; rfl)))) (by simp only [tosD, jinc, jc, hskc, h_1, h6, hf0, ↓reduceIte, Bool.false_eq_true])
        ·
          obtain ⟨ci_, fs_, hg_, hs_⟩ := vz_failT (c := c) (M := M) (D := D) hkd h6
          refine ab_catchV (pre := []) (suf := []) (x := ⟨23, 34, 37, 359⟩) (rest := []) (av := [.int (c.1 (60 + j))]) hX hT dX11_toss_31 hg_ hs_ (fail_T hG hGX hf0) rfl rfl (by decide) rfl (fun z hz => nomatch hz) (by decide) (by decide) tw_958 tw_975 dX11_toss_37 (by decide) rfl ?_
          rw [cD_app]
          refine ab_aload_n hX dX11_toss_39 mm1 ?_
          refine ab_getfield hX dX11_toss_40 (fs_X11_148_10 rfl) (cg_sd hj) (by show some (c.2.2.2 (10 + j)) = _; rw [hkr]) ?_
          refine ab_aload_n hX dX11_toss_43 mm1 ?_
          refine ab_getfield hX dX11_toss_44 (fs_X11_152_10 rfl) (cg_sd hj) rfl ?_
          obtain ⟨Z_, ci_, fs_, hg_, hs_, hc_⟩ := vz_X11_toss_388 hG (c := c) (M := M) (D := (D ++ [.inr (14, [])])) hkd
          refine ab_callV1r hX dX11_toss_47 hg_ hs_ (hc_ _) (Nat.le_of_ble_eq_true rfl) ?_
          exact ab_ireturn hX hF dX11_toss_50 rfl (by rfl) (congrArg some (congrArg Value.int (by first | (simp only [tosR, jinc, jc, hskc, h_1, h6, hf0, ↓reduceIte, Bool.false_eq_true]; done) | (simp only [tosR, jinc, jc, hskc, h_1, h6, hf0, ↓reduceIte, Bool.false_eq_true]; rfl)))) (by simp only [tosD, jinc, jc, hskc, h_1, h6, hf0, ↓reduceIte, Bool.false_eq_true])
    ·
      refine ab_iload_n hX dX11_toss_21 mm0 ?_
      exact ab_ireturn hX hF dX11_toss_22 rfl (by rfl) (congrArg some (congrArg Value.int (by first | (simp only [tosR, jinc, jc, hskc, h_1, ↓reduceIte, Bool.false_eq_true]; done) | (simp only [tosR, jinc, jc, hskc, h_1, ↓reduceIte, Bool.false_eq_true]; rfl)))) (by simp only [tosD, jinc, jc, hskc, h_1, ↓reduceIte, Bool.false_eq_true])
  ·
    refine ab_callV1r hX dX11_toss_2 cg_x ss_X11_toss_75 (sh_no hG hM hno) (Nat.le_of_ble_eq_true rfl) ?_
    refine ab_astore_nN hX dX11_toss_5 rfl (by decide) rfl ?_
    refine ab_aload_nN hX dX11_toss_6 mm0 ?_
    refine ab_ifnonnullN hX dX11_toss_7 ?_
    refine ab_iconst (v := (-1)) hX dX11_toss_10 (by decide) ?_
    exact ab_ireturn hX hF dX11_toss_11 rfl (by rfl) (congrArg some (congrArg Value.int (by first | (simp only [tosR, hno, ↓reduceIte, Bool.false_eq_true]; done) | (simp only [tosR, hno, ↓reduceIte, Bool.false_eq_true]; rfl)))) (by simp only [tosD, hno, ↓reduceIte, Bool.false_eq_true])
def elK (c : CS) (d i : Int32) : Int32 := if iw d 0 7 = true then (if rfU c (tn d) 2 = 0 then (if hpB c (tn d) i 1 = true then 0 else 2) else 2) else 1
theorem el_ok {G : ab_G} (hG : ab_GG G) {c : CS} {M D : List ab_E} (hM : M.length = 12) {j : Nat} (hj : j < 8) {i : Int32} (hr : rfU c j 2 = 0) (hp : hpB c j i 1 = true) : ab_CM G mX11_element [.ref 0, .int (nI j), .int i] (cH c M D) (some (.long ((nuA c j i).toInt64))) (cH c M D) := by
  refine ab_meth (l0 := [(0, .ref 0), (1, .int (nI j)), (2, .int i)]) hG (by decide +kernel) rfl (Nat.le_of_ble_eq_true rfl) (cH_lenE (Nat.le_refl _)) (cH_szE (Nat.le_refl _)) (fun X hX hF => ?_)
  refine ab_aload_n hX dX11_element_0 mm0 ?_
  refine ab_iload_n hX dX11_element_1 mm1 ?_
  skip
  ·
    refine ab_callV1r hX dX11_element_2 cg_x ss_X11_element_75 (sh_ok hG hM hj) (Nat.le_of_ble_eq_true rfl) ?_
    refine ab_astore_n hX dX11_element_5 rfl (by decide) rfl ?_
    refine ab_aload_n hX dX11_element_6 mm0 ?_
    refine ab_ifnonnull (tgt := 21) hX dX11_element_7 (by decide) ?_
    refine ab_aload_n hX dX11_element_21 mm0 ?_
    refine ab_callV0r hX dX11_element_22 (cg_sd hj) ss_X11_element_79 (cm_X9_refusalAsRow hG hM hj) (Nat.le_of_ble_eq_true rfl) ?_
    refine ab_ifeq (tgt := 39) hX dX11_element_25 (by decide) (fun h_1 => ?_) (fun h_1 => (by contradiction))
    refine ab_aload_n hX dX11_element_39 mm0 ?_
    refine ab_iload_n hX dX11_element_40 mm3 ?_
    refine ab_iconst (v := 1) hX dX11_element_41 (by decide) ?_
    refine ab_callV2r hX dX11_element_42 (cg_sd hj) ss_X11_element_364 (cm_X9_hasPlaces hG hM hj) (Nat.le_of_ble_eq_true rfl) ?_
    refine ab_ifneB (tgt := 59) hX dX11_element_45 (by decide) (fun h_2 => ?_) (fun h_2 => (by rw [hp] at h_2; cases h_2))
    refine ab_aload_n hX dX11_element_59 mm0 ?_
    refine ab_iload_n hX dX11_element_60 mm3 ?_
    refine ab_callV1r hX dX11_element_61 (cg_sd hj) ss_X11_element_314 (cm_X9_numberAt hG hM hj) (Nat.le_of_ble_eq_true rfl) ?_
    refine ab_i2l hX dX11_element_64 ?_
    exact ab_lreturn hX hF dX11_element_65 rfl (congrArg some (congrArg Value.long (by rfl))) (by rfl)
theorem el_T1 {G : ab_G} (hG : ab_GG G) {c : CS} {M D : List ab_E} (hM : M.length = 12) (hGX : ab_GX G) {d i : Int32} (hno : iw d 0 7 = false) : ab_CT G mX11_elementT [.ref 0, .int d, .int i] (cH c M D) ("java/lang/IllegalArgumentException") (cH c M D ++ [.inr (15, [])]) := by
  refine ab_methT (l0 := [(0, .ref 0), (1, .int d), (2, .int i)]) hG (by decide +kernel) rfl (Nat.le_of_ble_eq_true rfl) gl_a gz_a (fun X hX hT hF => ?_)
  refine ab_aload_n hX dX11_element_0 mm0 ?_
  refine ab_iload_n hX dX11_element_1 mm1 ?_
  skip
  ·
    refine ab_callV1r hX dX11_element_2 cg_x ss_X11_elementT_75 (sh_no hG hM hno) (Nat.le_of_ble_eq_true rfl) ?_
    refine ab_astore_nN hX dX11_element_5 rfl (by decide) rfl ?_
    refine ab_aload_nN hX dX11_element_6 mm0 ?_
    refine ab_ifnonnullN hX dX11_element_7 ?_
    exact ab_throwSW hX hT hGX hF rfl (by decide +kernel) (by decide +kernel) tw_1047 tw_72 hGX.2.2.2.2.1 ow_e1 dX11_element_10 dX11_element_13 dX11_element_14 dX11_element_17 dX11_element_20 (by decide) (by decide)
theorem el_T2 {G : ab_G} (hG : ab_GG G) {c : CS} {M D : List ab_E} (hM : M.length = 12) (hGX : ab_GX G) {j : Nat} (hj : j < 8) {i : Int32} (hr : ¬ rfU c j 2 = 0) : ab_CT G mX11_elementT [.ref 0, .int (nI j), .int i] (cH c M D) ("java/lang/IllegalStateException") (cH c M D ++ [.inr (14, [])]) := by
  refine ab_methT (l0 := [(0, .ref 0), (1, .int (nI j)), (2, .int i)]) hG (by decide +kernel) rfl (Nat.le_of_ble_eq_true rfl) gl_a gz_a (fun X hX hT hF => ?_)
  refine ab_aload_n hX dX11_element_0 mm0 ?_
  refine ab_iload_n hX dX11_element_1 mm1 ?_
  skip
  ·
    refine ab_callV1r hX dX11_element_2 cg_x ss_X11_elementT_75 (sh_ok hG hM hj) (Nat.le_of_ble_eq_true rfl) ?_
    refine ab_astore_n hX dX11_element_5 rfl (by decide) rfl ?_
    refine ab_aload_n hX dX11_element_6 mm0 ?_
    refine ab_ifnonnull (tgt := 21) hX dX11_element_7 (by decide) ?_
    refine ab_aload_n hX dX11_element_21 mm0 ?_
    refine ab_callV0r hX dX11_element_22 (cg_sd hj) ss_X11_elementT_79 (cm_X9_refusalAsRow hG hM hj) (Nat.le_of_ble_eq_true rfl) ?_
    refine ab_ifeq (tgt := 39) hX dX11_element_25 (by decide) (fun h_1 => (by contradiction)) (fun h_1 => ?_)
    exact ab_throwSW hX hT hGX hF rfl (by decide +kernel) (by decide +kernel) tw_958 tw_73 hGX.2.2.2.2.2.1 ow_e2 dX11_element_28 dX11_element_31 dX11_element_32 dX11_element_35 dX11_element_38 (by decide) (by decide)
theorem el_T3 {G : ab_G} (hG : ab_GG G) {c : CS} {M D : List ab_E} (hM : M.length = 12) (hGX : ab_GX G) {j : Nat} (hj : j < 8) {i : Int32} (hr : rfU c j 2 = 0) (hp : hpB c j i 1 = false) : ab_CT G mX11_elementT [.ref 0, .int (nI j), .int i] (cH c M D) ("java/lang/IllegalStateException") (cH c M D ++ [.inr (14, [])]) := by
  refine ab_methT (l0 := [(0, .ref 0), (1, .int (nI j)), (2, .int i)]) hG (by decide +kernel) rfl (Nat.le_of_ble_eq_true rfl) gl_a gz_a (fun X hX hT hF => ?_)
  refine ab_aload_n hX dX11_element_0 mm0 ?_
  refine ab_iload_n hX dX11_element_1 mm1 ?_
  skip
  ·
    refine ab_callV1r hX dX11_element_2 cg_x ss_X11_elementT_75 (sh_ok hG hM hj) (Nat.le_of_ble_eq_true rfl) ?_
    refine ab_astore_n hX dX11_element_5 rfl (by decide) rfl ?_
    refine ab_aload_n hX dX11_element_6 mm0 ?_
    refine ab_ifnonnull (tgt := 21) hX dX11_element_7 (by decide) ?_
    refine ab_aload_n hX dX11_element_21 mm0 ?_
    refine ab_callV0r hX dX11_element_22 (cg_sd hj) ss_X11_elementT_79 (cm_X9_refusalAsRow hG hM hj) (Nat.le_of_ble_eq_true rfl) ?_
    refine ab_ifeq (tgt := 39) hX dX11_element_25 (by decide) (fun h_1 => ?_) (fun h_1 => (by contradiction))
    refine ab_aload_n hX dX11_element_39 mm0 ?_
    refine ab_iload_n hX dX11_element_40 mm3 ?_
    refine ab_iconst (v := 1) hX dX11_element_41 (by decide) ?_
    refine ab_callV2r hX dX11_element_42 (cg_sd hj) ss_X11_elementT_364 (cm_X9_hasPlaces hG hM hj) (Nat.le_of_ble_eq_true rfl) ?_
    refine ab_ifneB (tgt := 59) hX dX11_element_45 (by decide) (fun h_2 => (by rw [hp] at h_2; cases h_2)) (fun h_2 => ?_)
    exact ab_throwSW hX hT hGX hF rfl (by decide +kernel) (by decide +kernel) tw_958 tw_73 hGX.2.2.2.2.2.2.1 ow_e2 dX11_element_48 dX11_element_51 dX11_element_52 dX11_element_55 dX11_element_58 (by decide) (by decide)
theorem ss_L_element_7 : ab_sV mL_element 7 12 mX11_element 2 := ⟨⟨zc_X11_element.1, zc_X11_element.2.1, zc_X11_element.2.2, by decide, by decide⟩, tw_1044, _, _, _, rfl, Or.inl ⟨tw_1043, tw_1045⟩⟩
theorem sw_L_element : ab_sW mL_element 7 12 mX11_elementT 2 := ⟨⟨zc_X11_element.1, zc_X11_element.2.1, zc_X11_element.2.2, by decide, by decide⟩, tw_1044, _, _, _, rfl, tw_1043, tw_1045⟩
def eCell (f : Nat → Int64) : ab_E := .inl (1, 1, .inr (.inl f))
def elD (c : CS) (D : List ab_E) (f : Nat → Int64) (d i : Int32) : List ab_E := if elK c d i = 0 then D.set 0 (eCell (vp_updL f 0 (nuA c (tn d) i).toInt64)) else if elK c d i = 1 then D ++ [.inr (15, [])] else D ++ [.inr (14, [])]
theorem elK_0 {c : CS} {j : Nat} {i : Int32} (hj : j < 8) (h1 : rfU c j 2 = 0) (h2 : hpB c j i 1 = true) : elK c (nI j) i = 0 := by
  have e : iw (nI j) 0 7 = true := by
    rcases sh_cases (nI j) with ⟨k, hk, e, ei, et⟩ | hn
    · exact ei
    · exact absurd hn (by have : ∀ j, j < 8 → ¬ iw (nI j) 0 7 = false := by decide
                          exact this j hj)
  have et : tn (nI j) = j := tn_nI (by omega)
  rw [elK, if_pos e, et, if_pos h1, if_pos h2]
theorem elK_2 {c : CS} {j : Nat} {i : Int32} (hj : j < 8) (h : ¬ rfU c j 2 = 0 ∨ hpB c j i 1 = false) : elK c (nI j) i = 2 := by
  have e : iw (nI j) 0 7 = true := by
    have : ∀ j, j < 8 → iw (nI j) 0 7 = true := by decide
    exact this j hj
  have et : tn (nI j) = j := tn_nI (by omega)
  rw [elK, if_pos e, et]
  rcases h with h | h
  · rw [if_neg h]
  · by_cases q : rfU c j 2 = 0
    · rw [if_pos q, if_neg (by rw [h]; exact Bool.false_ne_true)]
    · rw [if_neg q]
theorem elK_1 {c : CS} {d i : Int32} (h : iw d 0 7 = false) : elK c d i = 1 := by rw [elK, if_neg (by rw [h]; exact Bool.false_ne_true)]
theorem cm_L_element {G : ab_G} (hG : ab_GG G) (hGX : ab_GX G) {c : CS} {M D : List ab_E} (hM : M.length = 12) {f : Nat → Int64} (hD : D[0]? = some (eCell f)) {d i : Int32} : ab_CW G mL_element [(0, 9, 12, 13), (0, 9, 16, 15)] [.ref 0, .int d, .int i, .ref 54] (cH c M D) (some (.int (elK c d i))) (cH c M (elD c D f d i)) := by
  have hle : leD D (elD c D f d i) := by
    unfold elD
    split
    · exact le_set hD rfl
    · split <;> exact le_app
  refine ab_methW (l0 := [(0, .ref 0), (1, .int d), (2, .int i), (3, .ref 54)]) hG (by decide +kernel) rfl (Nat.le_of_ble_eq_true rfl) (cH_lenE hle.1) (cH_szE hle.2) (fun X hX hT hF => ?_)
  have hg54 : (cH c M D)[54]? = some (eCell f) := cD_get (k := 0) hM hD
  refine ab_aload_n hX dL_element_0 mm3 ?_
  refine ab_iconst (v := 0) hX dL_element_1 (by decide) ?_
  refine ab_aload_n hX dL_element_2 mm0 ?_
  refine ab_iload_n hX dL_element_3 mm1 ?_
  refine ab_iload_n hX dL_element_4 mm2 ?_
  rcases sh_cases d with ⟨j, hj, rfl, jin, jt⟩ | hno
  · by_cases h1 : rfU c j 2 = 0
    · cases h2 : hpB c j i 1 with
      | true =>
        have ek := elK_0 (i := i) hj h1 h2
        refine ab_callV2r hX dL_element_5 cg_x ss_L_element_7 (el_ok hG hM hj h1 h2) (Nat.le_of_ble_eq_true rfl) ?_
        refine ab_last (i := 0) hX dL_element_8 hg54 rfl (by decide) (by decide) rfl ?_
        refine ab_goto (tgt := 20) hX dL_element_9 (by decide) ?_
        refine ab_iconst (v := 0) hX dL_element_20 (by decide) ?_
        exact ab_ireturn hX hF dL_element_21 rfl (by rfl) (congrArg some (congrArg Value.int (by rw [ek]))) (by rw [elD, if_pos ek, jt]; exact cD_set (k := 0) hM)
      | false =>
        have ek := elK_2 (i := i) hj (Or.inr h2)
        refine ab_catchV (pre := [⟨0, 9, 12, 13⟩]) (suf := []) (x := ⟨0, 9, 16, 15⟩) (rest := [.int 0, .ref 54]) (av := [.int (nI j), .int i]) hX hT dL_element_5 cg_x sw_L_element (el_T3 hG hM hGX hj h1 h2) rfl rfl (by decide) rfl (ab_cons (Or.inr ⟨by decide, _, tw_1041, hGX.2.2.2.2.2.2.2.1⟩) ab_nil) (by decide) (by decide) tw_1042 tw_975 dL_element_16 (by decide) rfl ?_
        rw [cD_app]
        refine ab_iconst (v := 2) hX dL_element_18 (by decide) ?_
        exact ab_ireturn hX hF dL_element_19 rfl (by rfl) (congrArg some (congrArg Value.int (by rw [ek]))) (by rw [elD, ek, if_neg (by decide), if_neg (by decide)])
    · have ek := elK_2 (i := i) hj (Or.inl h1)
      refine ab_catchV (pre := [⟨0, 9, 12, 13⟩]) (suf := []) (x := ⟨0, 9, 16, 15⟩) (rest := [.int 0, .ref 54]) (av := [.int (nI j), .int i]) hX hT dL_element_5 cg_x sw_L_element (el_T2 hG hM hGX hj h1) rfl rfl (by decide) rfl (ab_cons (Or.inr ⟨by decide, _, tw_1041, hGX.2.2.2.2.2.2.2.1⟩) ab_nil) (by decide) (by decide) tw_1042 tw_975 dL_element_16 (by decide) rfl ?_
      rw [cD_app]
      refine ab_iconst (v := 2) hX dL_element_18 (by decide) ?_
      exact ab_ireturn hX hF dL_element_19 rfl (by rfl) (congrArg some (congrArg Value.int (by rw [ek]))) (by rw [elD, ek, if_neg (by decide), if_neg (by decide)])
  · have ek := elK_1 (c := c) (i := i) hno
    refine ab_catchV (pre := []) (suf := [⟨0, 9, 16, 15⟩]) (x := ⟨0, 9, 12, 13⟩) (rest := [.int 0, .ref 54]) (av := [.int d, .int i]) hX hT dL_element_5 cg_x sw_L_element (el_T1 hG hM hGX hno) rfl rfl (by decide) rfl ab_nil (by decide) (by decide) tw_1041 tw_1049 dL_element_12 (by decide) rfl ?_
    rw [cD_app]
    refine ab_iconst (v := 1) hX dL_element_14 (by decide) ?_
    exact ab_ireturn hX hF dL_element_15 rfl (by rfl) (congrArg some (congrArg Value.int (by rw [ek]))) (by rw [elD, ek, if_neg (by decide), if_pos rfl])
theorem ss_L_law_202 : ab_sVW mL_law 202 12 mX11_toss [(23, 34, 37, 359)] 1 := ⟨⟨tv_5, tw_45, by decide +kernel, by decide, by decide⟩, tw_956, _, _, _, rfl, tw_955, tw_957⟩
theorem ss_L_law_184 : ab_sSW mL_law 184 mL_element [(0, 9, 12, 13), (0, 9, 16, 15)] 4 := ⟨⟨tv_17, tw_44, by decide +kernel, by decide, by decide⟩, tw_1040, tw_1039⟩
