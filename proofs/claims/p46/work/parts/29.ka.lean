def saB (c : CS) (d : Nat) (a : Int32) : Bool := iw (nuA c d a - 48) 0 7 && (inB (nuA c d (a + 2) - 48) 6 && inB (nuA c d (a + 3) - 48) 6)
def saE (c : CS) (d : Nat) (a t : Int32) : ab_E := nsC t (tn (nuA c d a - 48)) (nuA c d (a + 1) - 48) (nuA c d (a + 2) - 48) (nuA c d (a + 3) - 48)
theorem sa_get {c : CS} {d : Nat} {a : Int32} (h : saB c d a = true) : (∃ k, k < 8 ∧ nuA c d a - 48 = nI k ∧ tn (nuA c d a - 48) = k) ∧ inB (nuA c d (a + 2) - 48) 6 = true ∧ inB (nuA c d (a + 3) - 48) 6 = true := by
  rw [saB, Bool.and_eq_true, Bool.and_eq_true] at h
  obtain ⟨h1, h2, h3⟩ := h
  rcases sh_cases (nuA c d a - 48) with ⟨k, hk, e, -, et⟩ | hn
  · exact ⟨⟨k, hk, e, et⟩, h2, h3⟩
  · rw [hn] at h1; cases h1
theorem sa_nn {c : CS} {d : Nat} {a : Int32} (h : saB c d a = false) (h1 : iw (nuA c d a - 48) 0 7 = true) (h2 : inB (nuA c d (a + 2) - 48) 6 = true) (h3 : inB (nuA c d (a + 3) - 48) 6 = true) : False := by
  rw [saB, h1, h2, h3] at h
  cases h
def twA (c : CS) (d : Nat) (a : Int32) : Int32 := 10 * (nuA c d (a + 1) - 48) + (nuA c d (a + 1 + 1) - 48)
def tlA (c : CS) (d : Nat) (a : Int32) : Int32 := nuA c d (a + 1) - 48
def enL1 (n : Nat) (d : Nat) (a : Int32) (p : CD) : CD × Bool := if saB p.1 d (a + 1) = true then (if n < 6 then (adP (2 * 2) (43 + p.2.length) (p.1, p.2 ++ [saE p.1 d (a + 1) (-4)]), true) else ((p.1, p.2 ++ [saE p.1 d (a + 1) (-4)]), false)) else (p, false)
def enS1 (n : Nat) (d : Nat) (a : Int32) (p : CD) : CD × Bool := if saB p.1 d (a + 2) = true then (if hwT p.1 2 (tlA p.1 d a) = true then (if n < 10 then (adP (2 * 2 + 1) (43 + p.2.length) (p.1, p.2 ++ [saE p.1 d (a + 2) (tlA p.1 d a)]), true) else ((p.1, p.2 ++ [saE p.1 d (a + 2) (tlA p.1 d a)]), false)) else ((p.1, p.2 ++ [saE p.1 d (a + 2) (tlA p.1 d a)]), false)) else (p, false)
def enP (n4 n5 : Nat) (d : Nat) (a : Int32) (p : CD) : CD × Bool := if nuA p.1 d a = 108 then enL1 n4 d a p else if nuA p.1 d a = 115 then enS1 n5 d a p else if nuA p.1 d a = 116 then ((stP2 p.1 2 (twA p.1 d a), p.2), inB (twA p.1 d a) 64) else if nuA p.1 d a = 119 then ((awP p.1 2 (twA p.1 d a), p.2), awB p.1 2 (twA p.1 d a)) else (p, false)
theorem le_enL {n d : Nat} {a : Int32} {c : CS} {D : List ab_E} {Q : Nat → Nat × (Nat → SY)} (h : GI c D Q) : leD D (enL1 n d a (c, D)).1.2 := by
  unfold enL1
  repeat' split
  · exact le_tr le_app (le_ad ((GI_app _ h).1 (2 * 2) (by decide)))
  · exact le_app
  · exact le_rf _
theorem le_enS {n d : Nat} {a : Int32} {c : CS} {D : List ab_E} {Q : Nat → Nat × (Nat → SY)} (h : GI c D Q) : leD D (enS1 n d a (c, D)).1.2 := by
  unfold enS1
  repeat' split
  · exact le_tr le_app (le_ad ((GI_app _ h).1 (2 * 2 + 1) (by decide)))
  · exact le_app
  · exact le_app
  · exact le_rf _
theorem le_enP {n4 n5 d : Nat} {a : Int32} {c : CS} {D : List ab_E} {Q : Nat → Nat × (Nat → SY)} (h : GI c D Q) : leD D (enP n4 n5 d a (c, D)).1.2 := by
  unfold enP
  split
  · exact le_enL h
  · split
    · exact le_enS h
    · repeat' split
      all_goals exact le_rf _
theorem sa_ok {G : ab_G} (hG : ab_GG G) {c : CS} {M D : List ab_E} (hM : M.length = 1) {d : Nat} (hd : d < 8) {a t : Int32} (hsa : saB c d a = true) : ab_CM G mX11_sayingAt [.ref 0, .ref (26 + 2 * d), .int a, .int t] (cH c M D) (some (.ref (43 + D.length))) (cH c M (D ++ [saE c d a t])) := by
  obtain ⟨⟨k, hk, hke, hkt⟩, ha, hb⟩ := sa_get hsa
  refine ab_meth (l0 := [(0, .ref 0), (1, .ref (26 + 2 * d)), (2, .int a), (3, .int t)]) hG (by decide +kernel) rfl (Nat.le_of_ble_eq_true rfl) (cH_lenE le_app.1) (cH_szE le_app.2) (fun X hX hF => ?_)
  refine ab_aload_n hX dX11_sayingAt_0 mm0 ?_
  refine ab_aload_n hX dX11_sayingAt_1 mm1 ?_
  refine ab_iload_n hX dX11_sayingAt_2 mm2 ?_
  refine ab_callS2r hX dX11_sayingAt_3 ss_X11_sayingAt_411 (cm_X11_digitAt hG hM hd) (Nat.le_of_ble_eq_true rfl) ?_
  rw [hke]
  refine ab_callV1r hX dX11_sayingAt_6 cg_x ss_X11_sayingAt_337 (kn_ok hG hM hk) (Nat.le_of_ble_eq_true rfl) ?_
  refine ab_astore hX dX11_sayingAt_9 (by decide) rfl ?_
  refine ab_aload_n hX dX11_sayingAt_11 mm2 ?_
  refine ab_iload_n hX dX11_sayingAt_12 mm3 ?_
  refine ab_iconst (v := 2) hX dX11_sayingAt_13 (by decide) ?_
  refine ab_iadd hX dX11_sayingAt_14 ?_
  refine ab_callS2r hX dX11_sayingAt_15 ss_X11_sayingAt_411 (cm_X11_digitAt hG hM hd) (Nat.le_of_ble_eq_true rfl) ?_
  refine ab_istore hX dX11_sayingAt_18 (by decide) rfl ?_
  refine ab_aload_n hX dX11_sayingAt_20 mm3 ?_
  refine ab_iload_n hX dX11_sayingAt_21 mm4 ?_
  refine ab_iconst (v := 3) hX dX11_sayingAt_22 (by decide) ?_
  refine ab_iadd hX dX11_sayingAt_23 ?_
  refine ab_callS2r hX dX11_sayingAt_24 ss_X11_sayingAt_411 (cm_X11_digitAt hG hM hd) (Nat.le_of_ble_eq_true rfl) ?_
  refine ab_istore hX dX11_sayingAt_27 (by decide) rfl ?_
  refine ab_aload hX dX11_sayingAt_29 mm2 ?_
  refine ab_ifnull hX dX11_sayingAt_31 ?_
  refine ab_iload hX dX11_sayingAt_34 mm1 ?_
  refine ab_callS1r hX dX11_sayingAt_36 ss_X11_sayingAt_135 (cm_X11_isFact hG) (Nat.le_of_ble_eq_true rfl) ?_
  refine ab_ifeqB (tgt := 50) hX dX11_sayingAt_39 (by decide) (fun h_1 => (by rw [ha] at h_1; cases h_1)) (fun h_1 => ?_)
  refine ab_iload hX dX11_sayingAt_42 mm0 ?_
  refine ab_callS1r hX dX11_sayingAt_44 ss_X11_sayingAt_135 (cm_X11_isFact hG) (Nat.le_of_ble_eq_true rfl) ?_
  refine ab_ifneB (tgt := 52) hX dX11_sayingAt_47 (by decide) (fun h_2 => ?_) (fun h_2 => (by rw [hb] at h_2; cases h_2))
  refine ab_iload_n hX dX11_sayingAt_52 mm6 ?_
  refine ab_aload hX dX11_sayingAt_53 mm2 ?_
  refine ab_aload_n hX dX11_sayingAt_55 mm4 ?_
  refine ab_iload_n hX dX11_sayingAt_56 mm5 ?_
  refine ab_iconst (v := 1) hX dX11_sayingAt_57 (by decide) ?_
  refine ab_iadd hX dX11_sayingAt_58 ?_
  refine ab_callS2r hX dX11_sayingAt_59 ss_X11_sayingAt_411 (cm_X11_digitAt hG hM hd) (Nat.le_of_ble_eq_true rfl) ?_
  refine ab_iload hX dX11_sayingAt_62 mm1 ?_
  refine ab_iload hX dX11_sayingAt_64 mm0 ?_
  refine ab_callS5r hX dX11_sayingAt_66 ss_X11_sayingAt_155 (cm_X11_newSaying hG hM hk) (Nat.le_of_ble_eq_true rfl) ?_
  exact ab_areturn hX hF dX11_sayingAt_69 rfl (Or.inl ⟨_, rfl⟩) (Or.inr (Or.inl ⟨_, rfl⟩)) (by rfl) (by rw [saE, hkt])
theorem sa_nu {G : ab_G} (hG : ab_GG G) {c : CS} {M D : List ab_E} (hM : M.length = 1) {d : Nat} (hd : d < 8) {a t : Int32} (hsa : saB c d a = false) : ab_CM G mX11_sayingAt [.ref 0, .ref (26 + 2 * d), .int a, .int t] (cH c M D) (some .null) (cH c M D) := by
  refine ab_meth (l0 := [(0, .ref 0), (1, .ref (26 + 2 * d)), (2, .int a), (3, .int t)]) hG (by decide +kernel) rfl (Nat.le_of_ble_eq_true rfl) (cH_lenE (Nat.le_refl _)) (cH_szE (Nat.le_refl _)) (fun X hX hF => ?_)
  refine ab_aload_n hX dX11_sayingAt_0 mm0 ?_
  refine ab_aload_n hX dX11_sayingAt_1 mm1 ?_
  refine ab_iload_n hX dX11_sayingAt_2 mm2 ?_
  refine ab_callS2r hX dX11_sayingAt_3 ss_X11_sayingAt_411 (cm_X11_digitAt hG hM hd) (Nat.le_of_ble_eq_true rfl) ?_
  rcases sh_cases (nuA c d a - 48) with ⟨k, hk, hke, hki, hkt⟩ | hkno
  ·
    rw [hke]
    refine ab_callV1r hX dX11_sayingAt_6 cg_x ss_X11_sayingAt_337 (kn_ok hG hM hk) (Nat.le_of_ble_eq_true rfl) ?_
    refine ab_astore hX dX11_sayingAt_9 (by decide) rfl ?_
    refine ab_aload_n hX dX11_sayingAt_11 mm2 ?_
    refine ab_iload_n hX dX11_sayingAt_12 mm3 ?_
    refine ab_iconst (v := 2) hX dX11_sayingAt_13 (by decide) ?_
    refine ab_iadd hX dX11_sayingAt_14 ?_
    refine ab_callS2r hX dX11_sayingAt_15 ss_X11_sayingAt_411 (cm_X11_digitAt hG hM hd) (Nat.le_of_ble_eq_true rfl) ?_
    refine ab_istore hX dX11_sayingAt_18 (by decide) rfl ?_
    refine ab_aload_n hX dX11_sayingAt_20 mm3 ?_
    refine ab_iload_n hX dX11_sayingAt_21 mm4 ?_
    refine ab_iconst (v := 3) hX dX11_sayingAt_22 (by decide) ?_
    refine ab_iadd hX dX11_sayingAt_23 ?_
    refine ab_callS2r hX dX11_sayingAt_24 ss_X11_sayingAt_411 (cm_X11_digitAt hG hM hd) (Nat.le_of_ble_eq_true rfl) ?_
    refine ab_istore hX dX11_sayingAt_27 (by decide) rfl ?_
    refine ab_aload hX dX11_sayingAt_29 mm2 ?_
    refine ab_ifnull hX dX11_sayingAt_31 ?_
    refine ab_iload hX dX11_sayingAt_34 mm1 ?_
    refine ab_callS1r hX dX11_sayingAt_36 ss_X11_sayingAt_135 (cm_X11_isFact hG) (Nat.le_of_ble_eq_true rfl) ?_
    refine ab_ifeqB (tgt := 50) hX dX11_sayingAt_39 (by decide) (fun h_1 => ?_) (fun h_1 => ?_)
    ·
      refine ab_null hX dX11_sayingAt_50 ?_
      exact ab_areturn hX hF dX11_sayingAt_51 rfl (Or.inl ⟨_, rfl⟩) (Or.inl rfl) (by rfl) (by rfl)
    ·
      refine ab_iload hX dX11_sayingAt_42 mm0 ?_
      refine ab_callS1r hX dX11_sayingAt_44 ss_X11_sayingAt_135 (cm_X11_isFact hG) (Nat.le_of_ble_eq_true rfl) ?_
      refine ab_ifneB (tgt := 52) hX dX11_sayingAt_47 (by decide) (fun h_2 => (by exact (sa_nn hsa hki h_1 h_2).elim)) (fun h_2 => ?_)
      refine ab_null hX dX11_sayingAt_50 ?_
      exact ab_areturn hX hF dX11_sayingAt_51 rfl (Or.inl ⟨_, rfl⟩) (Or.inl rfl) (by rfl) (by rfl)
  ·
    refine ab_callV1r hX dX11_sayingAt_6 cg_x ss_X11_sayingAt_337 (kn_no hG hM hkno) (Nat.le_of_ble_eq_true rfl) ?_
    refine ab_astoreN hX dX11_sayingAt_9 (by decide) rfl ?_
    refine ab_aload_n hX dX11_sayingAt_11 mm2 ?_
    refine ab_iload_n hX dX11_sayingAt_12 mm3 ?_
    refine ab_iconst (v := 2) hX dX11_sayingAt_13 (by decide) ?_
    refine ab_iadd hX dX11_sayingAt_14 ?_
    refine ab_callS2r hX dX11_sayingAt_15 ss_X11_sayingAt_411 (cm_X11_digitAt hG hM hd) (Nat.le_of_ble_eq_true rfl) ?_
    refine ab_istore hX dX11_sayingAt_18 (by decide) rfl ?_
    refine ab_aload_n hX dX11_sayingAt_20 mm3 ?_
    refine ab_iload_n hX dX11_sayingAt_21 mm4 ?_
    refine ab_iconst (v := 3) hX dX11_sayingAt_22 (by decide) ?_
    refine ab_iadd hX dX11_sayingAt_23 ?_
    refine ab_callS2r hX dX11_sayingAt_24 ss_X11_sayingAt_411 (cm_X11_digitAt hG hM hd) (Nat.le_of_ble_eq_true rfl) ?_
    refine ab_istore hX dX11_sayingAt_27 (by decide) rfl ?_
    refine ab_aloadN hX dX11_sayingAt_29 mm2 ?_
    refine ab_ifnullN (tgt := 50) hX dX11_sayingAt_31 (by decide) ?_
    refine ab_null hX dX11_sayingAt_50 ?_
    exact ab_areturn hX hF dX11_sayingAt_51 rfl (Or.inl ⟨_, rfl⟩) (Or.inl rfl) (by rfl) (by rfl)
theorem i8_1 : ((115 : Int32) = 108) = False ∧ ((116 : Int32) = 108) = False ∧ ((116 : Int32) = 115) = False ∧ ((119 : Int32) = 108) = False ∧ ((119 : Int32) = 115) = False ∧ ((119 : Int32) = 116) = False := by decide
theorem cm_X11_isEnacted {G : ab_G} (hG : ab_GG G) {c : CS} {M D : List ab_E} (hM : M.length = 1) {d : Nat} (hd : d < 8) {a : Int32} {Q : Nat → Nat × (Nat → SY)} (hGI : GI c D Q) {nw : Nat} (hw : c.1 (10 + 2) = nI nw) (hw5 : nw ≤ 5) : ab_CM G mX11_isEnacted [.ref 0, .ref (26 + 2 * d), .int a] (cH c M D) (some (.int (bi (enP (Q (2 * 2)).1 (Q (2 * 2 + 1)).1 d a (c, D)).2))) (cH (enP (Q (2 * 2)).1 (Q (2 * 2 + 1)).1 d a (c, D)).1.1 M (enP (Q (2 * 2)).1 (Q (2 * 2 + 1)).1 d a (c, D)).1.2) := by
  refine ab_meth (l0 := [(0, .ref 0), (1, .ref (26 + 2 * d)), (2, .int a)]) hG (by decide +kernel) rfl (Nat.le_of_ble_eq_true rfl) (cH_lenE (le_enP hGI).1) (cH_szE (le_enP hGI).2) (fun X hX hF => ?_)
  refine ab_aload_n hX dX11_isEnacted_0 mm1 ?_
  refine ab_iload_n hX dX11_isEnacted_1 mm2 ?_
  refine ab_callV1r hX dX11_isEnacted_2 (cg_sd hd) ss_X11_isEnacted_314 (cm_X9_numberAt hG hM hd) (Nat.le_of_ble_eq_true rfl) ?_
  by_cases h_1 : nuA c d a = 108
  ·
    refine ab_ls (off := 43) (tgt := 48) hX dX11_isEnacted_5 (by decide) (by rw [h_1]; decide) (by decide) ?_
    refine ab_aload_n hX dX11_isEnacted_48 mm0 ?_
    refine ab_getfield hX dX11_isEnacted_49 (fs_X11_32_12 rfl) cg_x rfl ?_
    refine ab_aload_n hX dX11_isEnacted_52 mm0 ?_
    refine ab_aload_n hX dX11_isEnacted_53 mm1 ?_
    refine ab_iload_n hX dX11_isEnacted_54 mm2 ?_
    refine ab_iconst (v := 1) hX dX11_isEnacted_55 (by decide) ?_
    refine ab_iadd hX dX11_isEnacted_56 ?_
    refine ab_bipush (v := (-4)) hX dX11_isEnacted_57 (by decide) ?_
    rcases Bool.eq_false_or_eq_true (saB c d (a + 1)) with hsa | hsa
    ·
      refine ab_callV3r hX dX11_isEnacted_59 cg_x ss_X11_isEnacted_419 (sa_ok hG hM hd hsa) (Nat.le_of_ble_eq_true rfl) ?_
      rcases Nat.lt_or_ge (Q (2 * 2)).1 6 with hlt | hge
      ·
        refine ab_callV1r hX dX11_isEnacted_62 (cg_tr (show 2 < 3 by decide)) ss_X11_isEnacted_159 (ala_ok hG hM (show 2 < 3 by decide) ((GI_app _ hGI).1 (2 * 2) (by decide)) (cD_get hM ga_n) hlt) (Nat.le_of_ble_eq_true rfl) ?_
        exact ab_ireturn hX hF dX11_isEnacted_65 rfl (by first | rfl | exact bi_n _) (congrArg some (congrArg Value.int (by simp only [enP, enL1, enS1, twA, h_1, hsa, hlt, i8_1, ↓reduceIte, Bool.false_eq_true, bi_t, bi_f]; try rfl))) (by simp only [enP, enL1, enS1, twA, h_1, hsa, hlt, i8_1, ↓reduceIte, Bool.false_eq_true]; try rfl)
      ·
        have hgec : ¬ (Q (2 * 2)).1 < 6 := by omega
        refine ab_callV1r hX dX11_isEnacted_62 (cg_tr (show 2 < 3 by decide)) ss_X11_isEnacted_159 (ala_no hG hM (show 2 < 3 by decide) ((GI_app _ hGI).1 (2 * 2) (by decide)) (cD_get hM ga_n) hgec) (Nat.le_of_ble_eq_true rfl) ?_
        exact ab_ireturn hX hF dX11_isEnacted_65 rfl (by first | rfl | exact bi_n _) (congrArg some (congrArg Value.int (by simp only [enP, enL1, enS1, twA, h_1, hsa, hgec, i8_1, ↓reduceIte, Bool.false_eq_true, bi_t, bi_f]; try rfl))) (by simp only [enP, enL1, enS1, twA, h_1, hsa, hgec, i8_1, ↓reduceIte, Bool.false_eq_true]; try rfl)
    ·
      refine ab_callV3r hX dX11_isEnacted_59 cg_x ss_X11_isEnacted_419 (sa_nu hG hM hd hsa) (Nat.le_of_ble_eq_true rfl) ?_
      skip
      ·
        refine ab_callV1r hX dX11_isEnacted_62 (cg_tr (show 2 < 3 by decide)) ss_X11_isEnacted_159 (ala_nu hG hM (show 2 < 3 by decide)) (Nat.le_of_ble_eq_true rfl) ?_
        exact ab_ireturn hX hF dX11_isEnacted_65 rfl (by first | rfl | exact bi_n _) (congrArg some (congrArg Value.int (by simp only [enP, enL1, enS1, twA, h_1, hsa, i8_1, ↓reduceIte, Bool.false_eq_true, bi_t, bi_f]; try rfl))) (by simp only [enP, enL1, enS1, twA, h_1, hsa, i8_1, ↓reduceIte, Bool.false_eq_true]; try rfl)
  ·
    by_cases h_2 : nuA c d a = 115
    ·
      refine ab_ls (off := 91) (tgt := 96) hX dX11_isEnacted_5 (by decide) (by rw [h_2]; decide) (by decide) ?_
      refine ab_aload_n hX dX11_isEnacted_96 mm0 ?_
      refine ab_getfield hX dX11_isEnacted_97 (fs_X11_32_12 rfl) cg_x rfl ?_
      refine ab_aload_n hX dX11_isEnacted_100 mm0 ?_
      refine ab_aload_n hX dX11_isEnacted_101 mm1 ?_
      refine ab_iload_n hX dX11_isEnacted_102 mm2 ?_
      refine ab_iconst (v := 2) hX dX11_isEnacted_103 (by decide) ?_
      refine ab_iadd hX dX11_isEnacted_104 ?_
      refine ab_aload_n hX dX11_isEnacted_105 mm1 ?_
      refine ab_iload_n hX dX11_isEnacted_106 mm2 ?_
      refine ab_iconst (v := 1) hX dX11_isEnacted_107 (by decide) ?_
      refine ab_iadd hX dX11_isEnacted_108 ?_
      refine ab_callS2r hX dX11_isEnacted_109 ss_X11_isEnacted_411 (cm_X11_digitAt hG hM hd) (Nat.le_of_ble_eq_true rfl) ?_
      rcases Bool.eq_false_or_eq_true (saB c d (a + 2)) with hsa | hsa
      ·
        refine ab_callV3r hX dX11_isEnacted_112 cg_x ss_X11_isEnacted_419 (sa_ok hG hM hd hsa) (Nat.le_of_ble_eq_true rfl) ?_
        rcases (show (hwT c 2 (tlA c d a) = true ∧ (Q (2 * 2 + 1)).1 < 10) ∨ (hwT c 2 (tlA c d a) = true ∧ ¬ (Q (2 * 2 + 1)).1 < 10) ∨ hwT c 2 (tlA c d a) = false by rcases Bool.eq_false_or_eq_true (hwT c 2 (tlA c d a)) with q | q <;> simp [q]; omega) with ⟨hwt, hlt⟩ | ⟨hwt, hlt⟩ | hwt
        ·
          refine ab_callV1r hX dX11_isEnacted_115 (cg_tr (show 2 < 3 by decide)) ss_X11_isEnacted_166 (asa_ok hG hM (show 2 < 3 by decide) ((GI_app _ hGI).1 (2 * 2 + 1) (by decide)) (cD_get hM ga_n) (w := tlA c d a) rfl hwt hlt) (Nat.le_of_ble_eq_true rfl) ?_
          exact ab_ireturn hX hF dX11_isEnacted_118 rfl (by first | rfl | exact bi_n _) (congrArg some (congrArg Value.int (by simp only [enP, enL1, enS1, twA, h_1, h_2, hsa, hwt, hlt, i8_1, ↓reduceIte, Bool.false_eq_true, bi_t, bi_f]; try rfl))) (by simp only [enP, enL1, enS1, twA, h_1, h_2, hsa, hwt, hlt, i8_1, ↓reduceIte, Bool.false_eq_true]; try rfl)
        ·
          refine ab_callV1r hX dX11_isEnacted_115 (cg_tr (show 2 < 3 by decide)) ss_X11_isEnacted_166 (asa_no hG hM (show 2 < 3 by decide) ((GI_app _ hGI).1 (2 * 2 + 1) (by decide)) (cD_get hM ga_n) (w := tlA c d a) rfl hlt) (Nat.le_of_ble_eq_true rfl) ?_
          exact ab_ireturn hX hF dX11_isEnacted_118 rfl (by first | rfl | exact bi_n _) (congrArg some (congrArg Value.int (by simp only [enP, enL1, enS1, twA, h_1, h_2, hsa, hwt, hlt, i8_1, ↓reduceIte, Bool.false_eq_true, bi_t, bi_f]; try rfl))) (by simp only [enP, enL1, enS1, twA, h_1, h_2, hsa, hwt, hlt, i8_1, ↓reduceIte, Bool.false_eq_true]; try rfl)
        ·
          refine ab_callV1r hX dX11_isEnacted_115 (cg_tr (show 2 < 3 by decide)) ss_X11_isEnacted_166 (asa_nw hG hM (show 2 < 3 by decide) ((GI_app _ hGI).1 (2 * 2 + 1) (by decide)) (cD_get hM ga_n) (w := tlA c d a) rfl hwt) (Nat.le_of_ble_eq_true rfl) ?_
          exact ab_ireturn hX hF dX11_isEnacted_118 rfl (by first | rfl | exact bi_n _) (congrArg some (congrArg Value.int (by simp only [enP, enL1, enS1, twA, h_1, h_2, hsa, hwt, i8_1, ↓reduceIte, Bool.false_eq_true, bi_t, bi_f]; try rfl))) (by simp only [enP, enL1, enS1, twA, h_1, h_2, hsa, hwt, i8_1, ↓reduceIte, Bool.false_eq_true]; try rfl)
      ·
        refine ab_callV3r hX dX11_isEnacted_112 cg_x ss_X11_isEnacted_419 (sa_nu hG hM hd hsa) (Nat.le_of_ble_eq_true rfl) ?_
        skip
        ·
          refine ab_callV1r hX dX11_isEnacted_115 (cg_tr (show 2 < 3 by decide)) ss_X11_isEnacted_166 (asa_nu hG hM (show 2 < 3 by decide)) (Nat.le_of_ble_eq_true rfl) ?_
          exact ab_ireturn hX hF dX11_isEnacted_118 rfl (by first | rfl | exact bi_n _) (congrArg some (congrArg Value.int (by simp only [enP, enL1, enS1, twA, h_1, h_2, hsa, i8_1, ↓reduceIte, Bool.false_eq_true, bi_t, bi_f]; try rfl))) (by simp only [enP, enL1, enS1, twA, h_1, h_2, hsa, i8_1, ↓reduceIte, Bool.false_eq_true]; try rfl)
    ·
      by_cases h_3 : nuA c d a = 116
      ·
        refine ab_ls (off := 76) (tgt := 81) hX dX11_isEnacted_5 (by decide) (by rw [h_3]; decide) (by decide) ?_
        refine ab_aload_n hX dX11_isEnacted_81 mm0 ?_
        refine ab_getfield hX dX11_isEnacted_82 (fs_X11_32_12 rfl) cg_x rfl ?_
        refine ab_aload_n hX dX11_isEnacted_85 mm1 ?_
        refine ab_iload_n hX dX11_isEnacted_86 mm2 ?_
        refine ab_iconst (v := 1) hX dX11_isEnacted_87 (by decide) ?_
        refine ab_iadd hX dX11_isEnacted_88 ?_
        refine ab_callS2r hX dX11_isEnacted_89 ss_X11_isEnacted_423 (cm_X11_twoDigitsAt hG hM hd) (Nat.le_of_ble_eq_true rfl) ?_
        refine ab_callV1r hX dX11_isEnacted_92 (cg_tr (show 2 < 3 by decide)) ss_X11_isEnacted_426 (cm_X10_setTruth hG hM (show 2 < 3 by decide)) (Nat.le_of_ble_eq_true rfl) ?_
        exact ab_ireturn hX hF dX11_isEnacted_95 rfl (by first | rfl | exact bi_n _) (congrArg some (congrArg Value.int (by simp only [enP, enL1, enS1, twA, h_1, h_2, h_3, i8_1, ↓reduceIte, Bool.false_eq_true, bi_t, bi_f]; try rfl))) (by simp only [enP, enL1, enS1, twA, h_1, h_2, h_3, i8_1, ↓reduceIte, Bool.false_eq_true]; try rfl)
      ·
        by_cases h_4 : nuA c d a = 119
        ·
          refine ab_ls (off := 61) (tgt := 66) hX dX11_isEnacted_5 (by decide) (by rw [h_4]; decide) (by decide) ?_
          refine ab_aload_n hX dX11_isEnacted_66 mm0 ?_
          refine ab_getfield hX dX11_isEnacted_67 (fs_X11_32_12 rfl) cg_x rfl ?_
          refine ab_aload_n hX dX11_isEnacted_70 mm1 ?_
          refine ab_iload_n hX dX11_isEnacted_71 mm2 ?_
          refine ab_iconst (v := 1) hX dX11_isEnacted_72 (by decide) ?_
          refine ab_iadd hX dX11_isEnacted_73 ?_
          refine ab_callS2r hX dX11_isEnacted_74 ss_X11_isEnacted_423 (cm_X11_twoDigitsAt hG hM hd) (Nat.le_of_ble_eq_true rfl) ?_
          refine ab_callV1r hX dX11_isEnacted_77 (cg_tr (show 2 < 3 by decide)) ss_X11_isEnacted_176 (cm_X10_addWitness hG hM (show 2 < 3 by decide) hw hw5) (Nat.le_of_ble_eq_true rfl) ?_
          exact ab_ireturn hX hF dX11_isEnacted_80 rfl (by first | rfl | exact bi_n _) (congrArg some (congrArg Value.int (by simp only [enP, enL1, enS1, twA, h_1, h_2, h_3, h_4, i8_1, ↓reduceIte, Bool.false_eq_true, bi_t, bi_f]; try rfl))) (by simp only [enP, enL1, enS1, twA, h_1, h_2, h_3, h_4, i8_1, ↓reduceIte, Bool.false_eq_true]; try rfl)
        ·
          refine ab_ls (off := 114) (tgt := 119) hX dX11_isEnacted_5 (by decide) (by show Op.lookupswitch.offset [(108, 43), (115, 91), (116, 76), (119, 61)] 114 _ = _; rw [lv_osw (a := 108) h_1 rfl, lv_osw (a := 115) h_2 rfl, lv_osw (a := 116) h_3 rfl, lv_osw (a := 119) h_4 rfl]; rfl) (by decide) ?_
          refine ab_iconst (v := 0) hX dX11_isEnacted_119 (by decide) ?_
          exact ab_ireturn hX hF dX11_isEnacted_120 rfl (by first | rfl | exact bi_n _) (congrArg some (congrArg Value.int (by simp only [enP, enL1, enS1, twA, h_1, h_2, h_3, h_4, i8_1, ↓reduceIte, Bool.false_eq_true, bi_t, bi_f]; try rfl))) (by simp only [enP, enL1, enS1, twA, h_1, h_2, h_3, h_4, i8_1, ↓reduceIte, Bool.false_eq_true]; try rfl)

