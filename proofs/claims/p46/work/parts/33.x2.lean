theorem el_ok {G : ab_G} (hG : ab_GG G) {c : CS} {M D : List ab_E} (hM : M.length = 1) {j : Nat} (hj : j < 8) {i : Int32} (hr : rfU c j 2 = 0) (hp : hpB c j i 1 = true) : ab_CM G mX11_element [.ref 0, .int (nI j), .int i] (cH c M D) (some (.long ((nuA c j i).toInt64))) (cH c M D) := by
  refine ab_meth (l0 := [(0, .ref 0), (1, .int (nI j)), (2, .int i)]) hG (by decide +kernel) rfl (Nat.le_of_ble_eq_true rfl) (cH_lenE (Nat.le_refl _)) (cH_szE (Nat.le_refl _)) (fun X hX hF => ?_)
  refine ab_aload_n hX dX11_element_0 mm0 ?_
  refine ab_iload_n hX dX11_element_1 mm1 ?_
  skip
  ·
    refine ab_callV1r hX dX11_element_2 cg_x ss_X11_element_75 (sh_ok hG hM hj) (Nat.le_of_ble_eq_true rfl) ?_
    refine ab_astore_n hX dX11_element_5 rfl (by decide) rfl ?_
    refine ab_aload_n hX dX11_element_6 mm0 ?_
    refine ab_ifnonnull (tgt := 21) hX dX11_element_7 (by decide) ?_
    refine ab_aload_n hX dX11_element_21 mm0 ?_
    refine ab_callV0r hX dX11_element_22 (cg_sd hj) ss_X11_element_79 (cm_X9_refusalAsRow hG hM hj) (Nat.le_of_ble_eq_true rfl) ?_
    refine ab_ifeq (tgt := 39) hX dX11_element_25 (by decide) (fun h_1 => ?_) (fun h_1 => (by contradiction))
    refine ab_aload_n hX dX11_element_39 mm0 ?_
    refine ab_iload_n hX dX11_element_40 mm3 ?_
    refine ab_iconst (v := 1) hX dX11_element_41 (by decide) ?_
    refine ab_callV2r hX dX11_element_42 (cg_sd hj) ss_X11_element_364 (cm_X9_hasPlaces hG hM hj) (Nat.le_of_ble_eq_true rfl) ?_
    refine ab_ifneB (tgt := 59) hX dX11_element_45 (by decide) (fun h_2 => ?_) (fun h_2 => (by rw [hp] at h_2; cases h_2))
    refine ab_aload_n hX dX11_element_59 mm0 ?_
    refine ab_iload_n hX dX11_element_60 mm3 ?_
    refine ab_callV1r hX dX11_element_61 (cg_sd hj) ss_X11_element_314 (cm_X9_numberAt hG hM hj) (Nat.le_of_ble_eq_true rfl) ?_
    refine ab_i2l hX dX11_element_64 ?_
    exact ab_lreturn hX hF dX11_element_65 rfl (congrArg some (congrArg Value.long (by rfl))) (by rfl)
def eCell (f : Nat → Int64) : ab_E := .inl (1, 1, .inr (.inl f))
