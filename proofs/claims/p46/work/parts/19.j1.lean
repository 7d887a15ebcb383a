theorem cm_J3_checkIndex_8e157 {G : ab_G} (hG : ab_GG G) {h : List ab_E} {x n : Int32} {k N : Nat} (hx : x = nI k) (hn : n = nI N) (hk : k < N) (hN : N < 2147483648) : ab_CM G mJ3_checkIndex_8e157 [.int x, .int n, .null] h (some (.int x)) h := by
  refine ab_meth (l0 := [(0, .int x), (1, .int n), (2, .null)]) hG (by decide +kernel) rfl (Nat.le_of_ble_eq_true rfl) (Nat.le_refl _) (Nat.le_refl _) (fun X hX hF => ?_)
  refine ab_iload_n hX dJ3_checkIndex_8e157_0 mm0 ?_
  refine ab_iflt (tgt := 9) hX dJ3_checkIndex_8e157_1 (by decide) (fun h_1 => (by rw [hx] at h_1; exact absurd h_1 (nI_pos (by omega)))) (fun h_1 => ?_)
  refine ab_iload_n hX dJ3_checkIndex_8e157_4 mm0 ?_
  refine ab_iload_n hX dJ3_checkIndex_8e157_5 mm1 ?_
  refine ab_icmplt (tgt := 16) hX dJ3_checkIndex_8e157_6 (by decide) (fun h_2 => ?_) (fun h_2 => (by rw [hx, hn] at h_2; exact absurd ((nI_ltI (by omega) (by omega)).mpr hk) h_2))
  refine ab_iload_n hX dJ3_checkIndex_8e157_16 mm0 ?_
  exact ab_ireturn hX hF dJ3_checkIndex_8e157_17 rfl (by rfl) (congrArg some (congrArg Value.int (by rfl))) (by rfl)
theorem cm_J15_checkIndex_7cf53 {G : ab_G} (hG : ab_GG G) {h : List ab_E} {x n : Int32} {k N : Nat} (hx : x = nI k) (hn : n = nI N) (hk : k < N) (hN : N < 2147483648) : ab_CM G mJ15_checkIndex_7cf53 [.int x, .int n] h (some (.int x)) h := by
  refine ab_meth (l0 := [(0, .int x), (1, .int n)]) hG (by decide +kernel) rfl (Nat.le_of_ble_eq_true rfl) (Nat.le_refl _) (Nat.le_refl _) (fun X hX hF => ?_)
  refine ab_iload_n hX dJ15_checkIndex_7cf53_0 mm0 ?_
  refine ab_iload_n hX dJ15_checkIndex_7cf53_1 mm1 ?_
  refine ab_null hX dJ15_checkIndex_7cf53_2 ?_
  refine ab_callS3r hX dJ15_checkIndex_7cf53_3 ss_J15_checkIndex_7cf53_105 (cm_J3_checkIndex_8e157 hG hx hn hk hN) (Nat.le_of_ble_eq_true rfl) ?_
  exact ab_ireturn hX hF dJ15_checkIndex_7cf53_6 rfl (by rfl) (congrArg some (congrArg Value.int (by rfl))) (by rfl)
theorem cm_Jx4a65c_size_8abf5 {G : ab_G} (hG : ab_GG G) {h : List ab_E} {b : Nat} {m n : Int32} {v : Value} (hb : h[b]? = some (.inr (0, [.int m, v, .int n]))) : ab_CM G mJx4a65c_size_8abf5 [.ref b] h (some (.int n)) h := by
  refine ab_meth (l0 := [(0, .ref b)]) hG (by decide +kernel) rfl (Nat.le_of_ble_eq_true rfl) (Nat.le_refl _) (Nat.le_refl _) (fun X hX hF => ?_)
  refine ab_aload_n hX dJx4a65c_size_8abf5_0 mm0 ?_
  refine ab_getfield hX dJx4a65c_size_8abf5_1 (fs_Jx4a65c_48_0 rfl) hb rfl ?_
  exact ab_ireturn hX hF dJx4a65c_size_8abf5_4 rfl (by rfl) (congrArg some (congrArg Value.int (by rfl))) (by rfl)
theorem cm_Jx4a65c_elementData_915e3 {G : ab_G} (hG : ab_GG G) {h : List ab_E} {b e : Nat} {m n : Int32} {f : Nat → Option Nat} (hb : h[b]? = some (.inr (0, [.int m, .ref e, .int n]))) (he : h[e]? = some (.inl (2, 10, .inr (.inr (.inr (.inr f)))))) {x : Int32} {k r : Nat} (hx : x = nI k) (hk : k < 10) (hf : f k = some r) : ab_CM G mJx4a65c_elementData_915e3 [.ref b, .int x] h (some (.ref r)) h := by
  refine ab_meth (l0 := [(0, .ref b), (1, .int x)]) hG (by decide +kernel) rfl (Nat.le_of_ble_eq_true rfl) (Nat.le_refl _) (Nat.le_refl _) (fun X hX hF => ?_)
  refine ab_aload_n hX dJx4a65c_elementData_915e3_0 mm0 ?_
  refine ab_getfield hX dJx4a65c_elementData_915e3_1 (fs_Jx4a65c_9_0 rfl) hb rfl ?_
  refine ab_iload_n hX dJx4a65c_elementData_915e3_4 mm1 ?_
  refine ab_aaload hX (Or.inl rfl) dJx4a65c_elementData_915e3_5 he (by rw [hx]; exact vp_in_nI hk (by decide)) (by rw [hx, nI_clamp (by omega), hf]) ?_
  exact ab_areturn hX hF dJx4a65c_elementData_915e3_6 rfl (Or.inl ⟨_, rfl⟩) (Or.inr (Or.inl ⟨_, rfl⟩)) (by rfl) (by rfl)
theorem cm_Jx4a65c_get_915e3 {G : ab_G} (hG : ab_GG G) {h : List ab_E} {b e : Nat} {m n : Int32} {f : Nat → Option Nat} (hb : h[b]? = some (.inr (0, [.int m, .ref e, .int n]))) (he : h[e]? = some (.inl (2, 10, .inr (.inr (.inr (.inr f)))))) {x : Int32} {k r N : Nat} (hx : x = nI k) (hn : n = nI N) (hkN : k < N) (hN : N ≤ 10) (hf : f k = some r) : ab_CM G mJx4a65c_get_915e3 [.ref b, .int x] h (some (.ref r)) (h) := by
  refine ab_meth (l0 := [(0, .ref b), (1, .int x)]) hG (by decide +kernel) rfl (Nat.le_of_ble_eq_true rfl) (Nat.le_refl _) (Nat.le_refl _) (fun X hX hF => ?_)
  refine ab_iload_n hX dJx4a65c_get_915e3_0 mm1 ?_
  refine ab_aload_n hX dJx4a65c_get_915e3_1 mm0 ?_
  refine ab_getfield hX dJx4a65c_get_915e3_2 (fs_Jx4a65c_48_0 rfl) hb rfl ?_
  refine ab_callS2r hX dJx4a65c_get_915e3_5 ss_Jx4a65c_get_915e3_118 (cm_J15_checkIndex_7cf53 hG hx hn hkN (by omega)) (Nat.le_of_ble_eq_true rfl) ?_
  refine ab_pop hX dJx4a65c_get_915e3_8 rfl ?_
  refine ab_aload_n hX dJx4a65c_get_915e3_9 mm0 ?_
  refine ab_iload_n hX dJx4a65c_get_915e3_10 mm1 ?_
  refine ab_callV1r hX dJx4a65c_get_915e3_11 hb ss_Jx4a65c_get_915e3_123 (cm_Jx4a65c_elementData_915e3 hG hb he hx (by omega) hf) (Nat.le_of_ble_eq_true rfl) ?_
  exact ab_areturn hX hF dJx4a65c_get_915e3_14 rfl (Or.inl ⟨_, rfl⟩) (Or.inr (Or.inl ⟨_, rfl⟩)) rfl rfl
theorem gl_2 {h : List ab_E} {b e : Nat} {x y : ab_E} : h.length ≤ ((h.set e y).set b x).length := by rw [List.length_set, List.length_set]; exact Nat.le_refl _
theorem gz_2 {h : List ab_E} {b e : Nat} {ce cb y z : ab_E} (he : h[e]? = some ce) (hb : (h.set e y)[b]? = some cb) (e1 : ab_szE y = ab_szE ce) (e2 : ab_szE z = ab_szE cb) : ab_sz h ≤ ab_sz ((h.set e y).set b z) := by rw [ab_sz_set hb e2, ab_sz_set he e1]; exact Nat.le_refl _
theorem gl_3 {h : List ab_E} {b : Nat} {x y : ab_E} : h.length ≤ ((h ++ [x]).set b y).length := by rw [List.length_set, List.length_append]; omega
theorem gz_3 {h : List ab_E} {b : Nat} {c x z : ab_E} (hb : h[b]? = some c) (e : ab_szE z = ab_szE c) : ab_sz h ≤ ab_sz ((h ++ [x]).set b z) := by rw [ab_sz_set (ga_o hb) e, ab_sz_app]; omega
theorem set3 {h : List ab_E} {b e : Nat} {x y z : ab_E} (hne : b ≠ e) : ((h.set b x).set e y).set b z = (h.set e y).set b z := by
  rw [List.set_comm _ _ hne, List.set_set]
def clF (f : Nat → Option Nat) : Nat → (Nat → Option Nat)
  | 0 => f
  | n + 1 => va_up (clF f n) n none
theorem al_put {G : ab_G} (hG : ab_GG G) {h : List ab_E} {b e n : Nat} {m : Int32} {f : Nat → Option Nat} (hb : h[b]? = some (.inr (0, [.int m, .ref e, .int (nI n)]))) (he : h[e]? = some (.inl (2, 10, .inr (.inr (.inr (.inr f)))))) (hn : n < 10) {r ci : Nat} {vs : List Value} {q : vw_C} (hr : h[r]? = some (.inr (ci, vs))) (hq : ab_cls[ci]? = some q) (hw : Cond.castable q.1 "java/lang/Object" ∈ ab_Tn) (hne : b ≠ e) : ab_CM G mJx4a65c_add_72be8 [.ref b, .ref r, .ref e, .int (nI n)] h none ((h.set e ((.inl (2, 10, .inr (.inr (.inr (.inr (va_up f n (some r)))))) : ab_E))).set b ((.inr (0, [.int (m), .ref e, .int (nI (n + 1))]) : ab_E))) := by
  refine ab_meth (l0 := [(0, .ref b), (1, .ref r), (2, .ref e), (3, .int (nI n))]) hG (by decide +kernel) rfl (Nat.le_of_ble_eq_true rfl) gl_2 (gz_2 he (gs_n hne.symm hb) rfl rfl) (fun X hX hF => ?_)
  refine ab_iload_n hX dJx4a65c_add_72be8_0 mm3 ?_
  refine ab_aload_n hX dJx4a65c_add_72be8_1 mm2 ?_
  refine ab_alen hX dJx4a65c_add_72be8_2 he (by decide) rfl ?_
  refine ab_icmpne (tgt := 11) hX dJx4a65c_add_72be8_3 (by decide) (fun h_1 => ?_) (fun h_1 => (by exact absurd ((nI_eq (a := n) (b := 10) (by omega) (by decide)).mp h_1) (by omega)))
  refine ab_aload_n hX dJx4a65c_add_72be8_11 mm2 ?_
  refine ab_iload_n hX dJx4a65c_add_72be8_12 mm3 ?_
  refine ab_aload_n hX dJx4a65c_add_72be8_13 mm1 ?_
  refine ab_aastore hX dJx4a65c_add_72be8_14 (Or.inl ⟨rfl, hw⟩) he (vp_in_nI hn (by decide)) hr hq (by rw [nI_clamp (by omega)]) ?_
  refine ab_aload_n hX dJx4a65c_add_72be8_15 mm0 ?_
  refine ab_iload_n hX dJx4a65c_add_72be8_16 mm3 ?_
  refine ab_iconst (v := 1) hX dJx4a65c_add_72be8_17 (by decide) ?_
  refine ab_iadd hX dJx4a65c_add_72be8_18 ?_
  refine ab_putfield hX dJx4a65c_add_72be8_19 ps_Jx4a65c_add_72be8_48_0 (gs_n hne.symm hb) (Nat.le_of_ble_eq_true rfl) rfl rfl rfl ?_
  exact ab_vreturn hX hF dJx4a65c_add_72be8_22 rfl rfl (by rw [nI_1]; rfl)
theorem ps_AL : ab_ps mJxc12de_init_da8c8 7 0 0 .int := ⟨_, _, _, "java/util/AbstractList", tyJx4a65c, rfl, by decide, zf_Jx4a65c, tyJx4a65c_ok, nmJx4a65c, rfl, Or.inl rfl, Or.inl ⟨tw_70, Or.inl rfl⟩⟩
theorem al_grow {G : ab_G} (hG : ab_GG G) {h : List ab_E} {b : Nat} {m : Int32} (hb : h[b]? = some (.inr (0, [.int m, .float 0, .int 0]))) : ab_CM G mJx4a65c_grow_92f84 [.ref b, .int 1] h (some (.ref h.length)) ((h ++ [(.inl (2, 10, .inr (.inr (.inr (.inr (fun _ => none))))) : ab_E)]).set b ((.inr (0, [.int (m), .ref h.length, .int (0)]) : ab_E))) := by
  refine ab_meth (l0 := [(0, .ref b), (1, .int 1)]) hG (by decide +kernel) rfl (Nat.le_of_ble_eq_true rfl) gl_3 (gz_3 hb rfl) (fun X hX hF => ?_)
  refine ab_aload_n hX dJx4a65c_grow_92f84_0 mm0 ?_
  refine ab_getfield hX dJx4a65c_grow_92f84_1 (fs_Jx4a65c_9_0 rfl) hb rfl ?_
  refine ab_elen hX dJx4a65c_grow_92f84_4 ?_
  refine ab_istore_n hX dJx4a65c_grow_92f84_5 rfl (by decide) rfl ?_
  refine ab_iload_n hX dJx4a65c_grow_92f84_6 mm0 ?_
  refine ab_ifgt (tgt := 20) hX dJx4a65c_grow_92f84_7 (by decide) (fun h_1 => (by exact absurd h_1 (by decide))) (fun h_1 => ?_)
  refine ab_aload_n hX dJx4a65c_grow_92f84_10 mm1 ?_
  refine ab_getfield hX dJx4a65c_grow_92f84_11 (fs_Jx4a65c_9_0 rfl) hb rfl ?_
  refine ab_getstatic 0 (by decide) hX dJx4a65c_grow_92f84_14 tw_67 (fun hg => hg.2.2.1) ?_
  refine ab_acmpeqT (tgt := 45) hX dJx4a65c_grow_92f84_17 (by decide) rfl ?_
  refine ab_aload_n hX dJx4a65c_grow_92f84_45 mm1 ?_
  refine ab_bipush (v := 10) hX dJx4a65c_grow_92f84_46 (by decide) ?_
  refine ab_iload_n hX dJx4a65c_grow_92f84_48 mm2 ?_
  refine ab_mmax hX dJx4a65c_grow_92f84_49 tw_169 (by decide) (Nat.le_of_ble_eq_true rfl) ?_
  refine ab_anew (N := 10) hX dJx4a65c_grow_92f84_52 (Or.inl ⟨rfl, rfl⟩) tw_170 tw_162 (by decide) (by decide) (by decide) ?_
  refine ab_dup_x1 hX dJx4a65c_grow_92f84_55 rfl rfl ?_
  refine ab_putfield hX dJx4a65c_grow_92f84_56 ps_Jx4a65c_grow_92f84_9_0 (ga_o hb) (Nat.le_of_ble_eq_true rfl) rfl rfl rfl ?_
  exact ab_areturn hX hF dJx4a65c_grow_92f84_59 rfl (Or.inr ⟨_, rfl⟩) (Or.inr (Or.inl ⟨_, rfl⟩)) rfl rfl
theorem al_grow0 {G : ab_G} (hG : ab_GG G) {h : List ab_E} {b : Nat} {m : Int32} (hb : h[b]? = some (.inr (0, [.int m, .float 0, .int 0]))) : ab_CM G mJx4a65c_grow_d5877 [.ref b] h (some (.ref h.length)) ((h ++ [(.inl (2, 10, .inr (.inr (.inr (.inr (fun _ => none))))) : ab_E)]).set b ((.inr (0, [.int (m), .ref h.length, .int (0)]) : ab_E))) := by
  refine ab_meth (l0 := [(0, .ref b)]) hG (by decide +kernel) rfl (Nat.le_of_ble_eq_true rfl) gl_3 (gz_3 hb rfl) (fun X hX hF => ?_)
  refine ab_aload_n hX dJx4a65c_grow_d5877_0 mm0 ?_
  refine ab_aload_n hX dJx4a65c_grow_d5877_1 mm0 ?_
  refine ab_getfield hX dJx4a65c_grow_d5877_2 (fs_Jx4a65c_48_0 rfl) hb rfl ?_
  refine ab_iconst (v := 1) hX dJx4a65c_grow_d5877_5 (by decide) ?_
  refine ab_iadd hX dJx4a65c_grow_d5877_6 ?_
  refine ab_callV1r hX dJx4a65c_grow_d5877_7 hb ss_Jx4a65c_grow_d5877_69 (al_grow hG hb) (Nat.le_of_ble_eq_true rfl) ?_
  exact ab_areturn hX hF dJx4a65c_grow_d5877_10 rfl (Or.inr ⟨_, rfl⟩) (Or.inr (Or.inl ⟨_, rfl⟩)) rfl rfl
theorem set_new {h : List ab_E} {x y : ab_E} : (h ++ [x]).set h.length y = h ++ [y] := by
  rw [List.set_append_right _ _ (Nat.le_refl _), Nat.sub_self]
  rfl
theorem gb_ne {h : List ab_E} {b : Nat} {c : ab_E} (hb : h[b]? = some c) : b ≠ h.length := by
  have := (List.getElem?_eq_some_iff.mp hb).1
  omega
theorem al_put0 {G : ab_G} (hG : ab_GG G) {h : List ab_E} {b : Nat} {m : Int32} (hb : h[b]? = some (.inr (0, [.int m, .float 0, .int 0]))) {r ci : Nat} {vs : List Value} {q : vw_C} (hr : h[r]? = some (.inr (ci, vs))) (hq : ab_cls[ci]? = some q) (hw : Cond.castable q.1 "java/lang/Object" ∈ ab_Tn) (hbr : b ≠ r) : ab_CM G mJx4a65c_add_72be8 [.ref b, .ref r, .float 0, .int 0] h none ((h ++ [(.inl (2, 10, .inr (.inr (.inr (.inr (va_up (fun _ => none) 0 (some r)))))) : ab_E)]).set b ((.inr (0, [.int (m), .ref h.length, .int (1)]) : ab_E))) := by
  refine ab_meth (l0 := [(0, .ref b), (1, .ref r), (2, .float 0), (3, .int 0)]) hG (by decide +kernel) rfl (Nat.le_of_ble_eq_true rfl) gl_3 (gz_3 hb rfl) (fun X hX hF => ?_)
  refine ab_iload_n hX dJx4a65c_add_72be8_0 mm3 ?_
  refine ab_aload_nS hX dJx4a65c_add_72be8_1 mm2 ?_
  refine ab_elen hX dJx4a65c_add_72be8_2 ?_
  refine ab_icmpne (tgt := 11) hX dJx4a65c_add_72be8_3 (by decide) (fun h_1 => (by exact absurd rfl h_1)) (fun h_1 => ?_)
  refine ab_aload_n hX dJx4a65c_add_72be8_6 mm0 ?_
  refine ab_callV0r hX dJx4a65c_add_72be8_7 hb ss_Jx4a65c_add_72be8_129 (al_grow0 hG hb) (Nat.le_of_ble_eq_true rfl) ?_
  refine ab_astore_n hX dJx4a65c_add_72be8_10 rfl (by decide) rfl ?_
  refine ab_aload_n hX dJx4a65c_add_72be8_11 mm0 ?_
  refine ab_iload_n hX dJx4a65c_add_72be8_12 mm3 ?_
  refine ab_aload_n hX dJx4a65c_add_72be8_13 mm2 ?_
  refine ab_aastore hX dJx4a65c_add_72be8_14 (Or.inl ⟨rfl, hw⟩) (gs_n (gb_ne hb) ga_n) (vp_in_nI (n := 0) (N := 10) (by decide) (by decide)) (gs_n hbr (ga_o hr)) hq rfl ?_
  refine ab_aload_n hX dJx4a65c_add_72be8_15 mm1 ?_
  refine ab_iload_n hX dJx4a65c_add_72be8_16 mm3 ?_
  refine ab_iconst (v := 1) hX dJx4a65c_add_72be8_17 (by decide) ?_
  refine ab_iadd hX dJx4a65c_add_72be8_18 ?_
  refine ab_putfield hX dJx4a65c_add_72be8_19 ps_Jx4a65c_add_72be8_48_0 (gs_n (gb_ne hb).symm (gs_s (ga_o hb))) (Nat.le_of_ble_eq_true rfl) rfl rfl rfl ?_
  exact ab_vreturn hX hF dJx4a65c_add_72be8_22 rfl rfl (by rw [set3 (gb_ne hb)]; exact congrArg (fun z => List.set z b _) set_new)
theorem al_add {G : ab_G} (hG : ab_GG G) {h : List ab_E} {b e n : Nat} {m : Int32} {f : Nat → Option Nat} (hb : h[b]? = some (.inr (0, [.int m, .ref e, .int (nI n)]))) (he : h[e]? = some (.inl (2, 10, .inr (.inr (.inr (.inr f)))))) (hn : n < 10) {r ci : Nat} {vs : List Value} {q : vw_C} (hr : h[r]? = some (.inr (ci, vs))) (hq : ab_cls[ci]? = some q) (hw : Cond.castable q.1 "java/lang/Object" ∈ ab_Tn) (hne : b ≠ e) (hbr : b ≠ r) : ab_CM G mJx4a65c_add_9ea2d [.ref b, .ref r] h (some (.int 1)) ((h.set e ((.inl (2, 10, .inr (.inr (.inr (.inr (va_up f n (some r)))))) : ab_E))).set b ((.inr (0, [.int (m + 1), .ref e, .int (nI (n + 1))]) : ab_E))) := by
  refine ab_meth (l0 := [(0, .ref b), (1, .ref r)]) hG (by decide +kernel) rfl (Nat.le_of_ble_eq_true rfl) gl_2 (gz_2 he (gs_n hne.symm hb) rfl rfl) (fun X hX hF => ?_)
  refine ab_aload_n hX dJx4a65c_add_9ea2d_0 mm0 ?_
  refine ab_dup hX dJx4a65c_add_9ea2d_1 rfl ?_
  refine ab_getfield hX dJx4a65c_add_9ea2d_2 (fs_Jx4a65c_63_0 rfl) hb rfl ?_
  refine ab_iconst (v := 1) hX dJx4a65c_add_9ea2d_5 (by decide) ?_
  refine ab_iadd hX dJx4a65c_add_9ea2d_6 ?_
  refine ab_putfield hX dJx4a65c_add_9ea2d_7 ps_Jx4a65c_add_9ea2d_63_0 hb (Nat.le_of_ble_eq_true rfl) rfl rfl rfl ?_
  refine ab_aload_n hX dJx4a65c_add_9ea2d_10 mm0 ?_
  refine ab_aload_n hX dJx4a65c_add_9ea2d_11 mm1 ?_
  refine ab_aload_n hX dJx4a65c_add_9ea2d_12 mm0 ?_
  refine ab_getfield hX dJx4a65c_add_9ea2d_13 (fs_Jx4a65c_9_0 rfl) (gs_s hb) rfl ?_
  refine ab_aload_n hX dJx4a65c_add_9ea2d_16 mm0 ?_
  refine ab_getfield hX dJx4a65c_add_9ea2d_17 (fs_Jx4a65c_48_0 rfl) (gs_s hb) rfl ?_
  refine ab_callV3v hX dJx4a65c_add_9ea2d_20 (gs_s hb) ss_Jx4a65c_add_9ea2d_131 (al_put hG (m := m + 1) (gs_s hb) (gs_n hne he) hn (gs_n hbr hr) hq hw hne) (Nat.le_of_ble_eq_true rfl) ?_
  refine ab_iconst (v := 1) hX dJx4a65c_add_9ea2d_23 (by decide) ?_
  exact ab_ireturn hX hF dJx4a65c_add_9ea2d_24 rfl (by rfl) (congrArg some (congrArg Value.int (by rfl))) (by rw [set3 hne])
theorem al_add0 {G : ab_G} (hG : ab_GG G) {h : List ab_E} {b : Nat} {m : Int32} (hb : h[b]? = some (.inr (0, [.int m, .float 0, .int 0]))) {r ci : Nat} {vs : List Value} {q : vw_C} (hr : h[r]? = some (.inr (ci, vs))) (hq : ab_cls[ci]? = some q) (hw : Cond.castable q.1 "java/lang/Object" ∈ ab_Tn) (hbr : b ≠ r) : ab_CM G mJx4a65c_add_9ea2d [.ref b, .ref r] h (some (.int 1)) ((h ++ [(.inl (2, 10, .inr (.inr (.inr (.inr (va_up (fun _ => none) 0 (some r)))))) : ab_E)]).set b ((.inr (0, [.int (m + 1), .ref h.length, .int (1)]) : ab_E))) := by
  refine ab_meth (l0 := [(0, .ref b), (1, .ref r)]) hG (by decide +kernel) rfl (Nat.le_of_ble_eq_true rfl) gl_3 (gz_3 hb rfl) (fun X hX hF => ?_)
  refine ab_aload_n hX dJx4a65c_add_9ea2d_0 mm0 ?_
  refine ab_dup hX dJx4a65c_add_9ea2d_1 rfl ?_
  refine ab_getfield hX dJx4a65c_add_9ea2d_2 (fs_Jx4a65c_63_0 rfl) hb rfl ?_
  refine ab_iconst (v := 1) hX dJx4a65c_add_9ea2d_5 (by decide) ?_
  refine ab_iadd hX dJx4a65c_add_9ea2d_6 ?_
  refine ab_putfield hX dJx4a65c_add_9ea2d_7 ps_Jx4a65c_add_9ea2d_63_0 hb (Nat.le_of_ble_eq_true rfl) rfl rfl rfl ?_
  refine ab_aload_n hX dJx4a65c_add_9ea2d_10 mm0 ?_
  refine ab_aload_n hX dJx4a65c_add_9ea2d_11 mm1 ?_
  refine ab_aload_n hX dJx4a65c_add_9ea2d_12 mm0 ?_
  refine ab_getfield hX dJx4a65c_add_9ea2d_13 (fs_Jx4a65c_9_0 rfl) (gs_s hb) rfl ?_
  refine ab_aload_n hX dJx4a65c_add_9ea2d_16 mm0 ?_
  refine ab_getfield hX dJx4a65c_add_9ea2d_17 (fs_Jx4a65c_48_0 rfl) (gs_s hb) rfl ?_
  refine ab_callV3v hX dJx4a65c_add_9ea2d_20 (gs_s hb) ss_Jx4a65c_add_9ea2d_131 (al_put0 hG (m := m + 1) (gs_s hb) (gs_n hbr hr) hq hw hbr) (Nat.le_of_ble_eq_true rfl) ?_
  refine ab_iconst (v := 1) hX dJx4a65c_add_9ea2d_23 (by decide) ?_
  exact ab_ireturn hX hF dJx4a65c_add_9ea2d_24 rfl (by rfl) (congrArg some (congrArg Value.int (by rfl))) (by
      rw [List.length_set, List.set_append_left _ _ (by rw [List.length_set]; exact (List.getElem?_eq_some_iff.mp hb).1), List.set_set, List.set_append_left _ _ (List.getElem?_eq_some_iff.mp hb).1])
theorem al_fast {G : ab_G} (hG : ab_GG G) {h : List ab_E} {b e n : Nat} {m : Int32} {f : Nat → Option Nat} (hb : h[b]? = some (.inr (0, [.int m, .ref e, .int (nI (n + 1))]))) (he : h[e]? = some (.inl (2, 10, .inr (.inr (.inr (.inr f)))))) (hn : n < 10) (hne : b ≠ e) : ab_CM G mJx4a65c_fastRemove_b59b0 [.ref b, .ref e, .int (nI n)] h none ((h.set b ((.inr (0, [.int (m + 1), .ref e, .int (nI n)]) : ab_E))).set e ((.inl (2, 10, .inr (.inr (.inr (.inr (va_up f n none))))) : ab_E))) := by
  refine ab_meth (l0 := [(0, .ref b), (1, .ref e), (2, .int (nI n))]) hG (by decide +kernel) rfl (Nat.le_of_ble_eq_true rfl) gl_2 (gz_2 hb (gs_n hne he) rfl rfl) (fun X hX hF => ?_)
  refine ab_aload_n hX dJx4a65c_fastRemove_b59b0_0 mm0 ?_
  refine ab_dup hX dJx4a65c_fastRemove_b59b0_1 rfl ?_
  refine ab_getfield hX dJx4a65c_fastRemove_b59b0_2 (fs_Jx4a65c_63_0 rfl) hb rfl ?_
  refine ab_iconst (v := 1) hX dJx4a65c_fastRemove_b59b0_5 (by decide) ?_
  refine ab_iadd hX dJx4a65c_fastRemove_b59b0_6 ?_
  refine ab_putfield hX dJx4a65c_fastRemove_b59b0_7 ps_Jx4a65c_fastRemove_b59b0_63_0 hb (Nat.le_of_ble_eq_true rfl) rfl rfl rfl ?_
  refine ab_aload_n hX dJx4a65c_fastRemove_b59b0_10 mm0 ?_
  refine ab_getfield hX dJx4a65c_fastRemove_b59b0_11 (fs_Jx4a65c_48_0 rfl) (gs_s hb) rfl ?_
  refine ab_iconst (v := 1) hX dJx4a65c_fastRemove_b59b0_14 (by decide) ?_
  refine ab_isub hX dJx4a65c_fastRemove_b59b0_15 ?_
  refine ab_dup hX dJx4a65c_fastRemove_b59b0_16 rfl ?_
  refine ab_istore_n hX dJx4a65c_fastRemove_b59b0_17 rfl (by decide) rfl ?_
  refine ab_iload_n hX dJx4a65c_fastRemove_b59b0_18 mm3 ?_
  refine ab_icmple (tgt := 34) hX dJx4a65c_fastRemove_b59b0_19 (by decide) (fun h_1 => ?_) (fun h_1 => (by rw [nI_pred] at h_1; exact absurd (Int32.le_refl _) h_1))
  refine ab_aload_n hX dJx4a65c_fastRemove_b59b0_34 mm2 ?_
  refine ab_aload_n hX dJx4a65c_fastRemove_b59b0_35 mm1 ?_
  refine ab_iload_n hX dJx4a65c_fastRemove_b59b0_36 mm0 ?_
  refine ab_dup_x1 hX dJx4a65c_fastRemove_b59b0_37 rfl rfl ?_
  refine ab_putfield hX dJx4a65c_fastRemove_b59b0_38 ps_Jx4a65c_fastRemove_b59b0_48_0 (gs_s hb) (Nat.le_of_ble_eq_true rfl) rfl rfl rfl ?_
  refine ab_null hX dJx4a65c_fastRemove_b59b0_41 ?_
  refine ab_aastoreN hX dJx4a65c_fastRemove_b59b0_42 (gs_n hne (gs_n hne he)) (by rw [nI_pred]; exact vp_in_nI hn (by decide)) rfl ?_
  exact ab_vreturn hX hF dJx4a65c_fastRemove_b59b0_43 rfl rfl (by rw [List.set_set, nI_pred, nI_clamp (by omega)]; rfl)
theorem al_remove {G : ab_G} (hG : ab_GG G) {h : List ab_E} {b e n : Nat} {m : Int32} {f : Nat → Option Nat} (hb : h[b]? = some (.inr (0, [.int m, .ref e, .int (nI (n + 1))]))) (he : h[e]? = some (.inl (2, 10, .inr (.inr (.inr (.inr f)))))) (hn : n < 10) (hne : b ≠ e) {r : Nat} (hf : f n = some r) : ab_CM G mJx4a65c_remove_915e3 [.ref b, .int (nI n)] h (some (.ref r)) ((h.set b ((.inr (0, [.int (m + 1), .ref e, .int (nI n)]) : ab_E))).set e ((.inl (2, 10, .inr (.inr (.inr (.inr (va_up f n none))))) : ab_E))) := by
  refine ab_meth (l0 := [(0, .ref b), (1, .int (nI n))]) hG (by decide +kernel) rfl (Nat.le_of_ble_eq_true rfl) gl_2 (gz_2 hb (gs_n hne he) rfl rfl) (fun X hX hF => ?_)
  refine ab_iload_n hX dJx4a65c_remove_915e3_0 mm1 ?_
  refine ab_aload_n hX dJx4a65c_remove_915e3_1 mm0 ?_
  refine ab_getfield hX dJx4a65c_remove_915e3_2 (fs_Jx4a65c_48_0 rfl) hb rfl ?_
  refine ab_callS2r hX dJx4a65c_remove_915e3_5 ss_Jx4a65c_remove_915e3_118 (cm_J15_checkIndex_7cf53 hG (k := n) (N := n + 1) rfl rfl (by omega) (by omega)) (Nat.le_of_ble_eq_true rfl) ?_
  refine ab_pop hX dJx4a65c_remove_915e3_8 rfl ?_
  refine ab_aload_n hX dJx4a65c_remove_915e3_9 mm0 ?_
  refine ab_getfield hX dJx4a65c_remove_915e3_10 (fs_Jx4a65c_9_0 rfl) hb rfl ?_
  refine ab_astore_n hX dJx4a65c_remove_915e3_13 rfl (by decide) rfl ?_
  refine ab_aload_n hX dJx4a65c_remove_915e3_14 mm0 ?_
  refine ab_iload_n hX dJx4a65c_remove_915e3_15 mm2 ?_
  refine ab_aaload hX (Or.inl rfl) dJx4a65c_remove_915e3_16 he (vp_in_nI hn (by decide)) (by rw [nI_clamp (by omega), hf]) ?_
  refine ab_astore_n hX dJx4a65c_remove_915e3_17 rfl (by decide) rfl ?_
  refine ab_aload_n hX dJx4a65c_remove_915e3_18 mm2 ?_
  refine ab_aload_n hX dJx4a65c_remove_915e3_19 mm1 ?_
  refine ab_iload_n hX dJx4a65c_remove_915e3_20 mm3 ?_
  refine ab_callV2v hX dJx4a65c_remove_915e3_21 hb ss_Jx4a65c_remove_915e3_144 (al_fast hG hb he hn hne) (Nat.le_of_ble_eq_true rfl) ?_
  refine ab_aload_n hX dJx4a65c_remove_915e3_24 mm0 ?_
  exact ab_areturn hX hF dJx4a65c_remove_915e3_25 rfl (Or.inl ⟨_, rfl⟩) (Or.inr (Or.inl ⟨_, rfl⟩)) rfl rfl
theorem List.set_getElem?_self' {h : List ab_E} {e : Nat} {c : ab_E} (he : h[e]? = some c) : h.set e c = h := by
  apply List.ext_getElem?
  intro i
  rw [List.getElem?_set]
  by_cases q : e = i
  · subst q
    rw [if_pos rfl, he]
    exact if_pos (List.getElem?_eq_some_iff.mp he).1
  · rw [if_neg q]
theorem al_clear {G : ab_G} (hG : ab_GG G) {h : List ab_E} {b e n : Nat} {m : Int32} {f : Nat → Option Nat} (hb : h[b]? = some (.inr (0, [.int m, .ref e, .int (nI n)]))) (he : h[e]? = some (.inl (2, 10, .inr (.inr (.inr (.inr f)))))) (hn : n ≤ 10) (hne : b ≠ e) : ab_CM G mJx4a65c_clear_da8c8 [.ref b] h none ((h.set b ((.inr (0, [.int (m + 1), .ref e, .int (0)]) : ab_E))).set e ((.inl (2, 10, .inr (.inr (.inr (.inr (clF f n))))) : ab_E))) := by
  refine ab_meth (l0 := [(0, .ref b)]) hG (by decide +kernel) rfl (Nat.le_of_ble_eq_true rfl) gl_2 (gz_2 hb (gs_n hne he) rfl rfl) (fun X hX hF => ?_)
  refine ab_aload_n hX dJx4a65c_clear_da8c8_0 mm0 ?_
  refine ab_dup hX dJx4a65c_clear_da8c8_1 rfl ?_
  refine ab_getfield hX dJx4a65c_clear_da8c8_2 (fs_Jx4a65c_63_0 rfl) hb rfl ?_
  refine ab_iconst (v := 1) hX dJx4a65c_clear_da8c8_5 (by decide) ?_
  refine ab_iadd hX dJx4a65c_clear_da8c8_6 ?_
  refine ab_putfield hX dJx4a65c_clear_da8c8_7 ps_Jx4a65c_clear_da8c8_63_0 hb (Nat.le_of_ble_eq_true rfl) rfl rfl rfl ?_
  refine ab_aload_n hX dJx4a65c_clear_da8c8_10 mm0 ?_
  refine ab_getfield hX dJx4a65c_clear_da8c8_11 (fs_Jx4a65c_9_0 rfl) (gs_s hb) rfl ?_
  refine ab_astore_n hX dJx4a65c_clear_da8c8_14 rfl (by decide) rfl ?_
  refine ab_aload_n hX dJx4a65c_clear_da8c8_15 mm1 ?_
  refine ab_getfield hX dJx4a65c_clear_da8c8_16 (fs_Jx4a65c_48_0 rfl) (gs_s hb) rfl ?_
  refine ab_istore_n hX dJx4a65c_clear_da8c8_19 rfl (by decide) rfl ?_
  refine ab_aload_n hX dJx4a65c_clear_da8c8_20 mm2 ?_
  refine ab_iconst (v := 0) hX dJx4a65c_clear_da8c8_21 (by decide) ?_
  refine ab_dup_x1 hX dJx4a65c_clear_da8c8_22 rfl rfl ?_
  refine ab_putfield hX dJx4a65c_clear_da8c8_23 ps_Jx4a65c_clear_da8c8_48_0 (gs_s hb) (Nat.le_of_ble_eq_true rfl) rfl rfl rfl ?_
  refine ab_istore_n hX dJx4a65c_clear_da8c8_26 rfl (by decide) rfl ?_
  have L27 : ∀ (k_ i : Nat), i ≤ n → k_ = n - i → ab_WA G mJx4a65c_clear_da8c8 X 27 [(0, .ref b), (1, .ref e), (2, .int (nI n)), (3, .int (nI i))] [] ((h.set b (.inr (0, [.int (m + 1), .ref e, .int 0]))).set e (.inl (2, 10, .inr (.inr (.inr (.inr (clF f i))))))) := by
    intro k_
    induction k_ with
    | zero =>
      intro i hi hk
      refine ab_iload_n hX dJx4a65c_clear_da8c8_27 mm3 ?_
      refine ab_iload_n hX dJx4a65c_clear_da8c8_28 mm2 ?_
      refine ab_icmpge (tgt := 42) hX dJx4a65c_clear_da8c8_29 (by decide) (fun h_1 => ?_) (fun h_1 => (by exact absurd (nI_le (by omega) (by omega)) h_1))
      obtain rfl : i = n := by omega
      exact ab_vreturn hX hF dJx4a65c_clear_da8c8_42 rfl rfl rfl
    | succ k ih =>
      intro i hi hk
      refine ab_iload_n hX dJx4a65c_clear_da8c8_27 mm3 ?_
      refine ab_iload_n hX dJx4a65c_clear_da8c8_28 mm2 ?_
      refine ab_icmpge (tgt := 42) hX dJx4a65c_clear_da8c8_29 (by decide) (fun h_1 => (by exact absurd ((nI_leI (by omega) (by omega)).mp h_1) (by omega))) (fun h_1 => ?_)
      refine ab_aload_n hX dJx4a65c_clear_da8c8_32 mm1 ?_
      refine ab_iload_n hX dJx4a65c_clear_da8c8_33 mm3 ?_
      refine ab_null hX dJx4a65c_clear_da8c8_34 ?_
      refine ab_aastoreN hX dJx4a65c_clear_da8c8_35 (gs_s (gs_n hne he)) (vp_in_nI (by omega) (by decide)) rfl ?_
      refine ab_iinc hX dJx4a65c_clear_da8c8_36 mm3 (nI_1 i) (by decide) rfl ?_
      refine ab_goto (tgt := 27) hX dJx4a65c_clear_da8c8_39 (by decide) ?_
      exact ab_pm4 mm1 mm2 mm3 mm0 (ab_hp (by rw [List.set_set, nI_clamp (by omega)]; rfl) (ih (i + 1) (by omega) (by omega)))
  exact ab_pm4 mm3 mm2 mm1 mm0 (ab_hp (by rw [List.set_set]; exact (List.set_getElem?_self' (gs_n hne he)).symm) (L27 n 0 (Nat.zero_le _) rfl))
theorem al_clear0 {G : ab_G} (hG : ab_GG G) {h : List ab_E} {b : Nat} {m : Int32} (hb : h[b]? = some (.inr (0, [.int m, .float 0, .int 0]))) : ab_CM G mJx4a65c_clear_da8c8 [.ref b] h none (h.set b ((.inr (0, [.int (m + 1), .float 0, .int (0)]) : ab_E))) := by
  refine ab_meth (l0 := [(0, .ref b)]) hG (by decide +kernel) rfl (Nat.le_of_ble_eq_true rfl) gl_s (gz_s hb rfl) (fun X hX hF => ?_)
  refine ab_aload_n hX dJx4a65c_clear_da8c8_0 mm0 ?_
  refine ab_dup hX dJx4a65c_clear_da8c8_1 rfl ?_
  refine ab_getfield hX dJx4a65c_clear_da8c8_2 (fs_Jx4a65c_63_0 rfl) hb rfl ?_
  refine ab_iconst (v := 1) hX dJx4a65c_clear_da8c8_5 (by decide) ?_
  refine ab_iadd hX dJx4a65c_clear_da8c8_6 ?_
  refine ab_putfield hX dJx4a65c_clear_da8c8_7 ps_Jx4a65c_clear_da8c8_63_0 hb (Nat.le_of_ble_eq_true rfl) rfl rfl rfl ?_
  refine ab_aload_n hX dJx4a65c_clear_da8c8_10 mm0 ?_
  refine ab_getfield hX dJx4a65c_clear_da8c8_11 (fs_Jx4a65c_9_0 rfl) (gs_s hb) rfl ?_
  refine ab_astore_nS hX dJx4a65c_clear_da8c8_14 rfl (by decide) rfl ?_
  refine ab_aload_n hX dJx4a65c_clear_da8c8_15 mm1 ?_
  refine ab_getfield hX dJx4a65c_clear_da8c8_16 (fs_Jx4a65c_48_0 rfl) (gs_s hb) rfl ?_
  refine ab_istore_n hX dJx4a65c_clear_da8c8_19 rfl (by decide) rfl ?_
  refine ab_aload_n hX dJx4a65c_clear_da8c8_20 mm2 ?_
  refine ab_iconst (v := 0) hX dJx4a65c_clear_da8c8_21 (by decide) ?_
  refine ab_dup_x1 hX dJx4a65c_clear_da8c8_22 rfl rfl ?_
  refine ab_putfield hX dJx4a65c_clear_da8c8_23 ps_Jx4a65c_clear_da8c8_48_0 (gs_s hb) (Nat.le_of_ble_eq_true rfl) rfl rfl rfl ?_
  refine ab_istore_n hX dJx4a65c_clear_da8c8_26 rfl (by decide) rfl ?_
  refine ab_iload_n hX dJx4a65c_clear_da8c8_27 mm0 ?_
  refine ab_iload_n hX dJx4a65c_clear_da8c8_28 mm1 ?_
  refine ab_icmpge (tgt := 42) hX dJx4a65c_clear_da8c8_29 (by decide) (fun h_1 => ?_) (fun h_1 => (by exact absurd (Int32.le_refl _) h_1))
  exact ab_vreturn hX hF dJx4a65c_clear_da8c8_42 rfl rfl (by rw [List.set_set]; rfl)
theorem al_i1 {G : ab_G} (hG : ab_GG G) {h : List ab_E} {b : Nat} : ab_CM G mJxa1e45_init_da8c8 [.ref b] h none (h) := by
  refine ab_meth (l0 := [(0, .ref b)]) hG (by decide +kernel) rfl (Nat.le_of_ble_eq_true rfl) (Nat.le_refl _) (Nat.le_refl _) (fun X hX hF => ?_)
  refine ab_aload_n hX dJxa1e45_init_da8c8_0 mm0 ?_
  refine ab_objInit hX dJxa1e45_init_da8c8_1 so_Jxa1e45_init_da8c8_1 (by decide) (Nat.le_of_ble_eq_true rfl) ?_
  exact ab_vreturn hX hF dJxa1e45_init_da8c8_4 rfl rfl rfl
theorem al_i2 {G : ab_G} (hG : ab_GG G) {h : List ab_E} {b : Nat} (hb : h[b]? = some (.inr (0, [.int 0, .null, .int 0]))) : ab_CM G mJxc12de_init_da8c8 [.ref b] h none (h) := by
  refine ab_meth (l0 := [(0, .ref b)]) hG (by decide +kernel) rfl (Nat.le_of_ble_eq_true rfl) (Nat.le_refl _) (Nat.le_refl _) (fun X hX hF => ?_)
  refine ab_aload_n hX dJxc12de_init_da8c8_0 mm0 ?_
  refine ab_callI0 hX dJxc12de_init_da8c8_1 ss_Jxc12de_init_da8c8_1 (al_i1 hG) (Nat.le_of_ble_eq_true rfl) ?_
  refine ab_aload_n hX dJxc12de_init_da8c8_4 mm0 ?_
  refine ab_iconst (v := 0) hX dJxc12de_init_da8c8_5 (by decide) ?_
  refine ab_putfield hX dJxc12de_init_da8c8_6 ps_AL hb (Nat.le_of_ble_eq_true rfl) rfl rfl (List.set_getElem?_self' hb) ?_
  exact ab_vreturn hX hF dJxc12de_init_da8c8_9 rfl rfl rfl
theorem al_init {G : ab_G} (hG : ab_GG G) {h : List ab_E} {b : Nat} (hb : h[b]? = some (.inr (0, [.int 0, .null, .int 0]))) : ab_CM G mJx4a65c_init_da8c8 [.ref b] h none (h.set b ((.inr (0, [.int (0), .float 0, .int (0)]) : ab_E))) := by
  refine ab_meth (l0 := [(0, .ref b)]) hG (by decide +kernel) rfl (Nat.le_of_ble_eq_true rfl) gl_s (gz_s hb rfl) (fun X hX hF => ?_)
  refine ab_aload_n hX dJx4a65c_init_da8c8_0 mm0 ?_
  refine ab_callI0 hX dJx4a65c_init_da8c8_1 ss_Jx4a65c_init_da8c8_1 (al_i2 hG hb) (Nat.le_of_ble_eq_true rfl) ?_
  refine ab_aload_n hX dJx4a65c_init_da8c8_4 mm0 ?_
  refine ab_getstatic 0 (by decide) hX dJx4a65c_init_da8c8_5 tw_67 (fun hg => hg.2.2.1) ?_
  refine ab_putfield hX dJx4a65c_init_da8c8_8 ps_Jx4a65c_init_da8c8_9_0 hb (Nat.le_of_ble_eq_true rfl) rfl rfl rfl ?_
  exact ab_vreturn hX hF dJx4a65c_init_da8c8_11 rfl rfl rfl

