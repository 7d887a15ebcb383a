/-- a heap of the class grows -/
def leD (D E : List ab_E) : Prop := D.length ≤ E.length ∧ ab_sz D ≤ ab_sz E
theorem le_rf (D : List ab_E) : leD D D := ⟨Nat.le_refl _, Nat.le_refl _⟩
theorem le_tr {D E F : List ab_E} (h : leD D E) (k : leD E F) : leD D F := ⟨Nat.le_trans h.1 k.1, Nat.le_trans h.2 k.2⟩
theorem le_app {D : List ab_E} {x : ab_E} : leD D (D ++ [x]) := ⟨by rw [List.length_append]; omega, by rw [ab_sz_app]; omega⟩
theorem le_set {D : List ab_E} {e : Nat} {x y : ab_E} (h : D[e]? = some y) (hs : ab_szE x = ab_szE y) : leD D (D.set e x) := ⟨by rw [List.length_set]; exact Nat.le_refl _, by rw [ab_sz_set h hs]; exact Nat.le_refl _⟩
theorem le_ad {c : CS} {D : List ab_E} {l n r : Nat} {q : Nat → SY} (hL : cL c D l n q) : leD D (adP l r (c, D)).2 := by
  obtain ⟨h1, h2, h3, h4⟩ := hL
  rcases h3 with ⟨h0, hv⟩ | ⟨e, f, hv, hD, hf⟩
  · rw [adP_0 hv]; exact le_app
  · rw [adP_1 hv hD h1 h2]; exact le_set hD rfl
theorem le_cl {c : CS} {D : List ab_E} {l n : Nat} {q : Nat → SY} (hL : cL c D l n q) : leD D (clP l (c, D)).2 := by
  obtain ⟨h1, h2, h3, h4⟩ := hL
  rcases h3 with ⟨h0, hv⟩ | ⟨e, f, hv, hD, hf⟩
  · rw [clP_0 hv]; exact le_rf _
  · rw [clP_1 hv hD h1 h2]; exact le_set hD rfl
theorem le_rm {c : CS} {D : List ab_E} {l n : Nat} {q : Nat → SY} (hL : cL c D l (n + 1) q) : leD D (rmP l (c, D)).2 := by
  obtain ⟨h1, h2, h3, h4⟩ := hL
  rcases h3 with ⟨h0, hv⟩ | ⟨e, f, hv, hD, hf⟩
  · omega
  · rw [rmP_1 hv hD h1 (by omega)]; exact le_set hD rfl
theorem cs_sd1 {c : CS} {M D : List ab_E} {d : Nat} (hd : d < 8) {x : Int32} : (cH c M D).set (26 + 2 * d) (.inr (10, [.ref (27 + 2 * d), .int x, c.2.2.2 (10 + d), .int (c.1 (60 + d)), .int (c.1 (70 + d)), .int (c.1 (80 + d))])) = cH (cu1 c (50 + d) x) M D := by
  obtain rfl | rfl | rfl | rfl | rfl | rfl | rfl | rfl : d = 0 ∨ d = 1 ∨ d = 2 ∨ d = 3 ∨ d = 4 ∨ d = 5 ∨ d = 6 ∨ d = 7 := by omega
  all_goals exact cH_set (by decide) rfl
theorem cs_sd2 {c : CS} {M D : List ab_E} {d : Nat} (hd : d < 8) {v : Value} : (cH c M D).set (26 + 2 * d) (.inr (10, [.ref (27 + 2 * d), .int (c.1 (50 + d)), v, .int (c.1 (60 + d)), .int (c.1 (70 + d)), .int (c.1 (80 + d))])) = cH (cu4 c (10 + d) v) M D := by
  obtain rfl | rfl | rfl | rfl | rfl | rfl | rfl | rfl : d = 0 ∨ d = 1 ∨ d = 2 ∨ d = 3 ∨ d = 4 ∨ d = 5 ∨ d = 6 ∨ d = 7 := by omega
  all_goals exact cH_set (by decide) rfl
theorem cs_sd3 {c : CS} {M D : List ab_E} {d : Nat} (hd : d < 8) {x : Int32} : (cH c M D).set (26 + 2 * d) (.inr (10, [.ref (27 + 2 * d), .int (c.1 (50 + d)), c.2.2.2 (10 + d), .int x, .int (c.1 (70 + d)), .int (c.1 (80 + d))])) = cH (cu1 c (60 + d) x) M D := by
  obtain rfl | rfl | rfl | rfl | rfl | rfl | rfl | rfl : d = 0 ∨ d = 1 ∨ d = 2 ∨ d = 3 ∨ d = 4 ∨ d = 5 ∨ d = 6 ∨ d = 7 := by omega
  all_goals exact cH_set (by decide) rfl
theorem cs_sd4 {c : CS} {M D : List ab_E} {d : Nat} (hd : d < 8) {x : Int32} : (cH c M D).set (26 + 2 * d) (.inr (10, [.ref (27 + 2 * d), .int (c.1 (50 + d)), c.2.2.2 (10 + d), .int (c.1 (60 + d)), .int x, .int (c.1 (80 + d))])) = cH (cu1 c (70 + d) x) M D := by
  obtain rfl | rfl | rfl | rfl | rfl | rfl | rfl | rfl : d = 0 ∨ d = 1 ∨ d = 2 ∨ d = 3 ∨ d = 4 ∨ d = 5 ∨ d = 6 ∨ d = 7 := by omega
  all_goals exact cH_set (by decide) rfl
theorem cs_sd5 {c : CS} {M D : List ab_E} {d : Nat} (hd : d < 8) {x : Int32} : (cH c M D).set (26 + 2 * d) (.inr (10, [.ref (27 + 2 * d), .int (c.1 (50 + d)), c.2.2.2 (10 + d), .int (c.1 (60 + d)), .int (c.1 (70 + d)), .int x])) = cH (cu1 c (80 + d) x) M D := by
  obtain rfl | rfl | rfl | rfl | rfl | rfl | rfl | rfl : d = 0 ∨ d = 1 ∨ d = 2 ∨ d = 3 ∨ d = 4 ∨ d = 5 ∨ d = 6 ∨ d = 7 := by omega
  all_goals exact cH_set (by decide) rfl
def hsP (c : CS) (d k : Nat) (f : Int32) : CS := cu1 (cu4 (cu1 c (50 + d) 1) (10 + d) (.ref (kR k))) (60 + d) f
def hrF (d : Nat) (i : Nat) (c : CS) : CS := cf2 c (10 + d) (upd (c.2.1 (10 + d)) i 0)
def hrP (c : CS) (d : Nat) (sort n : Int32) : CS := acc (hrF d) (cu1 (cu1 (cu1 c (50 + d) 2) (70 + d) sort) (80 + d) n) 100
def snP (c : CS) (d : Nat) (i v : Int32) : CS := if hpB c d i 1 = true then cf2 c (10 + d) (upd (c.2.1 (10 + d)) (tn i) (loB (c.1 (70 + d)) v)) else c
theorem cm_X9_holdNothing {G : ab_G} (hG : ab_GG G) {c : CS} {M D : List ab_E} (hM : M.length = 1) {d : Nat} (hd : d < 8) : ab_CM G mX9_holdNothing [.ref (26 + 2 * d)] (cH c M D) (none) (cH (cu1 c (50 + d) 0) M D) := by
  refine ab_meth (l0 := [(0, .ref (26 + 2 * d))]) hG (by decide +kernel) rfl (Nat.le_of_ble_eq_true rfl) (cH_lenE (Nat.le_refl _)) (cH_szE (Nat.le_refl _)) (fun X hX hF => ?_)
  refine ab_aload_n hX dX9_holdNothing_0 mm0 ?_
  refine ab_iconst (v := 0) hX dX9_holdNothing_1 (by decide) ?_
  refine ab_putfield hX dX9_holdNothing_2 ps_X9_holdNothing_19_10 (cg_sd hd) (Nat.le_of_ble_eq_true rfl) rfl rfl (cs_sd1 hd) ?_
  exact ab_vreturn hX hF dX9_holdNothing_5 rfl rfl (by rfl)
theorem cm_X9_holdSaying {G : ab_G} (hG : ab_GG G) {c : CS} {M D : List ab_E} (hM : M.length = 1) {d : Nat} (hd : d < 8) {k : Nat} (hk : k < 8) {f : Int32} : ab_CM G mX9_holdSaying [.ref (26 + 2 * d), .ref (kR k), .int f] (cH c M D) (none) (cH (hsP c d k f) M D) := by
  refine ab_meth (l0 := [(0, .ref (26 + 2 * d)), (1, .ref (kR k)), (2, .int f)]) hG (by decide +kernel) rfl (Nat.le_of_ble_eq_true rfl) (cH_lenE (Nat.le_refl _)) (cH_szE (Nat.le_refl _)) (fun X hX hF => ?_)
  refine ab_aload_n hX dX9_holdSaying_0 mm0 ?_
  refine ab_iconst (v := 1) hX dX9_holdSaying_1 (by decide) ?_
  refine ab_putfield hX dX9_holdSaying_2 ps_X9_holdSaying_19_10 (cg_sd hd) (Nat.le_of_ble_eq_true rfl) rfl rfl (cs_sd1 hd) ?_
  refine ab_aload_n hX dX9_holdSaying_5 mm0 ?_
  refine ab_aload_n hX dX9_holdSaying_6 mm1 ?_
  refine ab_putfield hX dX9_holdSaying_7 ps_X9_holdSaying_15_10 (cg_sd hd) (Nat.le_of_ble_eq_true rfl) rfl rfl (cs_sd2 hd) ?_
  refine ab_aload_n hX dX9_holdSaying_10 mm0 ?_
  refine ab_iload_n hX dX9_holdSaying_11 mm2 ?_
  refine ab_putfield hX dX9_holdSaying_12 ps_X9_holdSaying_23_10 (cg_sd hd) (Nat.le_of_ble_eq_true rfl) rfl rfl (cs_sd3 hd) ?_
  exact ab_vreturn hX hF dX9_holdSaying_15 rfl rfl (by rfl)
theorem cm_X9_holdRow {G : ab_G} (hG : ab_GG G) {c : CS} {M D : List ab_E} (hM : M.length = 1) {d : Nat} (hd : d < 8) {sort n : Int32} : ab_CM G mX9_holdRow [.ref (26 + 2 * d), .int sort, .int n] (cH c M D) (none) (cH (hrP c d sort n) M D) := by
  refine ab_meth (l0 := [(0, .ref (26 + 2 * d)), (1, .int sort), (2, .int n)]) hG (by decide +kernel) rfl (Nat.le_of_ble_eq_true rfl) (cH_lenE (Nat.le_refl _)) (cH_szE (Nat.le_refl _)) (fun X hX hF => ?_)
  refine ab_aload_n hX dX9_holdRow_0 mm0 ?_
  refine ab_iconst (v := 2) hX dX9_holdRow_1 (by decide) ?_
  refine ab_putfield hX dX9_holdRow_2 ps_X9_holdRow_19_10 (cg_sd hd) (Nat.le_of_ble_eq_true rfl) rfl rfl (cs_sd1 hd) ?_
  refine ab_aload_n hX dX9_holdRow_5 mm0 ?_
  refine ab_iload_n hX dX9_holdRow_6 mm1 ?_
  refine ab_putfield hX dX9_holdRow_7 ps_X9_holdRow_26_10 (cg_sd hd) (Nat.le_of_ble_eq_true rfl) rfl rfl (cs_sd4 hd) ?_
  refine ab_aload_n hX dX9_holdRow_10 mm0 ?_
  refine ab_iload_n hX dX9_holdRow_11 mm2 ?_
  refine ab_putfield hX dX9_holdRow_12 ps_X9_holdRow_29_10 (cg_sd hd) (Nat.le_of_ble_eq_true rfl) rfl rfl (cs_sd5 hd) ?_
  refine ab_iconst (v := 0) hX dX9_holdRow_15 (by decide) ?_
  refine ab_istore_n hX dX9_holdRow_16 rfl (by decide) rfl ?_
  have L17 : ∀ (k17_ : Nat) (i : Nat) (hi_ : i ≤ 100), k17_ = 100 - i → ab_WA G mX9_holdRow X 17 [(0, .ref (26 + 2 * d)), (3, .int (nI i))] [] (cH (acc (hrF d) (cu1 (cu1 (cu1 c (50 + d) 2) (70 + d) sort) (80 + d) n) i) M D) := by
    intro k17_
    induction k17_ using Nat.strongRecOn with
    | _ k17_ ih17 =>
      intro i hi_ hk17_
      refine ab_iload_n hX dX9_holdRow_17 mm1 ?_
      refine ab_aload_n hX dX9_holdRow_18 mm0 ?_
      refine ab_getfield hX dX9_holdRow_19 (fs_X9_9_10 rfl) (cg_sd hd) rfl ?_
      refine ab_alen (v := 100) hX dX9_holdRow_22 (cg_nu hd) (by decide) rfl ?_
      refine ab_icmpge (tgt := 39) hX dX9_holdRow_23 (by decide) (fun h_1 => ?_) (fun h_1 => ?_)
      ·
        have hx_ := ctE (N := 100) h_1 (by rfl) (by omega) (by omega)
        obtain rfl : 100 = i := by omega
        exact ab_vreturn hX hF dX9_holdRow_39 rfl rfl (by rfl)
      ·
        have hlt_ := ctL (N := 100) h_1 (by rfl) (by omega) (by omega)
        refine ab_aload_n hX dX9_holdRow_26 mm0 ?_
        refine ab_getfield hX dX9_holdRow_27 (fs_X9_9_10 rfl) (cg_sd hd) rfl ?_
        refine ab_iload_n hX dX9_holdRow_30 mm1 ?_
        refine ab_iconst (v := 0) hX dX9_holdRow_31 (by decide) ?_
        refine ab_iast (i := i) hX dX9_holdRow_32 (cg_nu hd) rfl (by omega) (by decide) (cs_nu hd) ?_
        refine ab_iinc hX dX9_holdRow_33 mm1 rfl (by decide) rfl ?_
        refine ab_goto (tgt := 17) hX dX9_holdRow_36 (by decide) ?_
        exact ab_pm2 mm1 (mmv0 (congrArg Value.int (by exact (nI_1 _).symm))) (ab_hp (by rw [acc_s (hrF d)]; rfl) (ih17 (_) (by omega) (i + 1) (by omega) rfl))
  exact ab_pm2 mm1 (mmv0 (congrArg Value.int (by rfl))) (L17 _ 0 (by omega) rfl)
theorem cm_X9_setNumber {G : ab_G} (hG : ab_GG G) {c : CS} {M D : List ab_E} (hM : M.length = 1) {d : Nat} (hd : d < 8) {i v : Int32} : ab_CM G mX9_setNumber [.ref (26 + 2 * d), .int i, .int v] (cH c M D) (some (.int (bi (hpB c d i 1)))) (cH (snP c d i v) M D) := by
  refine ab_meth (l0 := [(0, .ref (26 + 2 * d)), (1, .int i), (2, .int v)]) hG (by decide +kernel) rfl (Nat.le_of_ble_eq_true rfl) (cH_lenE (Nat.le_refl _)) (cH_szE (Nat.le_refl _)) (fun X hX hF => ?_)
  refine ab_aload_n hX dX9_setNumber_0 mm0 ?_
  refine ab_iload_n hX dX9_setNumber_1 mm1 ?_
  refine ab_iconst (v := 1) hX dX9_setNumber_2 (by decide) ?_
  refine ab_callV2r hX dX9_setNumber_3 (cg_sd hd) ss_X9_setNumber_46 (cm_X9_hasPlaces hG hM hd) (Nat.le_of_ble_eq_true rfl) ?_
  refine ab_ifneB (tgt := 11) hX dX9_setNumber_6 (by decide) (fun h_1 => ?_) (fun h_1 => ?_)
  ·
    obtain ⟨j, hj, hj2, hjt⟩ := hp_ix h_1
    refine ab_aload_n hX dX9_setNumber_11 mm0 ?_
    refine ab_getfield hX dX9_setNumber_12 (fs_X9_9_10 rfl) (cg_sd hd) rfl ?_
    refine ab_iload_n hX dX9_setNumber_15 mm1 ?_
    refine ab_aload_n hX dX9_setNumber_16 mm0 ?_
    refine ab_iload_n hX dX9_setNumber_17 mm2 ?_
    refine ab_callV1r hX dX9_setNumber_18 (cg_sd hd) ss_X9_setNumber_50 (cm_X9_lowestBits hG hM hd) (Nat.le_of_ble_eq_true rfl) ?_
    refine ab_iast (i := j) hX dX9_setNumber_21 (cg_nu hd) hj hj2 (by decide) (cs_nu hd) ?_
    refine ab_iconst (v := 1) hX dX9_setNumber_22 (by decide) ?_
    exact ab_ireturn hX hF dX9_setNumber_23 rfl (by first | rfl | exact bi_n _) (congrArg some (congrArg Value.int (by simp only [h_1, bi_t, bi_f]))) (by first | (simp only [snP, h_1, ↓reduceIte, Bool.false_eq_true]; done) | (simp only [snP, h_1, ↓reduceIte, Bool.false_eq_true]; rw [hjt]))
  ·
    refine ab_iconst (v := 0) hX dX9_setNumber_9 (by decide) ?_
    exact ab_ireturn hX hF dX9_setNumber_10 rfl (by first | rfl | exact bi_n _) (congrArg some (congrArg Value.int (by simp only [h_1, bi_t, bi_f]))) (by first | (simp only [snP, h_1, ↓reduceIte, Bool.false_eq_true]; done) | (simp only [snP, h_1, ↓reduceIte, Bool.false_eq_true]; rw [hjt]))
def nsC (t : Int32) (k : Nat) (f a b : Int32) : ab_E := .inr (8, [.int t, .ref (kR k), .int f, .int a, .int b, .long (wS k f a b)])
theorem cm_X7_init {G : ab_G} (hG : ab_GG G) {h : List ab_E} {b : Nat} (hb : h[b]? = some (.inr (8, [.int 0, .null, .int 0, .int 0, .int 0, .long 0]))) {t k : Nat} {x f a e : Int32} {w : Int64} : ab_CM G mX7_init [.ref b, .int x, .ref k, .int f, .int a, .int e, .long w] h (none) (h.set b (.inr (8, [.int x, .ref k, .int f, .int a, .int e, .long w]))) := by
  refine ab_meth (l0 := [(0, .ref b), (1, .int x), (2, .ref k), (3, .int f), (4, .int a), (5, .int e), (6, .long w)]) hG (by decide +kernel) rfl (Nat.le_of_ble_eq_true rfl) gl_s (gz_s hb rfl) (fun X hX hF => ?_)
  refine ab_aload_n hX dX7_init_0 mm0 ?_
  refine ab_objInit hX dX7_init_1 so_X7_init_1 (by decide) (Nat.le_of_ble_eq_true rfl) ?_
  refine ab_aload_n hX dX7_init_4 mm0 ?_
  refine ab_iload_n hX dX7_init_5 mm1 ?_
  refine ab_putfield hX dX7_init_6 ps_X7_init_7_8 hb (Nat.le_of_ble_eq_true rfl) rfl rfl rfl ?_
  refine ab_aload_n hX dX7_init_9 mm0 ?_
  refine ab_aload_n hX dX7_init_10 mm2 ?_
  refine ab_putfield hX dX7_init_11 ps_X7_init_13_8 (gs_s hb) (Nat.le_of_ble_eq_true rfl) rfl rfl rfl ?_
  refine ab_aload_n hX dX7_init_14 mm0 ?_
  refine ab_iload_n hX dX7_init_15 mm3 ?_
  refine ab_putfield hX dX7_init_16 ps_X7_init_17_8 (gs_s (gs_s hb)) (Nat.le_of_ble_eq_true rfl) rfl rfl rfl ?_
  refine ab_aload_n hX dX7_init_19 mm0 ?_
  refine ab_iload hX dX7_init_20 mm4 ?_
  refine ab_putfield hX dX7_init_22 ps_X7_init_20_8 (gs_s (gs_s (gs_s hb))) (Nat.le_of_ble_eq_true rfl) rfl rfl rfl ?_
  refine ab_aload_n hX dX7_init_25 mm0 ?_
  refine ab_iload hX dX7_init_26 mm5 ?_
  refine ab_putfield hX dX7_init_28 ps_X7_init_23_8 (gs_s (gs_s (gs_s (gs_s hb)))) (Nat.le_of_ble_eq_true rfl) rfl rfl rfl ?_
  refine ab_aload_n hX dX7_init_31 mm0 ?_
  refine ab_lload hX dX7_init_32 mm6 ?_
  refine ab_putfield hX dX7_init_34 ps_X7_init_26_8 (gs_s (gs_s (gs_s (gs_s (gs_s hb))))) (Nat.le_of_ble_eq_true rfl) rfl rfl rfl ?_
  exact ab_vreturn hX hF dX7_init_37 rfl rfl (by first | (simp only [List.set_set]; done) | (simp only [List.set_set]; rfl))
theorem ns_X11_newSaying_102 : ab_ns mX11_newSaying 102 8 [.int 0, .null, .int 0, .int 0, .int 0, .long 0] := ⟨_, _, _, tyX7, rfl, zf_X7, tyX7_ok, tw_359, tw_360, tw_41, fun G j hj => by
  obtain rfl | rfl | rfl | rfl | rfl | rfl : j = 0 ∨ j = 1 ∨ j = 2 ∨ j = 3 ∨ j = 4 ∨ j = 5 := by omega
  all_goals rfl⟩
theorem cm_X11_newSaying {G : ab_G} (hG : ab_GG G) {c : CS} {M D : List ab_E} (hM : M.length = 1) {t : Int32} {k : Nat} (hk : k < 8) {f a b : Int32} : ab_CM G mX11_newSaying [.int t, .ref (kR k), .int f, .int a, .int b] (cH c M D) (some (.ref (43 + D.length))) (cH c M (D ++ [nsC t k f a b])) := by
  refine ab_meth (l0 := [(0, .int t), (1, .ref (kR k)), (2, .int f), (3, .int a), (4, .int b)]) hG (by decide +kernel) rfl (Nat.le_of_ble_eq_true rfl) (cH_lenE le_app.1) (cH_szE le_app.2) (fun X hX hF => ?_)
  refine ab_new hX dX11_newSaying_0 ns_X11_newSaying_102 ?_
  rw [cD_app, cD_new hM]
  refine ab_dup hX dX11_newSaying_3 rfl ?_
  refine ab_iload_n hX dX11_newSaying_4 mm0 ?_
  refine ab_aload_n hX dX11_newSaying_5 mm1 ?_
  refine ab_iload_n hX dX11_newSaying_6 mm2 ?_
  refine ab_iload_n hX dX11_newSaying_7 mm3 ?_
  refine ab_iload hX dX11_newSaying_8 mm4 ?_
  refine ab_aload_n hX dX11_newSaying_10 mm1 ?_
  refine ab_iload_n hX dX11_newSaying_11 mm2 ?_
  refine ab_iload_n hX dX11_newSaying_12 mm3 ?_
  refine ab_iload hX dX11_newSaying_13 mm4 ?_
  obtain ⟨Z_, ci_, fs_, hg_, hs_, hc_⟩ := vz_X11_newSaying_393 hG (c := c) (M := M) (D := (D ++ [_])) hM hk
  refine ab_callV3r hX dX11_newSaying_15 hg_ hs_ (hc_ _ _ _) (Nat.le_of_ble_eq_true rfl) ?_
  refine ab_callI6 hX dX11_newSaying_18 ss_X11_newSaying_396 (cm_X7_init hG (t := 0) (cD_get hM ga_n)) (Nat.le_of_ble_eq_true rfl) ?_
  exact ab_areturn hX hF dX11_newSaying_21 rfl (Or.inl ⟨_, rfl⟩) (Or.inr (Or.inl ⟨_, rfl⟩)) (by rfl) (by rw [cD_set hM, set_new]; rfl)
theorem ala_ok {G : ab_G} (hG : ab_GG G) {c : CS} {M D : List ab_E} (hM : M.length = 1) {t : Nat} (ht : t < 3) {nl : Nat} {ql : Nat → SY} (hL0 : cL c D (2 * t) nl ql) {r : Nat} {fs : List Value} (hr : (cH c M D)[r]? = some (.inr (8, fs))) (hn : nl < 6) : ab_CM G mX10_addLaw [.ref (trR t), .ref r] (cH c M D) (some (.int 1)) (cH (adP (2 * t) r (c, D)).1 M (adP (2 * t) r (c, D)).2) := by
  refine ab_meth (l0 := [(0, .ref (trR t)), (1, .ref r)]) hG (by decide +kernel) rfl (Nat.le_of_ble_eq_true rfl) (cH_lenE (le_ad hL0).1) (cH_szE (le_ad hL0).2) (fun X hX hF => ?_)
  refine ab_aload_n hX dX10_addLaw_0 mm1 ?_
  refine ab_ifnull hX dX10_addLaw_1 ?_
  refine ab_aload_n hX dX10_addLaw_4 mm0 ?_
  refine ab_getfield hX dX10_addLaw_5 (fs_X10_12_11 rfl) (cg_tr ht) rfl ?_
  refine ab_callV0r hX dX10_addLaw_8 (cg_al (by omega)) ss_X10_addLaw_43 (cm_Jx4a65c_size_8abf5 hG (cg_al (by omega))) (Nat.le_of_ble_eq_true rfl) ?_
  refine ab_bipush (v := 6) hX dX10_addLaw_11 (by decide) ?_
  refine ab_icmplt (tgt := 18) hX dX10_addLaw_13 (by decide) (fun h_1 => ?_) (fun h_1 => (by exact absurd (by rw [hL0.1]; exact nI_lt (b := 6) hn (by decide)) h_1))
  refine ab_aload_n hX dX10_addLaw_18 mm0 ?_
  refine ab_getfield hX dX10_addLaw_19 (fs_X10_12_11 rfl) (cg_tr ht) rfl ?_
  refine ab_aload_n hX dX10_addLaw_22 mm1 ?_
  refine ab_callV1r hX dX10_addLaw_23 (cg_al (by omega)) ss_X10_addLaw_53 (cP_add hG hM (by omega) hL0 (by omega) hr) (Nat.le_of_ble_eq_true rfl) ?_
  refine ab_pop hX dX10_addLaw_26 rfl ?_
  refine ab_iconst (v := 1) hX dX10_addLaw_27 (by decide) ?_
  exact ab_ireturn hX hF dX10_addLaw_28 rfl (by first | rfl | exact bi_n _) (congrArg some (congrArg Value.int (by rfl))) (by rfl)
theorem ala_no {G : ab_G} (hG : ab_GG G) {c : CS} {M D : List ab_E} (hM : M.length = 1) {t : Nat} (ht : t < 3) {nl : Nat} {ql : Nat → SY} (hL0 : cL c D (2 * t) nl ql) {r : Nat} {fs : List Value} (hr : (cH c M D)[r]? = some (.inr (8, fs))) (hn : ¬ nl < 6) : ab_CM G mX10_addLaw [.ref (trR t), .ref r] (cH c M D) (some (.int 0)) (cH c M D) := by
  refine ab_meth (l0 := [(0, .ref (trR t)), (1, .ref r)]) hG (by decide +kernel) rfl (Nat.le_of_ble_eq_true rfl) (cH_lenE (Nat.le_refl _)) (cH_szE (Nat.le_refl _)) (fun X hX hF => ?_)
  have h10 := hL0.2.1
  refine ab_aload_n hX dX10_addLaw_0 mm1 ?_
  refine ab_ifnull hX dX10_addLaw_1 ?_
  refine ab_aload_n hX dX10_addLaw_4 mm0 ?_
  refine ab_getfield hX dX10_addLaw_5 (fs_X10_12_11 rfl) (cg_tr ht) rfl ?_
  refine ab_callV0r hX dX10_addLaw_8 (cg_al (by omega)) ss_X10_addLaw_43 (cm_Jx4a65c_size_8abf5 hG (cg_al (by omega))) (Nat.le_of_ble_eq_true rfl) ?_
  refine ab_bipush (v := 6) hX dX10_addLaw_11 (by decide) ?_
  refine ab_icmplt (tgt := 18) hX dX10_addLaw_13 (by decide) (fun h_1 => (by rw [hL0.1] at h_1; exact absurd ((nI_ltI (b := 6) (by omega) (by decide)).mp h_1) hn)) (fun h_1 => ?_)
  refine ab_iconst (v := 0) hX dX10_addLaw_16 (by decide) ?_
  exact ab_ireturn hX hF dX10_addLaw_17 rfl (by first | rfl | exact bi_n _) (congrArg some (congrArg Value.int (by rfl))) (by rfl)
theorem ala_nu {G : ab_G} (hG : ab_GG G) {c : CS} {M D : List ab_E} (hM : M.length = 1) {t : Nat} (ht : t < 3) : ab_CM G mX10_addLaw [.ref (trR t), .null] (cH c M D) (some (.int 0)) (cH c M D) := by
  refine ab_meth (l0 := [(0, .ref (trR t)), (1, .null)]) hG (by decide +kernel) rfl (Nat.le_of_ble_eq_true rfl) (cH_lenE (Nat.le_refl _)) (cH_szE (Nat.le_refl _)) (fun X hX hF => ?_)
  refine ab_aload_nN hX dX10_addLaw_0 mm1 ?_
  refine ab_ifnullN (tgt := 16) hX dX10_addLaw_1 (by decide) ?_
  refine ab_iconst (v := 0) hX dX10_addLaw_16 (by decide) ?_
  exact ab_ireturn hX hF dX10_addLaw_17 rfl (by first | rfl | exact bi_n _) (congrArg some (congrArg Value.int (by rfl))) (by rfl)
theorem asa_ok {G : ab_G} (hG : ab_GG G) {c : CS} {M D : List ab_E} (hM : M.length = 1) {t : Nat} (ht : t < 3) {ns : Nat} {qs : Nat → SY} (hL1 : cL c D (2 * t + 1) ns qs) {r : Nat} {fs : List Value} {w : Int32} (hr : (cH c M D)[r]? = some (.inr (8, fs))) (hf0 : fs[0]? = some (.int w)) (hw : hwT c t w = true) (hn : ns < 10) : ab_CM G mX10_addSaid [.ref (trR t), .ref r] (cH c M D) (some (.int 1)) (cH (adP (2 * t + 1) r (c, D)).1 M (adP (2 * t + 1) r (c, D)).2) := by
  refine ab_meth (l0 := [(0, .ref (trR t)), (1, .ref r)]) hG (by decide +kernel) rfl (Nat.le_of_ble_eq_true rfl) (cH_lenE (le_ad hL1).1) (cH_szE (le_ad hL1).2) (fun X hX hF => ?_)
  refine ab_aload_n hX dX10_addSaid_0 mm1 ?_
  refine ab_ifnull hX dX10_addSaid_1 ?_
  refine ab_aload_n hX dX10_addSaid_4 mm0 ?_
  refine ab_aload_n hX dX10_addSaid_5 mm1 ?_
  refine ab_getfield hX dX10_addSaid_6 (fs_X10_57_8 rfl) hr hf0 ?_
  refine ab_callV1r hX dX10_addSaid_9 (cg_tr ht) ss_X10_addSaid_60 (cm_X10_hasWitness hG hM ht) (Nat.le_of_ble_eq_true rfl) ?_
  refine ab_ifeqB (tgt := 27) hX dX10_addSaid_12 (by decide) (fun h_1 => (by rw [hw] at h_1; cases h_1)) (fun h_1 => ?_)
  refine ab_aload_n hX dX10_addSaid_15 mm0 ?_
  refine ab_getfield hX dX10_addSaid_16 (fs_X10_18_11 rfl) (cg_tr ht) rfl ?_
  refine ab_callV0r hX dX10_addSaid_19 (cg_al (by omega)) ss_X10_addSaid_43 (cm_Jx4a65c_size_8abf5 hG (cg_al (by omega))) (Nat.le_of_ble_eq_true rfl) ?_
  refine ab_bipush (v := 10) hX dX10_addSaid_22 (by decide) ?_
  refine ab_icmplt (tgt := 29) hX dX10_addSaid_24 (by decide) (fun h_2 => ?_) (fun h_2 => (by exact absurd (by rw [hL1.1]; exact nI_lt (b := 10) hn (by decide)) h_2))
  refine ab_aload_n hX dX10_addSaid_29 mm0 ?_
  refine ab_getfield hX dX10_addSaid_30 (fs_X10_18_11 rfl) (cg_tr ht) rfl ?_
  refine ab_aload_n hX dX10_addSaid_33 mm1 ?_
  refine ab_callV1r hX dX10_addSaid_34 (cg_al (by omega)) ss_X10_addSaid_53 (cP_add hG hM (by omega) hL1 (by omega) hr) (Nat.le_of_ble_eq_true rfl) ?_
  refine ab_pop hX dX10_addSaid_37 rfl ?_
  refine ab_iconst (v := 1) hX dX10_addSaid_38 (by decide) ?_
  exact ab_ireturn hX hF dX10_addSaid_39 rfl (by first | rfl | exact bi_n _) (congrArg some (congrArg Value.int (by rfl))) (by rfl)
theorem asa_nw {G : ab_G} (hG : ab_GG G) {c : CS} {M D : List ab_E} (hM : M.length = 1) {t : Nat} (ht : t < 3) {ns : Nat} {qs : Nat → SY} (hL1 : cL c D (2 * t + 1) ns qs) {r : Nat} {fs : List Value} {w : Int32} (hr : (cH c M D)[r]? = some (.inr (8, fs))) (hf0 : fs[0]? = some (.int w)) (hw : hwT c t w = false) : ab_CM G mX10_addSaid [.ref (trR t), .ref r] (cH c M D) (some (.int 0)) (cH c M D) := by
  refine ab_meth (l0 := [(0, .ref (trR t)), (1, .ref r)]) hG (by decide +kernel) rfl (Nat.le_of_ble_eq_true rfl) (cH_lenE (Nat.le_refl _)) (cH_szE (Nat.le_refl _)) (fun X hX hF => ?_)
  have h11 := hL1.2.1
  refine ab_aload_n hX dX10_addSaid_0 mm1 ?_
  refine ab_ifnull hX dX10_addSaid_1 ?_
  refine ab_aload_n hX dX10_addSaid_4 mm0 ?_
  refine ab_aload_n hX dX10_addSaid_5 mm1 ?_
  refine ab_getfield hX dX10_addSaid_6 (fs_X10_57_8 rfl) hr hf0 ?_
  refine ab_callV1r hX dX10_addSaid_9 (cg_tr ht) ss_X10_addSaid_60 (cm_X10_hasWitness hG hM ht) (Nat.le_of_ble_eq_true rfl) ?_
  refine ab_ifeqB (tgt := 27) hX dX10_addSaid_12 (by decide) (fun h_1 => ?_) (fun h_1 => (by rw [hw] at h_1; cases h_1))
  refine ab_iconst (v := 0) hX dX10_addSaid_27 (by decide) ?_
  exact ab_ireturn hX hF dX10_addSaid_28 rfl (by first | rfl | exact bi_n _) (congrArg some (congrArg Value.int (by rfl))) (by rfl)
theorem asa_no {G : ab_G} (hG : ab_GG G) {c : CS} {M D : List ab_E} (hM : M.length = 1) {t : Nat} (ht : t < 3) {ns : Nat} {qs : Nat → SY} (hL1 : cL c D (2 * t + 1) ns qs) {r : Nat} {fs : List Value} {w : Int32} (hr : (cH c M D)[r]? = some (.inr (8, fs))) (hf0 : fs[0]? = some (.int w)) (hn : ¬ ns < 10) : ab_CM G mX10_addSaid [.ref (trR t), .ref r] (cH c M D) (some (.int 0)) (cH c M D) := by
  refine ab_meth (l0 := [(0, .ref (trR t)), (1, .ref r)]) hG (by decide +kernel) rfl (Nat.le_of_ble_eq_true rfl) (cH_lenE (Nat.le_refl _)) (cH_szE (Nat.le_refl _)) (fun X hX hF => ?_)
  have h11 := hL1.2.1
  refine ab_aload_n hX dX10_addSaid_0 mm1 ?_
  refine ab_ifnull hX dX10_addSaid_1 ?_
  refine ab_aload_n hX dX10_addSaid_4 mm0 ?_
  refine ab_aload_n hX dX10_addSaid_5 mm1 ?_
  refine ab_getfield hX dX10_addSaid_6 (fs_X10_57_8 rfl) hr hf0 ?_
  refine ab_callV1r hX dX10_addSaid_9 (cg_tr ht) ss_X10_addSaid_60 (cm_X10_hasWitness hG hM ht) (Nat.le_of_ble_eq_true rfl) ?_
  refine ab_ifeqB (tgt := 27) hX dX10_addSaid_12 (by decide) (fun h_1 => ?_) (fun h_1 => ?_)
  ·
    refine ab_iconst (v := 0) hX dX10_addSaid_27 (by decide) ?_
    exact ab_ireturn hX hF dX10_addSaid_28 rfl (by first | rfl | exact bi_n _) (congrArg some (congrArg Value.int (by rfl))) (by rfl)
  ·
    refine ab_aload_n hX dX10_addSaid_15 mm0 ?_
    refine ab_getfield hX dX10_addSaid_16 (fs_X10_18_11 rfl) (cg_tr ht) rfl ?_
    refine ab_callV0r hX dX10_addSaid_19 (cg_al (by omega)) ss_X10_addSaid_43 (cm_Jx4a65c_size_8abf5 hG (cg_al (by omega))) (Nat.le_of_ble_eq_true rfl) ?_
    refine ab_bipush (v := 10) hX dX10_addSaid_22 (by decide) ?_
    refine ab_icmplt (tgt := 29) hX dX10_addSaid_24 (by decide) (fun h_2 => (by rw [hL1.1] at h_2; exact absurd ((nI_ltI (b := 10) (by omega) (by decide)).mp h_2) hn)) (fun h_2 => ?_)
    refine ab_iconst (v := 0) hX dX10_addSaid_27 (by decide) ?_
    exact ab_ireturn hX hF dX10_addSaid_28 rfl (by first | rfl | exact bi_n _) (congrArg some (congrArg Value.int (by rfl))) (by rfl)
theorem asa_nu {G : ab_G} (hG : ab_GG G) {c : CS} {M D : List ab_E} (hM : M.length = 1) {t : Nat} (ht : t < 3) : ab_CM G mX10_addSaid [.ref (trR t), .null] (cH c M D) (some (.int 0)) (cH c M D) := by
  refine ab_meth (l0 := [(0, .ref (trR t)), (1, .null)]) hG (by decide +kernel) rfl (Nat.le_of_ble_eq_true rfl) (cH_lenE (Nat.le_refl _)) (cH_szE (Nat.le_refl _)) (fun X hX hF => ?_)
  refine ab_aload_nN hX dX10_addSaid_0 mm1 ?_
  refine ab_ifnullN (tgt := 27) hX dX10_addSaid_1 (by decide) ?_
  refine ab_iconst (v := 0) hX dX10_addSaid_27 (by decide) ?_
  exact ab_ireturn hX hF dX10_addSaid_28 rfl (by first | rfl | exact bi_n _) (congrArg some (congrArg Value.int (by rfl))) (by rfl)
def awB (c : CS) (t : Nat) (w : Int32) : Bool := afB w && !decide (c.1 (10 + t) = 5)
def awP (c : CS) (t : Nat) (w : Int32) : CS := if awB c t w = true then cu1 (cu2 c t (tn (c.1 (10 + t))) w) (10 + t) (c.1 (10 + t) + 1) else c
def stP2 (c : CS) (t : Nat) (w : Int32) : CS := if inB w 64 = true then cu1 c (20 + t) w else c
theorem cm_X10_addWitness {G : ab_G} (hG : ab_GG G) {c : CS} {M D : List ab_E} (hM : M.length = 1) {t : Nat} (ht : t < 3) {nw : Nat} (hw : c.1 (10 + t) = nI nw) (hw5 : nw ≤ 5) {w : Int32} : ab_CM G mX10_addWitness [.ref (trR t), .int w] (cH c M D) (some (.int (bi (awB c t w)))) (cH (awP c t w) M D) := by
  refine ab_meth (l0 := [(0, .ref (trR t)), (1, .int w)]) hG (by decide +kernel) rfl (Nat.le_of_ble_eq_true rfl) (cH_lenE (Nat.le_refl _)) (cH_szE (Nat.le_refl _)) (fun X hX hF => ?_)
  have hwt : tn (c.1 (10 + t)) = nw := by rw [hw]; exact tn_nI (by omega)
  refine ab_iload_n hX dX10_addWitness_0 mm1 ?_
  refine ab_callS1r hX dX10_addWitness_1 ss_X10_addWitness_64 (cm_X11_areFacts hG) (Nat.le_of_ble_eq_true rfl) ?_
  refine ab_ifeqB (tgt := 26) hX dX10_addWitness_4 (by decide) (fun h_1 => ?_) (fun h_1 => ?_)
  ·
    refine ab_iconst (v := 0) hX dX10_addWitness_26 (by decide) ?_
    exact ab_ireturn hX hF dX10_addWitness_27 rfl (by first | rfl | exact bi_n _) (congrArg some (congrArg Value.int (by first | (simp only [awB, ‹afB w = false›, Bool.false_and, bi_f]; done) | (simp only [awB, ‹afB w = true›, decide_eq_true h5c, Bool.not_true, Bool.and_false, bi_f])))) (by first | (rw [awP, if_pos (by simp only [awB, ‹afB w = true›, decide_eq_false h5c, Bool.not_false, Bool.and_true]), hwt]; rfl) | (rw [awP, if_neg (by simp only [awB, ‹afB w = true›, decide_eq_true h5c, Bool.not_true, Bool.and_false]; exact Bool.false_ne_true)]) | (rw [awP, if_neg (by simp only [awB, ‹afB w = false›, Bool.false_and]; exact Bool.false_ne_true)]))
  ·
    refine ab_aload_n hX dX10_addWitness_7 mm0 ?_
    refine ab_getfield hX dX10_addWitness_8 (fs_X10_33_11 rfl) (cg_tr ht) rfl ?_
    refine ab_iflt (tgt := 26) hX dX10_addWitness_11 (by decide) (fun h_2 => (by rw [hw] at h_2; exact absurd h_2 (nI_pos (by omega)))) (fun h_2 => ?_)
    refine ab_aload_n hX dX10_addWitness_14 mm0 ?_
    refine ab_getfield hX dX10_addWitness_15 (fs_X10_33_11 rfl) (cg_tr ht) rfl ?_
    refine ab_aload_n hX dX10_addWitness_18 mm0 ?_
    refine ab_getfield hX dX10_addWitness_19 (fs_X10_21_11 rfl) (cg_tr ht) rfl ?_
    refine ab_alen (v := 5) hX dX10_addWitness_22 (cg_kn ht) (by decide) rfl ?_
    refine ab_icmplt (tgt := 28) hX dX10_addWitness_23 (by decide) (fun h_3 => ?_) (fun h_3 => ?_)
    ·
      have hn5 : nw < 5 := by rw [hw] at h_3; exact (nI_ltI (b := 5) (by omega) (by decide)).mp h_3
      have h5c : ¬ c.1 (10 + t) = 5 := fun e => by rw [hw] at e; exact absurd ((nI_eq (b := 5) (by omega) (by decide)).mp e) (by omega)
      refine ab_aload_n hX dX10_addWitness_28 mm0 ?_
      refine ab_getfield hX dX10_addWitness_29 (fs_X10_21_11 rfl) (cg_tr ht) rfl ?_
      refine ab_aload_n hX dX10_addWitness_32 mm0 ?_
      refine ab_getfield hX dX10_addWitness_33 (fs_X10_33_11 rfl) (cg_tr ht) rfl ?_
      refine ab_iload_n hX dX10_addWitness_36 mm1 ?_
      refine ab_iast (i := nw) hX dX10_addWitness_37 (cg_kn ht) hw (by omega) (by decide) (cs_kn ht) ?_
      refine ab_aload_n hX dX10_addWitness_38 mm0 ?_
      refine ab_dup hX dX10_addWitness_39 rfl ?_
      refine ab_getfield hX dX10_addWitness_40 (fs_X10_33_11 rfl) (cg_tr ht) rfl ?_
      refine ab_iconst (v := 1) hX dX10_addWitness_43 (by decide) ?_
      refine ab_iadd hX dX10_addWitness_44 ?_
      refine ab_putfield hX dX10_addWitness_45 ps_X10_addWitness_33_11 (cg_tr ht) (Nat.le_of_ble_eq_true rfl) rfl rfl (cs_trw ht) ?_
      refine ab_iconst (v := 1) hX dX10_addWitness_48 (by decide) ?_
      exact ab_ireturn hX hF dX10_addWitness_49 rfl (by first | rfl | exact bi_n _) (congrArg some (congrArg Value.int (by simp only [awB, ‹afB w = true›, decide_eq_false h5c, Bool.not_false, Bool.and_true, bi_t]))) (by first | (rw [awP, if_pos (by simp only [awB, ‹afB w = true›, decide_eq_false h5c, Bool.not_false, Bool.and_true]), hwt]; rfl) | (rw [awP, if_neg (by simp only [awB, ‹afB w = true›, decide_eq_true h5c, Bool.not_true, Bool.and_false]; exact Bool.false_ne_true)]) | (rw [awP, if_neg (by simp only [awB, ‹afB w = false›, Bool.false_and]; exact Bool.false_ne_true)]))
    ·
      have h5c : c.1 (10 + t) = 5 := by rw [hw] at h_3 ⊢; have q_ : ¬ nw < 5 := fun q => h_3 (nI_lt (b := 5) q (by decide)); exact congrArg nI (show nw = 5 by omega)
      refine ab_iconst (v := 0) hX dX10_addWitness_26 (by decide) ?_
      exact ab_ireturn hX hF dX10_addWitness_27 rfl (by first | rfl | exact bi_n _) (congrArg some (congrArg Value.int (by first | (simp only [awB, ‹afB w = false›, Bool.false_and, bi_f]; done) | (simp only [awB, ‹afB w = true›, decide_eq_true h5c, Bool.not_true, Bool.and_false, bi_f])))) (by first | (rw [awP, if_pos (by simp only [awB, ‹afB w = true›, decide_eq_false h5c, Bool.not_false, Bool.and_true]), hwt]; rfl) | (rw [awP, if_neg (by simp only [awB, ‹afB w = true›, decide_eq_true h5c, Bool.not_true, Bool.and_false]; exact Bool.false_ne_true)]) | (rw [awP, if_neg (by simp only [awB, ‹afB w = false›, Bool.false_and]; exact Bool.false_ne_true)]))
theorem cm_X10_setTruth {G : ab_G} (hG : ab_GG G) {c : CS} {M D : List ab_E} (hM : M.length = 1) {t : Nat} (ht : t < 3) {w : Int32} : ab_CM G mX10_setTruth [.ref (trR t), .int w] (cH c M D) (some (.int (bi (inB w 64)))) (cH (stP2 c t w) M D) := by
  refine ab_meth (l0 := [(0, .ref (trR t)), (1, .int w)]) hG (by decide +kernel) rfl (Nat.le_of_ble_eq_true rfl) (cH_lenE (Nat.le_refl _)) (cH_szE (Nat.le_refl _)) (fun X hX hF => ?_)
  refine ab_iload_n hX dX10_setTruth_0 mm1 ?_
  refine ab_callS1r hX dX10_setTruth_1 ss_X10_setTruth_67 (cm_X11_isWorld hG) (Nat.le_of_ble_eq_true rfl) ?_
  refine ab_ifneB (tgt := 9) hX dX10_setTruth_4 (by decide) (fun h_1 => ?_) (fun h_1 => ?_)
  ·
    refine ab_aload_n hX dX10_setTruth_9 mm0 ?_
    refine ab_iload_n hX dX10_setTruth_10 mm1 ?_
    refine ab_putfield hX dX10_setTruth_11 ps_X10_setTruth_37_11 (cg_tr ht) (Nat.le_of_ble_eq_true rfl) rfl rfl (cs_tru ht) ?_
    refine ab_iconst (v := 1) hX dX10_setTruth_14 (by decide) ?_
    exact ab_ireturn hX hF dX10_setTruth_15 rfl (by first | rfl | exact bi_n _) (congrArg some (congrArg Value.int (by simp only [h_1, bi_t, bi_f]))) (by first | rfl | (simp only [stP2, h_1, ↓reduceIte, Bool.false_eq_true]; done) | (simp only [stP2, h_1, ↓reduceIte, Bool.false_eq_true]; rfl))
  ·
    refine ab_iconst (v := 0) hX dX10_setTruth_7 (by decide) ?_
    exact ab_ireturn hX hF dX10_setTruth_8 rfl (by first | rfl | exact bi_n _) (congrArg some (congrArg Value.int (by simp only [h_1, bi_t, bi_f]))) (by first | rfl | (simp only [stP2, h_1, ↓reduceIte, Bool.false_eq_true]; done) | (simp only [stP2, h_1, ↓reduceIte, Bool.false_eq_true]; rfl))

