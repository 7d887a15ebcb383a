theorem cD_getz {c : CS} {M D : List ab_E} (hM : M.length = 0) {k : Nat} {x : ab_E} (h : D[k]? = some x) : (cH c M D)[42 + k]? = some x := by
  unfold cH
  rw [List.getElem?_append_right (by show (cC c).length ≤ 42 + k; show 42 ≤ 42 + k; omega), show 42 + k - (cC c).length = M.length + k by show 42 + k - 42 = _; omega, List.getElem?_append_right (by omega), Nat.add_sub_cancel_left]
  exact h
theorem cD_setz {c : CS} {M D : List ab_E} (hM : M.length = 0) {k : Nat} {x : ab_E} : (cH c M D).set (42 + k) x = cH c M (D.set k x) := by
  unfold cH
  rw [List.set_append_right _ _ (by show 42 ≤ 42 + k; omega), show 42 + k - (cC c).length = M.length + k by show 42 + k - 42 = _; omega, List.set_append_right _ _ (by omega), Nat.add_sub_cancel_left]
theorem cD_newz {c : CS} {M D : List ab_E} (hM : M.length = 0) : (cH c M D).length = 42 + D.length := by rw [cH_len, hM]; omega
/-- a list of sayings: what holds them, how many, which -/
def LIz (D : List ab_E) (v : Value) (n : Nat) (q : Nat → SY) : Prop := (n = 0 ∧ v = .float 0) ∨ ∃ (e : Nat) (f : Nat → Option Nat), v = .ref (42 + e) ∧ D[e]? = some (.inl (2, 10, .inr (.inr (.inr (.inr f))))) ∧ ∀ i, i < n → ∃ r, f i = some (42 + r) ∧ D[r]? = some (.inr (8, syF (q i)))
def cLz (c : CS) (D : List ab_E) (l n : Nat) (q : Nat → SY) : Prop := c.1 (30 + l) = nI n ∧ n ≤ 10 ∧ LIz D (c.2.2.2 l) n q ∧ ∀ i, i < n → VY (q i)
theorem cL_getz {c : CS} {D : List ab_E} {l n i : Nat} {q : Nat → SY} (h : cLz c D l n q) (hi : i < n) : ∃ (e : Nat) (f : Nat → Option Nat) (r : Nat), c.2.2.2 l = .ref (42 + e) ∧ D[e]? = some (.inl (2, 10, .inr (.inr (.inr (.inr f))))) ∧ f i = some (42 + r) ∧ D[r]? = some (.inr (8, syF (q i))) := by
  obtain ⟨-, -, h3, -⟩ := h
  rcases h3 with ⟨rfl, -⟩ | ⟨e, f, h1, h2, h4⟩
  · omega
  · obtain ⟨r, g1, g2⟩ := h4 i hi
    exact ⟨e, f, r, h1, h2, g1, g2⟩
theorem cL_readz {G : ab_G} (hG : ab_GG G) {c : CS} {M D : List ab_E} (hM : M.length = 0) {l n i : Nat} {q : Nat → SY} (hl : l < 6) (h : cLz c D l n q) (hi : i < n) : ∃ r, D[r]? = some (.inr (8, syF (q i))) ∧ ab_CM G mJx4a65c_get_915e3 [.ref (alR l), .int (nI i)] (cH c M D) (some (.ref (42 + r))) (cH c M D) := by
  obtain ⟨e, f, r, h1, h2, h3, h4⟩ := cL_getz h hi
  have hb : (cH c M D)[alR l]? = some (.inr (0, [.int (c.1 (40 + l)), .ref (42 + e), .int (c.1 (30 + l))])) := by
    rw [← h1]
    exact cg_al hl
  exact ⟨r, h4, cm_Jx4a65c_get_915e3 hG hb (cD_getz hM h2) rfl h.1 hi h.2.1 h3⟩
theorem cm_X10_knownByz {G : ab_G} (hG : ab_GG G) {c : CS} {M D : List ab_E} (hM : M.length = 0) {t : Nat} (ht : t < 3) {w : Int32} : ab_CM G mX10_knownBy [.ref (trR t), .int w] (cH c M D) (some (.int (kbT c t w))) (cH c M D) := by
  refine ab_meth (l0 := [(0, .ref (trR t)), (1, .int w)]) hG (by decide +kernel) rfl (Nat.le_of_ble_eq_true rfl) (Nat.le_refl _) (Nat.le_refl _) (fun X hX hF => ?_)
  refine ab_iload_n hX dX10_knownBy_0 mm1 ?_
  refine ab_iflt (tgt := 22) hX dX10_knownBy_1 (by decide) (fun h_1 => ?_) (fun h_1 => ?_)
  ·
    refine ab_iconst (v := 0) hX dX10_knownBy_22 (by decide) ?_
    exact ab_ireturn hX hF dX10_knownBy_23 rfl (by rfl) (congrArg some (congrArg Value.int (by simp only [kbT, h_1, ↓reduceIte]; first | done | rfl | rw [hjc]))) (by rfl)
  ·
    refine ab_iload_n hX dX10_knownBy_4 mm1 ?_
    refine ab_aload_n hX dX10_knownBy_5 mm0 ?_
    refine ab_getfield hX dX10_knownBy_6 (fs_X10_21_11 rfl) (cg_tr ht) rfl ?_
    refine ab_alen (v := 5) hX dX10_knownBy_9 (cg_kn ht) (by decide) rfl ?_
    refine ab_icmpge (tgt := 22) hX dX10_knownBy_10 (by decide) (fun h_2 => ?_) (fun h_2 => ?_)
    ·
      refine ab_iconst (v := 0) hX dX10_knownBy_22 (by decide) ?_
      exact ab_ireturn hX hF dX10_knownBy_23 rfl (by rfl) (congrArg some (congrArg Value.int (by simp only [kbT, h_1, h_2, ↓reduceIte]; first | done | rfl | rw [hjc]))) (by rfl)
    ·
      obtain ⟨j, hj, hjw⟩ := in5 h_1 h_2
      have hjc : tn w = j := by rw [hjw]; exact tn_nI (by omega)
      refine ab_aload_n hX dX10_knownBy_13 mm0 ?_
      refine ab_getfield hX dX10_knownBy_14 (fs_X10_21_11 rfl) (cg_tr ht) rfl ?_
      refine ab_iload_n hX dX10_knownBy_17 mm1 ?_
      refine ab_iald (i := j) hX dX10_knownBy_18 (cg_kn ht) hjw hj (by decide) ?_
      refine ab_goto (tgt := 23) hX dX10_knownBy_19 (by decide) ?_
      exact ab_ireturn hX hF dX10_knownBy_23 rfl (by rfl) (congrArg some (congrArg Value.int (by simp only [kbT, h_1, h_2, ↓reduceIte]; first | done | rfl | rw [hjc]))) (by rfl)
theorem cm_X10_mayBez {G : ab_G} (hG : ab_GG G) {c : CS} {M D : List ab_E} (hM : M.length = 0) {t : Nat} (ht : t < 3) {nl : Nat} {ql : Nat → SY} (hL0 : cLz c D (2 * t) nl ql)  : ab_CM G mX10_mayBe [.ref (trR t)] (cH c M D) (some (.long (mbT ql nl))) (cH c M D) := by
  refine ab_meth (l0 := [(0, .ref (trR t))]) hG (by decide +kernel) rfl (Nat.le_of_ble_eq_true rfl) (Nat.le_refl _) (Nat.le_refl _) (fun X hX hF => ?_)
  have h10 := hL0.2.1
  refine ab_ldc2 hX dX10_mayBe_0 tw_588 ?_
  refine ab_lstore_n hX dX10_mayBe_3 rfl (by decide) rfl ?_
  refine ab_iconst (v := 0) hX dX10_mayBe_4 (by decide) ?_
  refine ab_istore_n hX dX10_mayBe_5 rfl (by decide) rfl ?_
  have L6 : ∀ (k6_ : Nat) (i : Nat) (hi_ : i ≤ nl), k6_ = nl - i → ab_WA G mX10_mayBe X 6 [(0, .ref (trR t)), (1, .long (acc (mbG ql) (-1) i)), (3, .int (nI i))] [] (cH c M D) := by
    intro k6_
    induction k6_ using Nat.strongRecOn with
    | _ k6_ ih6 =>
      intro i hi_ hk6_
      refine ab_iload_n hX dX10_mayBe_6 mm2 ?_
      refine ab_aload_n hX dX10_mayBe_7 mm0 ?_
      refine ab_getfield hX dX10_mayBe_8 (fs_X10_12_11 rfl) (cg_tr ht) rfl ?_
      refine ab_callV0r hX dX10_mayBe_11 (cg_al (by omega)) ss_X10_mayBe_43 (cm_Jx4a65c_size_8abf5 hG (cg_al (by omega))) (Nat.le_of_ble_eq_true rfl) ?_
      refine ab_icmpge (tgt := 40) hX dX10_mayBe_14 (by decide) (fun h_1 => ?_) (fun h_1 => ?_)
      ·
        have hx_ := ctE (N := nl) h_1 (by exact hL0.1) (by omega) (by omega)
        obtain rfl : nl = i := by omega
        refine ab_lload_n hX dX10_mayBe_40 mm1 ?_
        exact ab_lreturn hX hF dX10_mayBe_41 rfl (congrArg some (congrArg Value.long (by rfl))) (by rfl)
      ·
        have hlt_ := ctL (N := nl) h_1 (by exact hL0.1) (by omega) (by omega)
        refine ab_lload_n hX dX10_mayBe_17 mm1 ?_
        refine ab_aload_n hX dX10_mayBe_18 mm0 ?_
        refine ab_getfield hX dX10_mayBe_19 (fs_X10_12_11 rfl) (cg_tr ht) rfl ?_
        refine ab_iload_n hX dX10_mayBe_22 mm2 ?_
        obtain ⟨r_, hr_, hc_⟩ := cL_readz hG (M := M) hM (i := i) (by omega) hL0 (by omega)
        refine ab_callV1r hX dX10_mayBe_23 (cg_al (by omega)) ss_X10_mayBe_47 hc_ (Nat.le_of_ble_eq_true rfl) ?_
        refine ab_castS hX dX10_mayBe_26 (cD_getz hM hr_) rfl tw_333 ?_
        refine ab_getfield hX dX10_mayBe_29 (fs_X10_72_8 rfl) (cD_getz hM hr_) rfl ?_
        refine ab_land hX dX10_mayBe_32 ?_
        refine ab_lstore_n hX dX10_mayBe_33 rfl (by decide) rfl ?_
        refine ab_iinc hX dX10_mayBe_34 mm2 rfl (by decide) rfl ?_
        refine ab_goto (tgt := 6) hX dX10_mayBe_37 (by decide) ?_
        exact ab_pm3 mm2 (mmv1 (congrArg Value.long (by first | exact (nI_1 _).symm | rfl | (rw [acc_s]; first | rfl | (simp only [mbG, h_1, ↓reduceIte, Bool.false_eq_true]; done) | (simp only [mbG, h_1, ↓reduceIte, Bool.false_eq_true]; rfl))))) (mmv0 (congrArg Value.int (by first | exact (nI_1 _).symm | rfl | (rw [acc_s]; first | rfl | (simp only [mbG, h_1, ↓reduceIte, Bool.false_eq_true]; done) | (simp only [mbG, h_1, ↓reduceIte, Bool.false_eq_true]; rfl))))) (ih6 (_) (by omega) (i + 1) (by omega) rfl)
  exact ab_pm3 mm2 (mmv1 (congrArg Value.long (by rfl))) (mmv0 (congrArg Value.int (by rfl))) (L6 _ 0 (by omega) rfl)
theorem cm_X10_leftBySaidz {G : ab_G} (hG : ab_GG G) {c : CS} {M D : List ab_E} (hM : M.length = 0) {t : Nat} (ht : t < 3) {ns : Nat} {qs : Nat → SY} (hL1 : cLz c D (2 * t + 1) ns qs) {worlds : Int64} {set : Int32} : ab_CM G mX10_leftBySaid [.ref (trR t), .long worlds, .int set] (cH c M D) (some (.long (lbT qs ns worlds set))) (cH c M D) := by
  refine ab_meth (l0 := [(0, .ref (trR t)), (1, .long worlds), (3, .int set)]) hG (by decide +kernel) rfl (Nat.le_of_ble_eq_true rfl) (Nat.le_refl _) (Nat.le_refl _) (fun X hX hF => ?_)
  have h11 := hL1.2.1
  refine ab_lload_n hX dX10_leftBySaid_0 mm1 ?_
  refine ab_lstore hX dX10_leftBySaid_1 (by decide) rfl ?_
  refine ab_iconst (v := 0) hX dX10_leftBySaid_3 (by decide) ?_
  refine ab_istore hX dX10_leftBySaid_4 (by decide) rfl ?_
  have L6 : ∀ (k6_ : Nat) (i : Nat) (hi_ : i ≤ ns), k6_ = ns - i → ab_WA G mX10_leftBySaid X 6 [(0, .ref (trR t)), (3, .int set), (4, .long (acc (lbG qs set) worlds i)), (6, .int (nI i))] [] (cH c M D) := by
    intro k6_
    induction k6_ using Nat.strongRecOn with
    | _ k6_ ih6 =>
      intro i hi_ hk6_
      refine ab_iload hX dX10_leftBySaid_6 mm3 ?_
      refine ab_aload_n hX dX10_leftBySaid_8 mm0 ?_
      refine ab_getfield hX dX10_leftBySaid_9 (fs_X10_18_11 rfl) (cg_tr ht) rfl ?_
      refine ab_callV0r hX dX10_leftBySaid_12 (cg_al (by omega)) ss_X10_leftBySaid_43 (cm_Jx4a65c_size_8abf5 hG (cg_al (by omega))) (Nat.le_of_ble_eq_true rfl) ?_
      refine ab_icmpge (tgt := 57) hX dX10_leftBySaid_15 (by decide) (fun h_1 => ?_) (fun h_1 => ?_)
      ·
        have hx_ := ctE (N := ns) h_1 (by exact hL1.1) (by omega) (by omega)
        obtain rfl : ns = i := by omega
        refine ab_lload hX dX10_leftBySaid_57 mm2 ?_
        exact ab_lreturn hX hF dX10_leftBySaid_59 rfl (congrArg some (congrArg Value.long (by rfl))) (by rfl)
      ·
        have hlt_ := ctL (N := ns) h_1 (by exact hL1.1) (by omega) (by omega)
        refine ab_iload_n hX dX10_leftBySaid_18 mm1 ?_
        refine ab_iload hX dX10_leftBySaid_19 mm3 ?_
        refine ab_ishr hX dX10_leftBySaid_21 ?_
        refine ab_iconst (v := 1) hX dX10_leftBySaid_22 (by decide) ?_
        refine ab_iand hX dX10_leftBySaid_23 ?_
        refine ab_ifeq (tgt := 51) hX dX10_leftBySaid_24 (by decide) (fun h_2 => ?_) (fun h_2 => ?_)
        ·
          refine ab_iinc hX dX10_leftBySaid_51 mm3 rfl (by decide) rfl ?_
          refine ab_goto (tgt := 6) hX dX10_leftBySaid_54 (by decide) ?_
          exact ab_pm4 mm1 (mmv2 (congrArg Value.int (by first | exact (nI_1 _).symm | rfl | (rw [acc_s]; first | rfl | (simp only [lbG, h_1, h_2, ↓reduceIte, Bool.false_eq_true]; done) | (simp only [lbG, h_1, h_2, ↓reduceIte, Bool.false_eq_true]; rfl))))) (mmv3 (congrArg Value.long (by first | exact (nI_1 _).symm | rfl | (rw [acc_s]; first | rfl | (simp only [lbG, h_1, h_2, ↓reduceIte, Bool.false_eq_true]; done) | (simp only [lbG, h_1, h_2, ↓reduceIte, Bool.false_eq_true]; rfl))))) (mmv0 (congrArg Value.int (by first | exact (nI_1 _).symm | rfl | (rw [acc_s]; first | rfl | (simp only [lbG, h_1, h_2, ↓reduceIte, Bool.false_eq_true]; done) | (simp only [lbG, h_1, h_2, ↓reduceIte, Bool.false_eq_true]; rfl))))) (ih6 (_) (by omega) (i + 1) (by omega) rfl)
        ·
          refine ab_lload hX dX10_leftBySaid_27 mm2 ?_
          refine ab_aload_n hX dX10_leftBySaid_29 mm0 ?_
          refine ab_getfield hX dX10_leftBySaid_30 (fs_X10_18_11 rfl) (cg_tr ht) rfl ?_
          refine ab_iload hX dX10_leftBySaid_33 mm3 ?_
          obtain ⟨r_, hr_, hc_⟩ := cL_readz hG (M := M) hM (i := i) (by omega) hL1 (by omega)
          refine ab_callV1r hX dX10_leftBySaid_35 (cg_al (by omega)) ss_X10_leftBySaid_47 hc_ (Nat.le_of_ble_eq_true rfl) ?_
          refine ab_castS hX dX10_leftBySaid_38 (cD_getz hM hr_) rfl tw_333 ?_
          refine ab_getfield hX dX10_leftBySaid_41 (fs_X10_72_8 rfl) (cD_getz hM hr_) rfl ?_
          refine ab_ldc2 hX dX10_leftBySaid_44 tw_588 ?_
          refine ab_lxor hX dX10_leftBySaid_47 ?_
          refine ab_land hX dX10_leftBySaid_48 ?_
          refine ab_lstore hX dX10_leftBySaid_49 (by decide) rfl ?_
          refine ab_iinc hX dX10_leftBySaid_51 mm3 rfl (by decide) rfl ?_
          refine ab_goto (tgt := 6) hX dX10_leftBySaid_54 (by decide) ?_
          exact ab_pm4 mm2 (mmv3 (congrArg Value.int (by first | exact (nI_1 _).symm | rfl | (rw [acc_s]; first | rfl | (simp only [lbG, h_1, h_2, ↓reduceIte, Bool.false_eq_true]; done) | (simp only [lbG, h_1, h_2, ↓reduceIte, Bool.false_eq_true]; rfl))))) (mmv1 (congrArg Value.long (by first | exact (nI_1 _).symm | rfl | (rw [acc_s]; first | rfl | (simp only [lbG, h_1, h_2, ↓reduceIte, Bool.false_eq_true]; done) | (simp only [lbG, h_1, h_2, ↓reduceIte, Bool.false_eq_true]; rfl))))) (mmv0 (congrArg Value.int (by first | exact (nI_1 _).symm | rfl | (rw [acc_s]; first | rfl | (simp only [lbG, h_1, h_2, ↓reduceIte, Bool.false_eq_true]; done) | (simp only [lbG, h_1, h_2, ↓reduceIte, Bool.false_eq_true]; rfl))))) (ih6 (_) (by omega) (i + 1) (by omega) rfl)
  exact ab_pm4 mm2 (mmv4 (congrArg Value.int (by rfl))) (mmv1 (congrArg Value.long (by rfl))) (mmv0 (congrArg Value.int (by rfl))) (L6 _ 0 (by omega) rfl)
theorem cm_X10_leftz {G : ab_G} (hG : ab_GG G) {c : CS} {M D : List ab_E} (hM : M.length = 0) {t : Nat} (ht : t < 3) {nl : Nat} {ql : Nat → SY} (hL0 : cLz c D (2 * t) nl ql) {ns : Nat} {qs : Nat → SY} (hL1 : cLz c D (2 * t + 1) ns qs)  : ab_CM G mX10_left [.ref (trR t)] (cH c M D) (some (.long (lfT ql nl qs ns))) (cH c M D) := by
  refine ab_meth (l0 := [(0, .ref (trR t))]) hG (by decide +kernel) rfl (Nat.le_of_ble_eq_true rfl) (Nat.le_refl _) (Nat.le_refl _) (fun X hX hF => ?_)
  have h10 := hL0.2.1
  have h11 := hL1.2.1
  refine ab_aload_n hX dX10_left_0 mm0 ?_
  refine ab_aload_n hX dX10_left_1 mm0 ?_
  refine ab_callV0r hX dX10_left_2 (cg_tr ht) ss_X10_left_76 (cm_X10_mayBez hG hM ht hL0) (Nat.le_of_ble_eq_true rfl) ?_
  refine ab_iconst (v := (-1)) hX dX10_left_5 (by decide) ?_
  refine ab_callV2r hX dX10_left_6 (cg_tr ht) ss_X10_left_80 (cm_X10_leftBySaidz hG hM ht hL1) (Nat.le_of_ble_eq_true rfl) ?_
  exact ab_lreturn hX hF dX10_left_9 rfl (congrArg some (congrArg Value.long (by rfl))) (by rfl)
theorem cm_X10_leftByTellersz {G : ab_G} (hG : ab_GG G) {c : CS} {M D : List ab_E} (hM : M.length = 0) {t : Nat} (ht : t < 3) {nl : Nat} {ql : Nat → SY} (hL0 : cLz c D (2 * t) nl ql) {ns : Nat} {qs : Nat → SY} (hL1 : cLz c D (2 * t + 1) ns qs) {set : Int32} : ab_CM G mX10_leftByTellers [.ref (trR t), .int set] (cH c M D) (some (.long (ltT ql nl qs ns set))) (cH c M D) := by
  refine ab_meth (l0 := [(0, .ref (trR t)), (1, .int set)]) hG (by decide +kernel) rfl (Nat.le_of_ble_eq_true rfl) (Nat.le_refl _) (Nat.le_refl _) (fun X hX hF => ?_)
  have h10 := hL0.2.1
  have h11 := hL1.2.1
  refine ab_iconst (v := 0) hX dX10_leftByTellers_0 (by decide) ?_
  refine ab_istore_n hX dX10_leftByTellers_1 rfl (by decide) rfl ?_
  refine ab_iconst (v := 0) hX dX10_leftByTellers_2 (by decide) ?_
  refine ab_istore_n hX dX10_leftByTellers_3 rfl (by decide) rfl ?_
  have L4 : ∀ (k4_ : Nat) (i : Nat) (hi_ : i ≤ ns), k4_ = ns - i → ab_WA G mX10_leftByTellers X 4 [(0, .ref (trR t)), (1, .int set), (2, .int (acc (tlG qs set) 0 i)), (3, .int (nI i))] [] (cH c M D) := by
    intro k4_
    induction k4_ using Nat.strongRecOn with
    | _ k4_ ih4 =>
      intro i hi_ hk4_
      refine ab_iload_n hX dX10_leftByTellers_4 mm3 ?_
      refine ab_aload_n hX dX10_leftByTellers_5 mm0 ?_
      refine ab_getfield hX dX10_leftByTellers_6 (fs_X10_18_11 rfl) (cg_tr ht) rfl ?_
      refine ab_callV0r hX dX10_leftByTellers_9 (cg_al (by omega)) ss_X10_leftByTellers_43 (cm_Jx4a65c_size_8abf5 hG (cg_al (by omega))) (Nat.le_of_ble_eq_true rfl) ?_
      refine ab_icmpge (tgt := 48) hX dX10_leftByTellers_12 (by decide) (fun h_1 => ?_) (fun h_1 => ?_)
      ·
        have hx_ := ctE (N := ns) h_1 (by exact hL1.1) (by omega) (by omega)
        obtain rfl : ns = i := by omega
        refine ab_aload_n hX dX10_leftByTellers_48 mm0 ?_
        refine ab_aload_n hX dX10_leftByTellers_49 mm0 ?_
        refine ab_callV0r hX dX10_leftByTellers_50 (cg_tr ht) ss_X10_leftByTellers_76 (cm_X10_mayBez hG hM ht hL0) (Nat.le_of_ble_eq_true rfl) ?_
        refine ab_iload_n hX dX10_leftByTellers_53 mm2 ?_
        refine ab_callV2r hX dX10_leftByTellers_54 (cg_tr ht) ss_X10_leftByTellers_80 (cm_X10_leftBySaidz hG hM ht hL1) (Nat.le_of_ble_eq_true rfl) ?_
        exact ab_lreturn hX hF dX10_leftByTellers_57 rfl (congrArg some (congrArg Value.long (by rfl))) (by rfl)
      ·
        have hlt_ := ctL (N := ns) h_1 (by exact hL1.1) (by omega) (by omega)
        refine ab_iload_n hX dX10_leftByTellers_15 mm1 ?_
        refine ab_aload_n hX dX10_leftByTellers_16 mm0 ?_
        refine ab_getfield hX dX10_leftByTellers_17 (fs_X10_18_11 rfl) (cg_tr ht) rfl ?_
        refine ab_iload_n hX dX10_leftByTellers_20 mm3 ?_
        obtain ⟨r_, hr_, hc_⟩ := cL_readz hG (M := M) hM (i := i) (by omega) hL1 (by omega)
        refine ab_callV1r hX dX10_leftByTellers_21 (cg_al (by omega)) ss_X10_leftByTellers_47 hc_ (Nat.le_of_ble_eq_true rfl) ?_
        refine ab_castS hX dX10_leftByTellers_24 (cD_getz hM hr_) rfl tw_333 ?_
        refine ab_getfield hX dX10_leftByTellers_27 (fs_X10_57_8 rfl) (cD_getz hM hr_) rfl ?_
        refine ab_ishr hX dX10_leftByTellers_30 ?_
        refine ab_iconst (v := 1) hX dX10_leftByTellers_31 (by decide) ?_
        refine ab_iand hX dX10_leftByTellers_32 ?_
        refine ab_ifeq (tgt := 42) hX dX10_leftByTellers_33 (by decide) (fun h_2 => ?_) (fun h_2 => ?_)
        ·
          refine ab_iinc hX dX10_leftByTellers_42 mm3 rfl (by decide) rfl ?_
          refine ab_goto (tgt := 4) hX dX10_leftByTellers_45 (by decide) ?_
          exact ab_pm4 mm1 (mmv2 (congrArg Value.int (by first | exact (nI_1 _).symm | rfl | (rw [acc_s]; first | rfl | (simp only [tlG, h_1, h_2, ↓reduceIte, Bool.false_eq_true]; done) | (simp only [tlG, h_1, h_2, ↓reduceIte, Bool.false_eq_true]; rfl))))) (mmv3 (congrArg Value.int (by first | exact (nI_1 _).symm | rfl | (rw [acc_s]; first | rfl | (simp only [tlG, h_1, h_2, ↓reduceIte, Bool.false_eq_true]; done) | (simp only [tlG, h_1, h_2, ↓reduceIte, Bool.false_eq_true]; rfl))))) (mmv0 (congrArg Value.int (by first | exact (nI_1 _).symm | rfl | (rw [acc_s]; first | rfl | (simp only [tlG, h_1, h_2, ↓reduceIte, Bool.false_eq_true]; done) | (simp only [tlG, h_1, h_2, ↓reduceIte, Bool.false_eq_true]; rfl))))) (ih4 (_) (by omega) (i + 1) (by omega) rfl)
        ·
          refine ab_iload_n hX dX10_leftByTellers_36 mm2 ?_
          refine ab_iconst (v := 1) hX dX10_leftByTellers_37 (by decide) ?_
          refine ab_iload_n hX dX10_leftByTellers_38 mm3 ?_
          refine ab_ishl hX dX10_leftByTellers_39 ?_
          refine ab_ior hX dX10_leftByTellers_40 ?_
          refine ab_istore_n hX dX10_leftByTellers_41 rfl (by decide) rfl ?_
          refine ab_iinc hX dX10_leftByTellers_42 mm3 rfl (by decide) rfl ?_
          refine ab_goto (tgt := 4) hX dX10_leftByTellers_45 (by decide) ?_
          exact ab_pm4 mm2 (mmv3 (congrArg Value.int (by first | exact (nI_1 _).symm | rfl | (rw [acc_s]; first | rfl | (simp only [tlG, h_1, h_2, ↓reduceIte, Bool.false_eq_true]; done) | (simp only [tlG, h_1, h_2, ↓reduceIte, Bool.false_eq_true]; rfl))))) (mmv1 (congrArg Value.int (by first | exact (nI_1 _).symm | rfl | (rw [acc_s]; first | rfl | (simp only [tlG, h_1, h_2, ↓reduceIte, Bool.false_eq_true]; done) | (simp only [tlG, h_1, h_2, ↓reduceIte, Bool.false_eq_true]; rfl))))) (mmv0 (congrArg Value.int (by first | exact (nI_1 _).symm | rfl | (rw [acc_s]; first | rfl | (simp only [tlG, h_1, h_2, ↓reduceIte, Bool.false_eq_true]; done) | (simp only [tlG, h_1, h_2, ↓reduceIte, Bool.false_eq_true]; rfl))))) (ih4 (_) (by omega) (i + 1) (by omega) rfl)
  exact ab_pm4 mm2 (mmv3 (congrArg Value.int (by rfl))) (mmv1 (congrArg Value.int (by rfl))) (mmv0 (congrArg Value.int (by rfl))) (L4 _ 0 (by omega) rfl)
theorem cm_X10_isPlainByz {G : ab_G} (hG : ab_GG G) {c : CS} {M D : List ab_E} (hM : M.length = 0) {t : Nat} (ht : t < 3) {nl : Nat} {ql : Nat → SY} (hL0 : cLz c D (2 * t) nl ql) {ns : Nat} {qs : Nat → SY} (hL1 : cLz c D (2 * t + 1) ns qs) {set : Int32} : ab_CM G mX10_isPlainBy [.ref (trR t), .int set] (cH c M D) (some (.int (bi (ipT ql nl qs ns set)))) (cH c M D) := by
  refine ab_meth (l0 := [(0, .ref (trR t)), (1, .int set)]) hG (by decide +kernel) rfl (Nat.le_of_ble_eq_true rfl) (Nat.le_refl _) (Nat.le_refl _) (fun X hX hF => ?_)
  have h10 := hL0.2.1
  have h11 := hL1.2.1
  refine ab_aload_n hX dX10_isPlainBy_0 mm0 ?_
  refine ab_iload_n hX dX10_isPlainBy_1 mm1 ?_
  refine ab_callV1r hX dX10_isPlainBy_2 (cg_tr ht) ss_X10_isPlainBy_87 (cm_X10_leftByTellersz hG hM ht hL0 hL1) (Nat.le_of_ble_eq_true rfl) ?_
  refine ab_callS1r hX dX10_isPlainBy_5 ss_X10_isPlainBy_91 (cm_J13_bitCount_95d88 hG) (Nat.le_of_ble_eq_true rfl) ?_
  refine ab_iconst (v := 1) hX dX10_isPlainBy_8 (by decide) ?_
  refine ab_icmpgt (tgt := 16) hX dX10_isPlainBy_9 (by decide) (fun h_1 => ?_) (fun h_1 => ?_)
  ·
    refine ab_iconst (v := 0) hX dX10_isPlainBy_16 (by decide) ?_
    exact ab_ireturn hX hF dX10_isPlainBy_17 rfl (by first | rfl | exact bi_n _) (congrArg some (congrArg Value.int (by simp only [ipT, h_1, decide_true, decide_false, Bool.true_and, Bool.false_and, Bool.and_true, Bool.and_false, Bool.not_true, Bool.not_false, Bool.or_true, Bool.true_or, Bool.false_or, Bool.or_false, bi_t, bi_f]))) (by rfl)
  ·
    refine ab_iconst (v := 1) hX dX10_isPlainBy_12 (by decide) ?_
    refine ab_goto (tgt := 17) hX dX10_isPlainBy_13 (by decide) ?_
    exact ab_ireturn hX hF dX10_isPlainBy_17 rfl (by first | rfl | exact bi_n _) (congrArg some (congrArg Value.int (by simp only [ipT, h_1, decide_true, decide_false, Bool.true_and, Bool.false_and, Bool.and_true, Bool.and_false, Bool.not_true, Bool.not_false, Bool.or_true, Bool.true_or, Bool.false_or, Bool.or_false, bi_t, bi_f]))) (by rfl)
theorem cm_X11_clashz {G : ab_G} (hG : ab_GG G) {c : CS} {M D : List ab_E} (hM : M.length = 0)  {nl : Nat} {ql : Nat → SY} (hL0 : cLz c D (2 * 0) nl ql) {ns : Nat} {qs : Nat → SY} (hL1 : cLz c D (2 * 0 + 1) ns qs)  : ab_CM G mX11_clash [.ref 0] (cH c M D) (some (.int (clR ns (clQ ql nl qs) ns 0))) (cH c M D) := by
  refine ab_meth (l0 := [(0, .ref 0)]) hG (by decide +kernel) rfl (Nat.le_of_ble_eq_true rfl) (Nat.le_refl _) (Nat.le_refl _) (fun X hX hF => ?_)
  have h10 := hL0.2.1
  have h11 := hL1.2.1
  refine ab_aload_n hX dX11_clash_0 mm0 ?_
  refine ab_getfield hX dX11_clash_1 (fs_X11_25_12 rfl) cg_x rfl ?_
  refine ab_callV0r hX dX11_clash_4 (cg_tr (show 0 < 3 by decide)) ss_X11_clash_216 (cm_X10_mayBez hG hM (show 0 < 3 by decide) hL0) (Nat.le_of_ble_eq_true rfl) ?_
  refine ab_lstore_n hX dX11_clash_7 rfl (by decide) rfl ?_
  refine ab_iconst (v := 0) hX dX11_clash_8 (by decide) ?_
  refine ab_istore_n hX dX11_clash_9 rfl (by decide) rfl ?_
  have L10 : ∀ (k10_ : Nat) (i : Nat) (hi_ : i ≤ ns) (hr : clR ns (clQ ql nl qs) (ns - i) i = clR ns (clQ ql nl qs) ns 0), k10_ = ns - i → ab_WA G mX11_clash X 10 [(0, .ref 0), (1, .long (mbT ql nl)), (3, .int (nI i))] [] (cH c M D) := by
    intro k10_
    induction k10_ using Nat.strongRecOn with
    | _ k10_ ih10 =>
      intro i hi_ hr hk10_
      refine ab_iload_n hX dX11_clash_10 mm2 ?_
      refine ab_aload_n hX dX11_clash_11 mm0 ?_
      refine ab_getfield hX dX11_clash_12 (fs_X11_25_12 rfl) cg_x rfl ?_
      refine ab_getfield hX dX11_clash_15 (fs_X11_107_11 rfl) (cg_tr (show 0 < 3 by decide)) rfl ?_
      refine ab_callV0r hX dX11_clash_18 (cg_al (by omega)) ss_X11_clash_163 (cm_Jx4a65c_size_8abf5 hG (cg_al (by omega))) (Nat.le_of_ble_eq_true rfl) ?_
      refine ab_icmpge (tgt := 139) hX dX11_clash_21 (by decide) (fun h_1 => ?_) (fun h_1 => ?_)
      ·
        have hx_ := ctE (N := ns) h_1 (by exact hL1.1) (by omega) (by omega)
        obtain rfl : ns = i := by omega
        refine ab_bipush (v := (-4)) hX dX11_clash_139 (by decide) ?_
        exact ab_ireturn hX hF dX11_clash_141 rfl (by rfl) (congrArg some (congrArg Value.int (by rw [← hr, Nat.sub_self]; rfl))) (by rfl)
      ·
        have hlt_ := ctL (N := ns) h_1 (by exact hL1.1) (by omega) (by omega)
        refine ab_lload_n hX dX11_clash_24 mm1 ?_
        refine ab_aload_n hX dX11_clash_25 mm0 ?_
        refine ab_getfield hX dX11_clash_26 (fs_X11_25_12 rfl) cg_x rfl ?_
        refine ab_getfield hX dX11_clash_29 (fs_X11_107_11 rfl) (cg_tr (show 0 < 3 by decide)) rfl ?_
        refine ab_iload_n hX dX11_clash_32 mm2 ?_
        obtain ⟨r_, hr_, hc_⟩ := cL_readz hG (M := M) hM (i := i) (by omega) hL1 (by omega)
        refine ab_callV1r hX dX11_clash_33 (cg_al (by omega)) ss_X11_clash_221 hc_ (Nat.le_of_ble_eq_true rfl) ?_
        refine ab_castS hX dX11_clash_36 (cD_getz hM hr_) rfl tw_359 ?_
        refine ab_getfield hX dX11_clash_39 (fs_X11_110_8 rfl) (cD_getz hM hr_) rfl ?_
        refine ab_ldc2 hX dX11_clash_42 tw_620 ?_
        refine ab_lxor hX dX11_clash_45 ?_
        refine ab_land hX dX11_clash_46 ?_
        refine ab_lstore hX dX11_clash_47 (by decide) rfl ?_
        refine ab_iload_n hX dX11_clash_49 mm3 ?_
        refine ab_iconst (v := 1) hX dX11_clash_50 (by decide) ?_
        refine ab_iadd hX dX11_clash_51 ?_
        refine ab_istore hX dX11_clash_52 (by decide) rfl ?_
        have L54 : ∀ (k54_ : Nat) (j : Nat) (hj_ : i + 1 ≤ j ∧ j ≤ ns) (hq : fnd (clQ ql nl qs i) (ns - j) j = fnd (clQ ql nl qs i) (ns - (i + 1)) (i + 1)), k54_ = ns - j → ab_WA G mX11_clash X 54 [(0, .ref 0), (1, .long (mbT ql nl)), (3, .int (nI i)), (4, .long (mbT ql nl &&& (wY (qs i) ^^^ (-1)))), (6, .int (nI j))] [] (cH c M D) := by
          intro k54_
          induction k54_ using Nat.strongRecOn with
          | _ k54_ ih54 =>
            intro j hj_ hq hk54_
            refine ab_iload hX dX11_clash_54 mm4 ?_
            refine ab_aload_n hX dX11_clash_56 mm0 ?_
            refine ab_getfield hX dX11_clash_57 (fs_X11_25_12 rfl) cg_x rfl ?_
            refine ab_getfield hX dX11_clash_60 (fs_X11_107_11 rfl) (cg_tr (show 0 < 3 by decide)) rfl ?_
            refine ab_callV0r hX dX11_clash_63 (cg_al (by omega)) ss_X11_clash_163 (cm_Jx4a65c_size_8abf5 hG (cg_al (by omega))) (Nat.le_of_ble_eq_true rfl) ?_
            refine ab_icmpge (tgt := 133) hX dX11_clash_66 (by decide) (fun h_2 => ?_) (fun h_2 => ?_)
            ·
              have hx_ := ctE (N := ns) h_2 (by exact hL1.1) (by omega) (by omega)
              obtain rfl : ns = j := by omega
              refine ab_iinc hX dX11_clash_133 mm2 rfl (by decide) rfl ?_
              refine ab_goto (tgt := 10) hX dX11_clash_136 (by decide) ?_
              exact ab_pm3 mm1 (mmv2 (congrArg Value.long (by first | rfl | exact (nI_1 _).symm))) (mmv0 (congrArg Value.int (by first | rfl | exact (nI_1 _).symm))) (ih10 (_) (by omega) (i + 1) (by omega) ((clR_miss (k := ns - i) (by omega) (by rw [← hq, Nat.sub_self]; rfl)).trans hr) rfl)
            ·
              have hltj_ := ctL (N := ns) h_2 (by exact hL1.1) (by omega) (by omega)
              refine ab_lload_n hX dX11_clash_69 mm1 ?_
              refine ab_aload_n hX dX11_clash_70 mm0 ?_
              refine ab_getfield hX dX11_clash_71 (fs_X11_25_12 rfl) cg_x rfl ?_
              refine ab_getfield hX dX11_clash_74 (fs_X11_107_11 rfl) (cg_tr (show 0 < 3 by decide)) rfl ?_
              refine ab_iload hX dX11_clash_77 mm4 ?_
              obtain ⟨r_, hr_, hc_⟩ := cL_readz hG (M := M) hM (i := j) (by omega) hL1 (by omega)
              refine ab_callV1r hX dX11_clash_79 (cg_al (by omega)) ss_X11_clash_221 hc_ (Nat.le_of_ble_eq_true rfl) ?_
              refine ab_castS hX dX11_clash_82 (cD_getz hM hr_) rfl tw_359 ?_
              refine ab_getfield hX dX11_clash_85 (fs_X11_110_8 rfl) (cD_getz hM hr_) rfl ?_
              refine ab_ldc2 hX dX11_clash_88 tw_620 ?_
              refine ab_lxor hX dX11_clash_91 ?_
              refine ab_land hX dX11_clash_92 ?_
              refine ab_lstore hX dX11_clash_93 (by decide) rfl ?_
              refine ab_lload hX dX11_clash_95 mm4 ?_
              refine ab_lconst (v := 0) hX dX11_clash_97 rfl ?_
              refine ab_lcmp hX dX11_clash_98 ?_
              refine ab_ifeqC (tgt := 127) hX dX11_clash_99 (by decide) (fun h_3 => ?_) (fun h_3 => ?_)
              ·
                refine ab_iinc hX dX11_clash_127 mm5 rfl (by decide) rfl ?_
                refine ab_goto (tgt := 54) hX dX11_clash_130 (by decide) ?_
                exact ab_pm5 mm2 (mmv3 (congrArg Value.long (by first | exact (nI_1 _).symm | rfl))) (mmv4 (congrArg Value.int (by first | exact (nI_1 _).symm | rfl))) (mmv5 (congrArg Value.long (by first | exact (nI_1 _).symm | rfl))) (mmv0 (congrArg Value.int (by first | exact (nI_1 _).symm | rfl))) (ih54 (_) (by omega) (j + 1) (by omega) ((fnd_miss (k := ns - j) (by simp only [clQ, h_1, h_2, h_3, decide_true, decide_false, Bool.not_true, Bool.not_false, Bool.and_true, Bool.and_false, Bool.true_and, Bool.false_and]) (by omega)).trans hq) rfl)
              ·
                refine ab_lload hX dX11_clash_102 mm0 ?_
                refine ab_lconst (v := 0) hX dX11_clash_104 rfl ?_
                refine ab_lcmp hX dX11_clash_105 ?_
                refine ab_ifeqC (tgt := 127) hX dX11_clash_106 (by decide) (fun h_4 => ?_) (fun h_4 => ?_)
                ·
                  refine ab_iinc hX dX11_clash_127 mm5 rfl (by decide) rfl ?_
                  refine ab_goto (tgt := 54) hX dX11_clash_130 (by decide) ?_
                  exact ab_pm5 mm2 (mmv3 (congrArg Value.long (by first | exact (nI_1 _).symm | rfl))) (mmv4 (congrArg Value.int (by first | exact (nI_1 _).symm | rfl))) (mmv5 (congrArg Value.long (by first | exact (nI_1 _).symm | rfl))) (mmv0 (congrArg Value.int (by first | exact (nI_1 _).symm | rfl))) (ih54 (_) (by omega) (j + 1) (by omega) ((fnd_miss (k := ns - j) (by simp only [clQ, h_1, h_2, h_3, h_4, decide_true, decide_false, Bool.not_true, Bool.not_false, Bool.and_true, Bool.and_false, Bool.true_and, Bool.false_and]) (by omega)).trans hq) rfl)
                ·
                  refine ab_lload hX dX11_clash_109 mm4 ?_
                  refine ab_lload hX dX11_clash_111 mm0 ?_
                  refine ab_land hX dX11_clash_113 ?_
                  refine ab_lconst (v := 0) hX dX11_clash_114 rfl ?_
                  refine ab_lcmp hX dX11_clash_115 ?_
                  refine ab_ifneC (tgt := 127) hX dX11_clash_116 (by decide) (fun h_5 => ?_) (fun h_5 => ?_)
                  ·
                    refine ab_iinc hX dX11_clash_127 mm5 rfl (by decide) rfl ?_
                    refine ab_goto (tgt := 54) hX dX11_clash_130 (by decide) ?_
                    exact ab_pm5 mm2 (mmv3 (congrArg Value.long (by first | exact (nI_1 _).symm | rfl))) (mmv4 (congrArg Value.int (by first | exact (nI_1 _).symm | rfl))) (mmv5 (congrArg Value.long (by first | exact (nI_1 _).symm | rfl))) (mmv0 (congrArg Value.int (by first | exact (nI_1 _).symm | rfl))) (ih54 (_) (by omega) (j + 1) (by omega) ((fnd_miss (k := ns - j) (by simp only [clQ, h_1, h_2, h_3, h_4, h_5, decide_true, decide_false, Bool.not_true, Bool.not_false, Bool.and_true, Bool.and_false, Bool.true_and, Bool.false_and]) (by omega)).trans hq) rfl)
                  ·
                    refine ab_bipush (v := 10) hX dX11_clash_119 (by decide) ?_
                    refine ab_iload_n hX dX11_clash_121 mm3 ?_
                    refine ab_imul hX dX11_clash_122 ?_
                    refine ab_iload hX dX11_clash_123 mm5 ?_
                    refine ab_iadd hX dX11_clash_125 ?_
                    exact ab_ireturn hX hF dX11_clash_126 rfl (by rfl) (congrArg some (congrArg Value.int (by rw [← hr]; exact clR_hit (by omega) (by rw [← hq]; exact fnd_hit (by simp only [clQ, h_1, h_2, h_3, h_4, h_5, decide_true, decide_false, Bool.not_true, Bool.not_false, Bool.and_true, Bool.true_and]) (by omega))))) (by rfl)
        exact ab_pm5 mm2 (mmv3 (congrArg Value.long (by rfl))) (mmv4 (congrArg Value.int (by rfl))) (mmv1 (congrArg Value.long (by rfl))) (mmv0 (congrArg Value.int (by exact (nI_1 _).symm))) (L54 _ (i + 1) (by omega) rfl rfl)
  exact ab_pm3 mm2 (mmv1 (congrArg Value.long (by rfl))) (mmv0 (congrArg Value.int (by rfl))) (L10 _ 0 (by omega) rfl rfl)
theorem cm_X11_askz {G : ab_G} (hG : ab_GG G) {c : CS} {M D : List ab_E} (hM : M.length = 0)  {nl : Nat} {ql : Nat → SY} (hL0 : cLz c D (2 * 0) nl ql) {ns : Nat} {qs : Nat → SY} (hL1 : cLz c D (2 * 0 + 1) ns qs)  : ab_CM G mX11_ask [.ref 0] (cH c M D) (some (.int (askC ql nl qs ns))) (cH c M D) := by
  refine ab_meth (l0 := [(0, .ref 0)]) hG (by decide +kernel) rfl (Nat.le_of_ble_eq_true rfl) (Nat.le_refl _) (Nat.le_refl _) (fun X hX hF => ?_)
  have h10 := hL0.2.1
  have h11 := hL1.2.1
  refine ab_aload_n hX dX11_ask_0 mm0 ?_
  refine ab_getfield hX dX11_ask_1 (fs_X11_25_12 rfl) cg_x rfl ?_
  refine ab_callV0r hX dX11_ask_4 (cg_tr (show 0 < 3 by decide)) ss_X11_ask_198 (cm_X10_leftz hG hM (show 0 < 3 by decide) hL0 hL1) (Nat.le_of_ble_eq_true rfl) ?_
  refine ab_lstore_n hX dX11_ask_7 rfl (by decide) rfl ?_
  refine ab_lload_n hX dX11_ask_8 mm0 ?_
  refine ab_lconst (v := 0) hX dX11_ask_9 rfl ?_
  refine ab_lcmp hX dX11_ask_10 ?_
  refine ab_ifneC (tgt := 17) hX dX11_ask_11 (by decide) (fun h_1 => ?_) (fun h_1 => ?_)
  ·
    refine ab_bipush (v := (-4)) hX dX11_ask_17 (by decide) ?_
    refine ab_istore_n hX dX11_ask_19 rfl (by decide) rfl ?_
    refine ab_iconst (v := (-1)) hX dX11_ask_20 (by decide) ?_
    refine ab_istore hX dX11_ask_21 (by decide) rfl ?_
    refine ab_iconst (v := 0) hX dX11_ask_23 (by decide) ?_
    refine ab_istore hX dX11_ask_24 (by decide) rfl ?_
    have L26 : ∀ (k26_ : Nat) (i : Nat) (hi_ : i ≤ 6), k26_ = 6 - i → ab_WA G mX11_ask X 26 [(0, .ref 0), (1, .long (lfT ql nl qs ns)), (3, .int (acc (akG (lfT ql nl qs ns)) (-4, -1) i).1), (4, .int (acc (akG (lfT ql nl qs ns)) (-4, -1) i).2), (5, .int (nI i))] [] (cH c M D) := by
      intro k26_
      induction k26_ using Nat.strongRecOn with
      | _ k26_ ih26 =>
        intro i hi_ hk26_
        refine ab_iload hX dX11_ask_26 mm4 ?_
        refine ab_bipush (v := 6) hX dX11_ask_28 (by decide) ?_
        refine ab_icmpge (tgt := 79) hX dX11_ask_30 (by decide) (fun h_2 => ?_) (fun h_2 => ?_)
        ·
          have hx_ := ctE (N := 6) h_2 (by rfl) (by omega) (by omega)
          obtain rfl : 6 = i := by omega
          refine ab_iload_n hX dX11_ask_79 mm2 ?_
          exact ab_ireturn hX hF dX11_ask_80 rfl (by rfl) (congrArg some (congrArg Value.int (by rw [askC, if_neg h_1]))) (by rfl)
        ·
          have hlt_ := ctL (N := 6) h_2 (by rfl) (by omega) (by omega)
          refine ab_lload_n hX dX11_ask_33 mm1 ?_
          refine ab_iload hX dX11_ask_34 mm4 ?_
          refine ab_callS1r hX dX11_ask_36 ss_X11_ask_233 (cm_X11_worldsWith hG) (Nat.le_of_ble_eq_true rfl) ?_
          refine ab_land hX dX11_ask_39 ?_
          refine ab_callS1r hX dX11_ask_40 ss_X11_ask_192 (cm_J13_bitCount_95d88 hG) (Nat.le_of_ble_eq_true rfl) ?_
          refine ab_istore hX dX11_ask_43 (by decide) rfl ?_
          refine ab_iload hX dX11_ask_45 mm0 ?_
          refine ab_lload_n hX dX11_ask_47 mm2 ?_
          refine ab_callS1r hX dX11_ask_48 ss_X11_ask_192 (cm_J13_bitCount_95d88 hG) (Nat.le_of_ble_eq_true rfl) ?_
          refine ab_iload hX dX11_ask_51 mm0 ?_
          refine ab_isub hX dX11_ask_53 ?_
          refine ab_mmin hX dX11_ask_54 tw_661 (by decide) (Nat.le_of_ble_eq_true rfl) ?_
          refine ab_istore hX dX11_ask_57 (by decide) rfl ?_
          refine ab_iload hX dX11_ask_59 mm0 ?_
          refine ab_iload hX dX11_ask_61 mm5 ?_
          refine ab_icmple (tgt := 73) hX dX11_ask_63 (by decide) (fun h_3 => ?_) (fun h_3 => ?_)
          ·
            refine ab_iinc hX dX11_ask_73 mm6 rfl (by decide) rfl ?_
            refine ab_goto (tgt := 26) hX dX11_ask_76 (by decide) ?_
            exact ab_pm5 mm3 (mmv4 (congrArg Value.long (by rfl))) (mmv5 (congrArg Value.int (by rw [acc_s]; try (first | rfl | (simp only [akG, h_1, h_2, h_3, ↓reduceIte, Bool.false_eq_true]; done) | (simp only [akG, h_1, h_2, h_3, ↓reduceIte, Bool.false_eq_true]; rfl) | (unfold akG; (repeat' split) <;> first | rfl | contradiction))))) (mmv6 (congrArg Value.int (by rw [acc_s]; try (first | rfl | (simp only [akG, h_1, h_2, h_3, ↓reduceIte, Bool.false_eq_true]; done) | (simp only [akG, h_1, h_2, h_3, ↓reduceIte, Bool.false_eq_true]; rfl) | (unfold akG; (repeat' split) <;> first | rfl | contradiction))))) (mmv0 (congrArg Value.int (by exact (nI_1 _).symm))) (ih26 (_) (by omega) (i + 1) (by omega) rfl)
          ·
            refine ab_iload hX dX11_ask_66 mm6 ?_
            refine ab_istore_n hX dX11_ask_68 rfl (by decide) rfl ?_
            refine ab_iload hX dX11_ask_69 mm1 ?_
            refine ab_istore hX dX11_ask_71 (by decide) rfl ?_
            refine ab_iinc hX dX11_ask_73 mm6 rfl (by decide) rfl ?_
            refine ab_goto (tgt := 26) hX dX11_ask_76 (by decide) ?_
            exact ab_pm5 mm5 (mmv6 (congrArg Value.long (by rfl))) (mmv2 (congrArg Value.int (by rw [acc_s]; try (first | rfl | (simp only [akG, h_1, h_2, h_3, ↓reduceIte, Bool.false_eq_true]; done) | (simp only [akG, h_1, h_2, h_3, ↓reduceIte, Bool.false_eq_true]; rfl) | (unfold akG; (repeat' split) <;> first | rfl | contradiction))))) (mmv1 (congrArg Value.int (by rw [acc_s]; try (first | rfl | (simp only [akG, h_1, h_2, h_3, ↓reduceIte, Bool.false_eq_true]; done) | (simp only [akG, h_1, h_2, h_3, ↓reduceIte, Bool.false_eq_true]; rfl) | (unfold akG; (repeat' split) <;> first | rfl | contradiction))))) (mmv0 (congrArg Value.int (by exact (nI_1 _).symm))) (ih26 (_) (by omega) (i + 1) (by omega) rfl)
    exact ab_pm5 mm4 (mmv3 (congrArg Value.long (by rfl))) (mmv2 (congrArg Value.int (by rfl))) (mmv1 (congrArg Value.int (by rfl))) (mmv0 (congrArg Value.int (by rfl))) (L26 _ 0 (by omega) rfl)
  ·
    refine ab_bipush (v := (-4)) hX dX11_ask_14 (by decide) ?_
    exact ab_ireturn hX hF dX11_ask_16 rfl (by rfl) (congrArg some (congrArg Value.int (by first | rfl | (simp only [askC, h_1, ↓reduceIte, Bool.false_eq_true]; done) | (simp only [askC, h_1, ↓reduceIte, Bool.false_eq_true]; rfl) | (unfold askC; (repeat' split) <;> first | rfl | contradiction | (simp_all; done))))) (by rfl)
theorem cm_X11_plainz {G : ab_G} (hG : ab_GG G) {c : CS} {M D : List ab_E} (hM : M.length = 0)  {nl : Nat} {ql : Nat → SY} (hL0 : cLz c D (2 * 0) nl ql) {ns : Nat} {qs : Nat → SY} (hL1 : cLz c D (2 * 0 + 1) ns qs) {nw : Nat} (hw : c.1 (10 + 0) = nI nw) (hw5 : nw ≤ 5)  : ab_CM G mX11_plain [.ref 0] (cH c M D) (some (.int (plainC ql nl qs ns nw))) (cH c M D) := by
  refine ab_meth (l0 := [(0, .ref 0)]) hG (by decide +kernel) rfl (Nat.le_of_ble_eq_true rfl) (Nat.le_refl _) (Nat.le_refl _) (fun X hX hF => ?_)
  have h10 := hL0.2.1
  have h11 := hL1.2.1
  obtain ⟨P, hP⟩ : ∃ P, P = 2 ^ nw := ⟨_, rfl⟩
  have hp_ : P ≤ 1024 := hP ▸ pw2b (by omega)
  refine ab_bipush (v := (-4)) hX dX11_plain_0 (by decide) ?_
  refine ab_istore_n hX dX11_plain_2 rfl (by decide) rfl ?_
  refine ab_bipush (v := 6) hX dX11_plain_3 (by decide) ?_
  refine ab_istore_n hX dX11_plain_5 rfl (by decide) rfl ?_
  refine ab_iconst (v := 0) hX dX11_plain_6 (by decide) ?_
  refine ab_istore_n hX dX11_plain_7 rfl (by decide) rfl ?_
  have L8 : ∀ (k8_ : Nat) (i : Nat) (hi_ : i ≤ P), k8_ = P - i → ab_WA G mX11_plain X 8 [(0, .ref 0), (1, .int (acc (plG ql nl qs ns) (-4, 6) i).1), (2, .int (acc (plG ql nl qs ns) (-4, 6) i).2), (3, .int (nI i))] [] (cH c M D) := by
    intro k8_
    induction k8_ using Nat.strongRecOn with
    | _ k8_ ih8 =>
      intro i hi_ hk8_
      refine ab_iload_n hX dX11_plain_8 mm3 ?_
      refine ab_iconst (v := 1) hX dX11_plain_9 (by decide) ?_
      refine ab_aload_n hX dX11_plain_10 mm0 ?_
      refine ab_getfield hX dX11_plain_11 (fs_X11_25_12 rfl) cg_x rfl ?_
      refine ab_getfield hX dX11_plain_14 (fs_X11_179_11 rfl) (cg_tr (show 0 < 3 by decide)) rfl ?_
      refine ab_ishl hX dX11_plain_17 ?_
      refine ab_icmpge (tgt := 55) hX dX11_plain_18 (by decide) (fun h_1 => ?_) (fun h_1 => ?_)
      ·
        have hx_ := ctE (N := P) h_1 (by show (1 : Int32) <<< (c.1 (10 + 0) &&& 31) = _; rw [hw, hP]; exact pw2 _ (by omega)) (by omega) (by omega)
        obtain rfl : P = i := by omega
        refine ab_iload_n hX dX11_plain_55 mm1 ?_
        exact ab_ireturn hX hF dX11_plain_56 rfl (by rfl) (congrArg some (congrArg Value.int (by subst hP; rfl))) (by rfl)
      ·
        have hlt_ := ctL (N := P) h_1 (by show (1 : Int32) <<< (c.1 (10 + 0) &&& 31) = _; rw [hw, hP]; exact pw2 _ (by omega)) (by omega) (by omega)
        refine ab_iload_n hX dX11_plain_21 mm3 ?_
        refine ab_callS1r hX dX11_plain_22 ss_X11_plain_224 (cm_J6_bitCount_0f7a4 hG) (Nat.le_of_ble_eq_true rfl) ?_
        refine ab_istore hX dX11_plain_25 (by decide) rfl ?_
        refine ab_iload hX dX11_plain_27 mm0 ?_
        refine ab_iload_n hX dX11_plain_29 mm3 ?_
        refine ab_icmpge (tgt := 49) hX dX11_plain_30 (by decide) (fun h_2 => ?_) (fun h_2 => ?_)
        ·
          refine ab_iinc hX dX11_plain_49 mm4 rfl (by decide) rfl ?_
          refine ab_goto (tgt := 8) hX dX11_plain_52 (by decide) ?_
          exact ab_pm4 mm2 (mmv3 (congrArg Value.int (by rw [acc_s]; try (first | rfl | (simp only [plG, h_1, h_2, ↓reduceIte, Bool.false_eq_true]; done) | (simp only [plG, h_1, h_2, ↓reduceIte, Bool.false_eq_true]; rfl) | (unfold plG; (repeat' split) <;> first | rfl | contradiction))))) (mmv4 (congrArg Value.int (by rw [acc_s]; try (first | rfl | (simp only [plG, h_1, h_2, ↓reduceIte, Bool.false_eq_true]; done) | (simp only [plG, h_1, h_2, ↓reduceIte, Bool.false_eq_true]; rfl) | (unfold plG; (repeat' split) <;> first | rfl | contradiction))))) (mmv0 (congrArg Value.int (by exact (nI_1 _).symm))) (ih8 (_) (by omega) (i + 1) (by omega) rfl)
        ·
          refine ab_aload_n hX dX11_plain_33 mm1 ?_
          refine ab_getfield hX dX11_plain_34 (fs_X11_25_12 rfl) cg_x rfl ?_
          refine ab_iload_n hX dX11_plain_37 mm4 ?_
          refine ab_callV1r hX dX11_plain_38 (cg_tr (show 0 < 3 by decide)) ss_X11_plain_242 (cm_X10_isPlainByz hG hM (show 0 < 3 by decide) hL0 hL1) (Nat.le_of_ble_eq_true rfl) ?_
          refine ab_ifeqB (tgt := 49) hX dX11_plain_41 (by decide) (fun h_3 => ?_) (fun h_3 => ?_)
          ·
            refine ab_iinc hX dX11_plain_49 mm4 rfl (by decide) rfl ?_
            refine ab_goto (tgt := 8) hX dX11_plain_52 (by decide) ?_
            exact ab_pm4 mm2 (mmv3 (congrArg Value.int (by rw [acc_s]; try (first | rfl | (simp only [plG, h_1, h_2, h_3, ↓reduceIte, Bool.false_eq_true]; done) | (simp only [plG, h_1, h_2, h_3, ↓reduceIte, Bool.false_eq_true]; rfl) | (unfold plG; (repeat' split) <;> first | rfl | contradiction))))) (mmv4 (congrArg Value.int (by rw [acc_s]; try (first | rfl | (simp only [plG, h_1, h_2, h_3, ↓reduceIte, Bool.false_eq_true]; done) | (simp only [plG, h_1, h_2, h_3, ↓reduceIte, Bool.false_eq_true]; rfl) | (unfold plG; (repeat' split) <;> first | rfl | contradiction))))) (mmv0 (congrArg Value.int (by exact (nI_1 _).symm))) (ih8 (_) (by omega) (i + 1) (by omega) rfl)
          ·
            refine ab_iload_n hX dX11_plain_44 mm4 ?_
            refine ab_istore_n hX dX11_plain_45 rfl (by decide) rfl ?_
            refine ab_iload hX dX11_plain_46 mm1 ?_
            refine ab_istore_n hX dX11_plain_48 rfl (by decide) rfl ?_
            refine ab_iinc hX dX11_plain_49 mm4 rfl (by decide) rfl ?_
            refine ab_goto (tgt := 8) hX dX11_plain_52 (by decide) ?_
            exact ab_pm4 mm4 (mmv2 (congrArg Value.int (by rw [acc_s]; try (first | rfl | (simp only [plG, h_1, h_2, h_3, ↓reduceIte, Bool.false_eq_true]; done) | (simp only [plG, h_1, h_2, h_3, ↓reduceIte, Bool.false_eq_true]; rfl) | (unfold plG; (repeat' split) <;> first | rfl | contradiction))))) (mmv1 (congrArg Value.int (by rw [acc_s]; try (first | rfl | (simp only [plG, h_1, h_2, h_3, ↓reduceIte, Bool.false_eq_true]; done) | (simp only [plG, h_1, h_2, h_3, ↓reduceIte, Bool.false_eq_true]; rfl) | (unfold plG; (repeat' split) <;> first | rfl | contradiction))))) (mmv0 (congrArg Value.int (by exact (nI_1 _).symm))) (ih8 (_) (by omega) (i + 1) (by omega) rfl)
  exact ab_pm4 mm3 (mmv2 (congrArg Value.int (by rfl))) (mmv1 (congrArg Value.int (by rfl))) (mmv0 (congrArg Value.int (by rfl))) (L8 _ 0 (by omega) rfl)
def adPz (l r : Nat) (p : CD) : CD := match p.1.2.2.2 l with
  | .ref a => (setL p.1 l (p.1.1 (40 + l) + 1) (p.1.1 (30 + l) + 1) (.ref a), p.2.set (a - 42) (.inl (2, 10, .inr (.inr (.inr (.inr (va_up (arrF p.2[a - 42]?) (tn (p.1.1 (30 + l))) (some r))))))))
  | _ => (setL p.1 l (p.1.1 (40 + l) + 1) 1 (.ref (42 + p.2.length)), p.2 ++ [.inl (2, 10, .inr (.inr (.inr (.inr (va_up (fun _ => none) 0 (some r))))))])
def clPz (l : Nat) (p : CD) : CD := match p.1.2.2.2 l with
  | .ref a => (setL p.1 l (p.1.1 (40 + l) + 1) 0 (.ref a), p.2.set (a - 42) (.inl (2, 10, .inr (.inr (.inr (.inr (clF (arrF p.2[a - 42]?) (tn (p.1.1 (30 + l))))))))))
  | v => (setL p.1 l (p.1.1 (40 + l) + 1) 0 v, p.2)
theorem adP_0z {l r : Nat} {c : CS} {D : List ab_E} (h : c.2.2.2 l = .float 0) : adPz l r (c, D) = (setL c l (c.1 (40 + l) + 1) 1 (.ref (42 + D.length)), D ++ [.inl (2, 10, .inr (.inr (.inr (.inr (va_up (fun _ => none) 0 (some r))))))]) := by
  unfold adPz
  simp only [h]
theorem adP_1z {l r n e : Nat} {f : Nat → Option Nat} {c : CS} {D : List ab_E} (h : c.2.2.2 l = .ref (42 + e)) (hD : D[e]? = some (.inl (2, 10, .inr (.inr (.inr (.inr (f))))))) (hn : c.1 (30 + l) = nI n) (hn2 : n ≤ 10) : adPz l r (c, D) = (setL c l (c.1 (40 + l) + 1) (nI (n + 1)) (.ref (42 + e)), D.set e (.inl (2, 10, .inr (.inr (.inr (.inr (va_up f n (some r)))))))) := by
  unfold adPz
  simp only [h, Nat.add_sub_cancel_left, hD, arrF, hn, nI_1, tn_nI (show n < 2147483648 by omega)]
theorem clP_0z {l : Nat} {c : CS} {D : List ab_E} (h : c.2.2.2 l = .float 0) : clPz l (c, D) = (setL c l (c.1 (40 + l) + 1) 0 (.float 0), D) := by
  unfold clPz
  simp only [h]
theorem clP_1z {l n e : Nat} {f : Nat → Option Nat} {c : CS} {D : List ab_E} (h : c.2.2.2 l = .ref (42 + e)) (hD : D[e]? = some (.inl (2, 10, .inr (.inr (.inr (.inr (f))))))) (hn : c.1 (30 + l) = nI n) (hn2 : n ≤ 10) : clPz l (c, D) = (setL c l (c.1 (40 + l) + 1) 0 (.ref (42 + e)), D.set e (.inl (2, 10, .inr (.inr (.inr (.inr (clF f n))))))) := by
  unfold clPz
  simp only [h, Nat.add_sub_cancel_left, hD, arrF, hn, tn_nI (show n < 2147483648 by omega)]
theorem alR_ltz {l : Nat} : alR l < 42 := by
  unfold alR
  split <;> decide
/-- a saying comes to a list -/
theorem cP_addz {G : ab_G} (hG : ab_GG G) {c : CS} {M D : List ab_E} (hM : M.length = 0) {l n r : Nat} {q : Nat → SY} {fs : List Value} (hl : l < 6) (hL : cLz c D l n q) (hn : n < 10) (hr : (cH c M D)[r]? = some (.inr (8, fs))) : ab_CM G mJx4a65c_add_9ea2d [.ref (alR l), .ref r] (cH c M D) (some (.int 1)) (cH (adPz l r (c, D)).1 M (adPz l r (c, D)).2) := by
  obtain ⟨h1, h2, h3, h4⟩ := hL
  rcases h3 with ⟨rfl, hv⟩ | ⟨e, f, hv, hD, -⟩
  · have z := al_add0 hG (cg_b (M := M) (D := D) hl hv h1) hr rfl tw_949 (al_ne hl hr)
    rw [cD_app, cs_al hl, cD_newz hM] at z
    rw [adP_0z hv]
    exact z
  · have z := al_add hG (cg_b (M := M) (D := D) hl hv h1) (cD_getz hM hD) hn hr rfl tw_949 (by have := alR_ltz (l := l); omega) (al_ne hl hr)
    rw [cD_setz hM, cs_al hl] at z
    rw [adP_1z hv hD h1 h2]
    exact z
theorem cP_clearz {G : ab_G} (hG : ab_GG G) {c : CS} {M D : List ab_E} (hM : M.length = 0) {l n : Nat} {q : Nat → SY} (hl : l < 6) (hL : cLz c D l n q) : ab_CM G mJx4a65c_clear_da8c8 [.ref (alR l)] (cH c M D) none (cH (clPz l (c, D)).1 M (clPz l (c, D)).2) := by
  obtain ⟨h1, h2, h3, h4⟩ := hL
  rcases h3 with ⟨rfl, hv⟩ | ⟨e, f, hv, hD, -⟩
  · have z := al_clear0 hG (cg_b (M := M) (D := D) hl hv h1)
    rw [cs_al hl] at z
    rw [clP_0z hv]
    exact z
  · have z := al_clear hG (cg_b (M := M) (D := D) hl hv h1) (cD_getz hM hD) h2 (by have := alR_ltz (l := l); omega)
    rw [cs_al hl, cD_setz hM] at z
    rw [clP_1z hv hD h1 h2]
    exact z
/-- all lists: what each holds; their arrays are apart -/
def GIz (c : CS) (D : List ab_E) (Q : Nat → Nat × (Nat → SY)) : Prop := (∀ l, l < 6 → cLz c D l (Q l).1 (Q l).2) ∧ ∀ l, l < 6 → ∀ k, k < 6 → l ≠ k → ∀ a, c.2.2.2 l = .ref a → c.2.2.2 k ≠ .ref a
theorem LI_kpz {D E : List ab_E} {v : Value} {n : Nat} {q : Nat → SY} (h : LIz D v n q) (hk : kpD D E) (ha : ∀ e f, v = .ref (42 + e) → D[e]? = some (.inl (2, 10, .inr (.inr (.inr (.inr (f)))))) → E[e]? = some (.inl (2, 10, .inr (.inr (.inr (.inr (f))))))) : LIz E v n q := by
  rcases h with h | ⟨e, f, h1, h2, h3⟩
  · exact Or.inl h
  · refine Or.inr ⟨e, f, h1, ha e f h1 h2, fun i hi => ?_⟩
    obtain ⟨r, g1, g2⟩ := h3 i hi
    exact ⟨r, g1, hk _ _ g2⟩
theorem cL_qz {c : CS} {D : List ab_E} {l n : Nat} {q q2 : Nat → SY} (h : cLz c D l n q) (e : ∀ i, i < n → q2 i = q i) : cLz c D l n q2 := by
  obtain ⟨h1, h2, h3, h4⟩ := h
  refine ⟨h1, h2, ?_, fun i hi => by rw [e i hi]; exact h4 i hi⟩
  rcases h3 with h | ⟨a, f, g1, g2, g3⟩
  · exact Or.inl h
  · exact Or.inr ⟨a, f, g1, g2, fun i hi => by rw [e i hi]; exact g3 i hi⟩
/-- one list's cell and array change: the others stand -/
theorem GI_stepz {c : CS} {D E : List ab_E} {Q : Nat → Nat × (Nat → SY)} {l n : Nat} {m k : Int32} {v : Value} {q : Nat → SY} (h : GIz c D Q) (hl : l < 6) (hk : kpD D E) (hn : cLz (setL c l m k v) E l n q)
    (ho : ∀ j, j < 6 → j ≠ l → ∀ e f, c.2.2.2 j = .ref (42 + e) → D[e]? = some (.inl (2, 10, .inr (.inr (.inr (.inr (f)))))) → E[e]? = some (.inl (2, 10, .inr (.inr (.inr (.inr (f))))))) (hv : ∀ j, j < 6 → j ≠ l → ∀ a, v = .ref a → c.2.2.2 j ≠ .ref a) : GIz (setL c l m k v) E (upQ Q l n q) := by
  refine ⟨fun j hj => ?_, fun i hi j hj hij a ha => ?_⟩
  · by_cases e : j = l
    · subst e
      rw [upQ, if_pos rfl]
      exact hn
    · rw [upQ, if_neg e]
      obtain ⟨h1, h2, h3, h4⟩ := h.1 j hj
      exact ⟨(setL_1 hl hj e).trans h1, h2, by rw [setL_3 e]; exact LI_kpz h3 hk (ho j hj e), h4⟩
  · by_cases e : i = l
    · subst e
      rw [setL_4] at ha
      rw [setL_3 (Ne.symm hij)]
      exact hv j hj (Ne.symm hij) a ha
    · rw [setL_3 e] at ha
      by_cases e2 : j = l
      · subst e2
        rw [setL_4]
        exact fun q => hv i hi e a q ha
      · rw [setL_3 e2]
        exact h.2 i hi j hj hij a ha
theorem GI_adz {c : CS} {D : List ab_E} {Q : Nat → Nat × (Nat → SY)} {l r : Nat} {y : SY} (h : GIz c D Q) (hl : l < 6) (hn : (Q l).1 < 10) (hr : D[r]? = some (.inr (8, syF y))) (hy : VY y) : GIz (adPz l (42 + r) (c, D)).1 (adPz l (42 + r) (c, D)).2 (upQ Q l ((Q l).1 + 1) (fun i => if i = (Q l).1 then y else (Q l).2 i)) := by
  obtain ⟨h1, h2, h3, h4⟩ := h.1 l hl
  have hV : ∀ i, i < (Q l).1 + 1 → VY (if i = (Q l).1 then y else (Q l).2 i) := fun i hi => by
    by_cases e : i = (Q l).1
    · rw [if_pos e]; exact hy
    · rw [if_neg e]; exact h4 i (by omega)
  rcases h3 with ⟨h0, hv⟩ | ⟨e, f, hv, hD, hf⟩
  · rw [adP_0z hv]
    refine GI_stepz h hl kp_app ⟨by rw [setL_2, h0]; rfl, by omega, ?_, hV⟩ (fun j hj hjl e f g1 g2 => ?_) (fun j hj hjl a ha g => ?_)
    · rw [setL_4]
      refine Or.inr ⟨D.length, _, rfl, ga_n, fun i hi => ?_⟩
      obtain rfl : i = 0 := by omega
      have e0 : (fun i => if i = (Q l).1 then y else (Q l).2 i) 0 = y := if_pos h0.symm
      exact ⟨r, rfl, by rw [e0]; exact kp_app _ _ hr⟩
    · rw [List.getElem?_append_left (List.getElem?_eq_some_iff.mp g2).1]
      exact g2
    · obtain ⟨b1, b2, b3, b4⟩ := h.1 j hj
      rw [← ha] at g
      rcases b3 with ⟨-, b3⟩ | ⟨e, f, b3, b5, -⟩
      · rw [b3] at g; cases g
      · rw [b3] at g
        have e1 : 42 + e = 42 + D.length := by injection g
        have e2 := (List.getElem?_eq_some_iff.mp b5).1
        omega
  · rw [adP_1z hv hD h1 h2]
    have hlt := (List.getElem?_eq_some_iff.mp hD).1
    refine GI_stepz h hl (kp_set hD) ⟨setL_2, by omega, ?_, hV⟩ (fun j hj hjl e2 f2 g1 g2 => ?_) (fun j hj hjl a ha => ?_)
    · rw [setL_4]
      refine Or.inr ⟨e, _, rfl, List.getElem?_set_self hlt, fun i hi => ?_⟩
      by_cases ei : i = (Q l).1
      · have e0 : (fun i => if i = (Q l).1 then y else (Q l).2 i) i = y := if_pos ei
        exact ⟨r, by rw [ei]; exact if_pos rfl, by rw [e0]; exact kp_set hD _ _ hr⟩
      · obtain ⟨r2, g1, g2⟩ := hf i (by omega)
        have e0 : (fun i => if i = (Q l).1 then y else (Q l).2 i) i = (Q l).2 i := if_neg ei
        exact ⟨r2, (if_neg ei).trans g1, by rw [e0]; exact kp_set hD _ _ g2⟩
    · rw [List.getElem?_set_ne]
      · exact g2
      · intro q
        subst q
        exact h.2 l hl j hj (Ne.symm hjl) _ hv g1
    · exact h.2 l hl j hj (Ne.symm hjl) a (hv.trans ha)
theorem GI_clz {c : CS} {D : List ab_E} {Q : Nat → Nat × (Nat → SY)} {l : Nat} (q : Nat → SY) (h : GIz c D Q) (hl : l < 6) : GIz (clPz l (c, D)).1 (clPz l (c, D)).2 (upQ Q l 0 q) := by
  obtain ⟨h1, h2, h3, h4⟩ := h.1 l hl
  rcases h3 with ⟨h0, hv⟩ | ⟨e, f, hv, hD, hf⟩
  · rw [clP_0z hv]
    refine GI_stepz h hl (fun _ _ z => z) ⟨setL_2, by omega, Or.inl ⟨rfl, setL_4⟩, fun i hi => absurd hi (Nat.not_lt_zero i)⟩ (fun j hj hjl e f g1 g2 => g2) (fun j hj hjl a ha g => by cases ha)
  · rw [clP_1z hv hD h1 h2]
    have hlt := (List.getElem?_eq_some_iff.mp hD).1
    refine GI_stepz h hl (kp_set hD) ⟨setL_2, by omega, ?_, fun i hi => absurd hi (Nat.not_lt_zero i)⟩ (fun j hj hjl e2 f2 g1 g2 => ?_) (fun j hj hjl a ha => ?_)
    · rw [setL_4]
      exact Or.inr ⟨e, _, rfl, List.getElem?_set_self hlt, fun i hi => absurd hi (Nat.not_lt_zero i)⟩
    · rw [List.getElem?_set_ne]
      · exact g2
      · intro q
        subst q
        exact h.2 l hl j hj (Ne.symm hjl) _ hv g1
    · exact h.2 l hl j hj (Ne.symm hjl) a (hv.trans ha)
theorem GI_cz {c c2 : CS} {D : List ab_E} {Q : Nat → Nat × (Nat → SY)} (h : GIz c D Q) (h1 : ∀ l, l < 6 → c2.1 (30 + l) = c.1 (30 + l)) (h2 : ∀ l, l < 6 → c2.2.2.2 l = c.2.2.2 l) : GIz c2 D Q := by
  refine ⟨fun j hj => ?_, fun i hi j hj hij a ha => ?_⟩
  · obtain ⟨g1, g2, g3, g4⟩ := h.1 j hj
    exact ⟨(h1 j hj).trans g1, g2, by rw [h2 j hj]; exact g3, g4⟩
  · rw [h2 i hi] at ha
    rw [h2 j hj]
    exact h.2 i hi j hj hij a ha


theorem le_adz {c : CS} {D : List ab_E} {l n r : Nat} {q : Nat → SY} (hL : cLz c D l n q) : leD D (adPz l r (c, D)).2 := by
  obtain ⟨h1, h2, h3, h4⟩ := hL
  rcases h3 with ⟨h0, hv⟩ | ⟨e, f, hv, hD, hf⟩
  · rw [adP_0z hv]; exact le_app
  · rw [adP_1z hv hD h1 h2]; exact le_set hD rfl
theorem le_clz {c : CS} {D : List ab_E} {l n : Nat} {q : Nat → SY} (hL : cLz c D l n q) : leD D (clPz l (c, D)).2 := by
  obtain ⟨h1, h2, h3, h4⟩ := hL
  rcases h3 with ⟨h0, hv⟩ | ⟨e, f, hv, hD, hf⟩
  · rw [clP_0z hv]; exact le_rf _
  · rw [clP_1z hv hD h1 h2]; exact le_set hD rfl
def elRz (p : CD) (k i : Nat) : Nat := match p.1.2.2.2 k with
  | .ref a => (arrF p.2[a - 42]? i).getD 0
  | _ => 0
theorem el_1z {p : CD} {k i e r : Nat} {f : Nat → Option Nat} (h : p.1.2.2.2 k = .ref (42 + e)) (hD : p.2[e]? = some (.inl (2, 10, .inr (.inr (.inr (.inr f)))))) (hf : f i = some (42 + r)) : elRz p k i = 42 + r := by
  unfold elRz
  simp only [h, Nat.add_sub_cancel_left, hD, arrF, hf, Option.getD_some]
theorem cL_read2z {G : ab_G} (hG : ab_GG G) {p : CD} {M : List ab_E} (hM : M.length = 0) {l n i : Nat} {q : Nat → SY} (hl : l < 6) (h : cLz p.1 p.2 l n q) (hi : i < n) : ∃ r, p.2[r]? = some (.inr (8, syF (q i))) ∧ elRz p l i = 42 + r ∧ ab_CM G mJx4a65c_get_915e3 [.ref (alR l), .int (nI i)] (cH p.1 M p.2) (some (.ref (42 + r))) (cH p.1 M p.2) := by
  obtain ⟨e, f, r, h1, h2, h3, h4⟩ := cL_getz h hi
  have hb : (cH p.1 M p.2)[alR l]? = some (.inr (0, [.int (p.1.1 (40 + l)), .ref (42 + e), .int (p.1.1 (30 + l))])) := by
    rw [← h1]
    exact cg_al hl
  exact ⟨r, h4, el_1z h1 h2 h3, cm_Jx4a65c_get_915e3 hG hb (cD_getz hM h2) rfl h.1 hi h.2.1 h3⟩
def adSz (l k : Nat) (i : Nat) (p : CD) : CD := adPz l (elRz p k i) p
def rfPz (l k n : Nat) (p : CD) : CD := acc (adSz l k) (clPz l p) n
theorem GI_qz {c : CS} {D : List ab_E} {Q Q2 : Nat → Nat × (Nat → SY)} (h : GIz c D Q) (e : ∀ l, l < 6 → (Q2 l).1 = (Q l).1 ∧ ∀ i, i < (Q l).1 → (Q2 l).2 i = (Q l).2 i) : GIz c D Q2 := by
  refine ⟨fun l hl => ?_, h.2⟩
  obtain ⟨e1, e2⟩ := e l hl
  rw [e1]
  exact cL_qz (h.1 l hl) e2
/-- while a list is filled from another -/
theorem rf_Iz {c : CS} {D : List ab_E} {Q : Nat → Nat × (Nat → SY)} {l k : Nat} (h : GIz c D Q) (hl : l < 6) (hk : k < 6) (hne : l ≠ k) : ∀ i, i ≤ (Q k).1 → GIz (acc (adSz l k) (clPz l (c, D)) i).1 (acc (adSz l k) (clPz l (c, D)) i).2 (upQ Q l i (Q k).2)
  | 0, _ => GI_clz (Q k).2 h hl
  | i + 1, hi => by
    have r := rf_Iz h hl hk hne i (by omega)
    have z := r.1 k hk
    rw [upQ_ne (Ne.symm hne)] at z
    obtain ⟨e, f, a, h1, h2, h3, h4⟩ := cL_getz z (show i < (Q k).1 by omega)
    have e1 := el_1z h1 h2 h3
    have w := GI_adz (l := l) r hl (by rw [upQ_eq]; have := (h.1 k hk).2.1; show i < 10; omega) h4 ((h.1 k hk).2.2.2 i (by omega))
    rw [acc_s, show adSz l k i (acc (adSz l k) (clPz l (c, D)) i) = adPz l (42 + a) (acc (adSz l k) (clPz l (c, D)) i) from congrArg (fun z => adPz l z _) e1]
    refine GI_qz w fun j hj => ?_
    by_cases q : j = l
    · subst q
      rw [upQ_eq, upQ_eq, upQ_eq]
      refine ⟨rfl, fun b hb => ?_⟩
      show (Q k).2 b = if b = i then (Q k).2 i else (Q k).2 b
      by_cases q2 : b = i
      · rw [if_pos q2, q2]
      · rw [if_neg q2]
    · rw [upQ_ne q, upQ_ne q, upQ_ne q]
      exact ⟨rfl, fun _ _ => rfl⟩
theorem rf_kz {c : CS} {D : List ab_E} {Q : Nat → Nat × (Nat → SY)} {l k : Nat} (h : GIz c D Q) (hl : l < 6) (hk : k < 6) (hne : l ≠ k) {i : Nat} (hi : i ≤ (Q k).1) : cLz (acc (adSz l k) (clPz l (c, D)) i).1 (acc (adSz l k) (clPz l (c, D)) i).2 k (Q k).1 (Q k).2 := by
  have z := (rf_Iz h hl hk hne i hi).1 k hk
  rw [upQ_ne (Ne.symm hne)] at z
  exact z
theorem rf_lz {c : CS} {D : List ab_E} {Q : Nat → Nat × (Nat → SY)} {l k : Nat} (h : GIz c D Q) (hl : l < 6) (hk : k < 6) (hne : l ≠ k) {i : Nat} (hi : i ≤ (Q k).1) : cLz (acc (adSz l k) (clPz l (c, D)) i).1 (acc (adSz l k) (clPz l (c, D)) i).2 l i (Q k).2 := by
  have z := (rf_Iz h hl hk hne i hi).1 l hl
  rw [upQ_eq] at z
  exact z
theorem le_rfPz {c : CS} {D : List ab_E} {Q : Nat → Nat × (Nat → SY)} {l k : Nat} (h : GIz c D Q) (hl : l < 6) (hk : k < 6) (hne : l ≠ k) : ∀ i, i ≤ (Q k).1 → leD D (acc (adSz l k) (clPz l (c, D)) i).2
  | 0, _ => le_clz (h.1 l hl)
  | i + 1, hi => le_tr (le_rfPz h hl hk hne i (by omega)) (le_adz (rf_lz h hl hk hne (show i ≤ (Q k).1 by omega)))
def be2z (t u n0 n1 : Nat) (p : CD) : CD := rfPz (2 * t + 1) (2 * u + 1) n1 (rfPz (2 * t) (2 * u) n0 p)
def bePz (t u n0 n1 : Nat) (p : CD) : CD := (beC t u (be2z t u n0 n1 p).1, (be2z t u n0 n1 p).2)
theorem be_1z {c : CS} {D : List ab_E} {Q : Nat → Nat × (Nat → SY)} {t u : Nat} (h : GIz c D Q) (ht : t < 3) (hu : u < 3) (hne : t ≠ u) : GIz (rfPz (2 * t) (2 * u) (Q (2 * u)).1 (c, D)).1 (rfPz (2 * t) (2 * u) (Q (2 * u)).1 (c, D)).2 (upQ Q (2 * t) (Q (2 * u)).1 (Q (2 * u)).2) := rf_Iz h (by omega) (by omega) (by omega) _ (Nat.le_refl _)
theorem be_2z {c : CS} {D : List ab_E} {Q : Nat → Nat × (Nat → SY)} {t u : Nat} (h : GIz c D Q) (ht : t < 3) (hu : u < 3) (hne : t ≠ u) : GIz (be2z t u (Q (2 * u)).1 (Q (2 * u + 1)).1 (c, D)).1 (be2z t u (Q (2 * u)).1 (Q (2 * u + 1)).1 (c, D)).2 (beQ t u Q) := by
  have z := rf_Iz (l := 2 * t + 1) (k := 2 * u + 1) (be_1z h ht hu hne) (by omega) (by omega) (by omega) (Q (2 * u + 1)).1 (by rw [upQ_ne (by omega)]; exact Nat.le_refl _)
  rw [upQ_ne (show 2 * u + 1 ≠ 2 * t by omega)] at z
  exact z
theorem be_Gz {c : CS} {D : List ab_E} {Q : Nat → Nat × (Nat → SY)} {t u : Nat} (h : GIz c D Q) (ht : t < 3) (hu : u < 3) (hne : t ≠ u) : GIz (bePz t u (Q (2 * u)).1 (Q (2 * u + 1)).1 (c, D)).1 (bePz t u (Q (2 * u)).1 (Q (2 * u + 1)).1 (c, D)).2 (beQ t u Q) :=
  GI_cz (be_2z h ht hu hne) (fun l hl => beC_1 (by omega) (by omega)) (fun l hl => beC_4)
theorem le_bez {c : CS} {D : List ab_E} {Q : Nat → Nat × (Nat → SY)} {t u : Nat} (h : GIz c D Q) (ht : t < 3) (hu : u < 3) (hne : t ≠ u) : leD D (bePz t u (Q (2 * u)).1 (Q (2 * u + 1)).1 (c, D)).2 := by
  have a := le_rfPz h (l := 2 * t) (k := 2 * u) (by omega) (by omega) (by omega) (Q (2 * u)).1 (Nat.le_refl _)
  have b := le_rfPz (be_1z h ht hu hne) (l := 2 * t + 1) (k := 2 * u + 1) (by omega) (by omega) (by omega) (Q (2 * u + 1)).1 (by rw [upQ_ne (by omega)]; exact Nat.le_refl _)
  exact le_tr a b
theorem cm_X10_refillz {G : ab_G} (hG : ab_GG G) {c : CS} {M D : List ab_E} (hM : M.length = 0) {Q : Nat → Nat × (Nat → SY)} {l k n : Nat} (hl : l < 6) (hk : k < 6) (hne : l ≠ k) (hGI : GIz c D Q) (hn : (Q k).1 = n) : ab_CM G mX10_refill [.ref (alR l), .ref (alR k)] (cH c M D) (none) (cH (rfPz l k n (c, D)).1 M (rfPz l k n (c, D)).2) := by
  subst hn
  refine ab_meth (l0 := [(0, .ref (alR l)), (1, .ref (alR k))]) hG (by decide +kernel) rfl (Nat.le_of_ble_eq_true rfl) (cH_lenE (le_rfPz hGI hl hk hne _ (Nat.le_refl _)).1) (cH_szE (le_rfPz hGI hl hk hne _ (Nat.le_refl _)).2) (fun X hX hF => ?_)
  refine ab_aload_n hX dX10_refill_0 mm0 ?_
  refine ab_callV0v hX dX10_refill_1 (cg_al hl) ss_X10_refill_40 (cP_clearz hG hM hl (hGI.1 l hl)) (Nat.le_of_ble_eq_true rfl) ?_
  refine ab_iconst (v := 0) hX dX10_refill_4 (by decide) ?_
  refine ab_istore_n hX dX10_refill_5 rfl (by decide) rfl ?_
  have L6 : ∀ (k6_ : Nat) (i : Nat) (hi_ : i ≤ (Q k).1), k6_ = (Q k).1 - i → ab_WA G mX10_refill X 6 [(0, .ref (alR l)), (1, .ref (alR k)), (2, .int (nI i))] [] (cH (acc (adSz l k) (clPz l (c, D)) i).1 M (acc (adSz l k) (clPz l (c, D)) i).2) := by
    intro k6_
    induction k6_ using Nat.strongRecOn with
    | _ k6_ ih6 =>
      intro i hi_ hk6_
      have hRk := rf_kz hGI hl hk hne hi_
      have hRl := rf_lz hGI hl hk hne hi_
      have hk10 := hRk.2.1
      refine ab_iload_n hX dX10_refill_6 mm2 ?_
      refine ab_aload_n hX dX10_refill_7 mm1 ?_
      refine ab_callV0r hX dX10_refill_8 (cg_al hk) ss_X10_refill_43 (cm_Jx4a65c_size_8abf5 hG (cg_al hk)) (Nat.le_of_ble_eq_true rfl) ?_
      refine ab_icmpge (tgt := 33) hX dX10_refill_11 (by decide) (fun h_1 => ?_) (fun h_1 => ?_)
      ·
        have hx_ := ctE (N := (Q k).1) h_1 (by exact hRk.1) (by omega) (by have := hRk.2.1; omega)
        obtain rfl : i = (Q k).1 := by omega
        exact ab_vreturn hX hF dX10_refill_33 rfl rfl (by rfl)
      ·
        have hlt_ := ctL (N := (Q k).1) h_1 (by exact hRk.1) (by have := hRk.2.1; omega) (by have := hRk.2.1; omega)
        refine ab_aload_n hX dX10_refill_14 mm0 ?_
        refine ab_aload_n hX dX10_refill_15 mm1 ?_
        refine ab_iload_n hX dX10_refill_16 mm2 ?_
        obtain ⟨r_, hr_, he_, hc_⟩ := cL_read2z hG (p := (acc (adSz l k) (clPz l (c, D)) i)) hM hk hRk hlt_
        refine ab_callV1r hX dX10_refill_17 (cg_al hk) ss_X10_refill_47 hc_ (Nat.le_of_ble_eq_true rfl) ?_
        refine ab_castS hX dX10_refill_20 (cD_getz hM hr_) rfl tw_333 ?_
        refine ab_callV1r hX dX10_refill_23 (cg_al hl) ss_X10_refill_53 (cP_addz hG hM hl hRl (by have := hRk.2.1; omega) (cD_getz hM hr_)) (Nat.le_of_ble_eq_true rfl) ?_
        refine ab_pop hX dX10_refill_26 rfl ?_
        refine ab_iinc hX dX10_refill_27 mm2 rfl (by decide) rfl ?_
        refine ab_goto (tgt := 6) hX dX10_refill_30 (by decide) ?_
        exact ab_pm3 mm1 mm2 (mmv0 (congrArg Value.int (by exact (nI_1 _).symm))) (ab_hp (by rw [acc_s (adSz l k), show adSz l k i (acc (adSz l k) (clPz l (c, D)) i) = adPz l (42 + r_) (acc (adSz l k) (clPz l (c, D)) i) from congrArg (fun z => adPz l z _) he_]) (ih6 (_) (by omega) (i + 1) (by omega) rfl))
  exact ab_pm3 mm1 mm2 (mmv0 (congrArg Value.int (by rfl))) (L6 _ 0 (by omega) rfl)
theorem cm_X10_becomesz {G : ab_G} (hG : ab_GG G) {c : CS} {M D : List ab_E} (hM : M.length = 0) {Q : Nat → Nat × (Nat → SY)} {t u : Nat} (ht : t < 3) (hu : u < 3) (hne : t ≠ u) (hGI : GIz c D Q) : ab_CM G mX10_becomes [.ref (trR t), .ref (trR u)] (cH c M D) (none) (cH (bePz t u (Q (2 * u)).1 (Q (2 * u + 1)).1 (c, D)).1 M (bePz t u (Q (2 * u)).1 (Q (2 * u + 1)).1 (c, D)).2) := by
  refine ab_meth (l0 := [(0, .ref (trR t)), (1, .ref (trR u))]) hG (by decide +kernel) rfl (Nat.le_of_ble_eq_true rfl) (cH_lenE (le_bez hGI ht hu hne).1) (cH_szE (le_bez hGI ht hu hne).2) (fun X hX hF => ?_)
  refine ab_aload_n hX dX10_becomes_0 mm0 ?_
  refine ab_getfield hX dX10_becomes_1 (fs_X10_12_11 rfl) (cg_tr ht) rfl ?_
  refine ab_aload_n hX dX10_becomes_4 mm1 ?_
  refine ab_getfield hX dX10_becomes_5 (fs_X10_12_11 rfl) (cg_tr hu) rfl ?_
  refine ab_callS2v hX dX10_becomes_8 ss_X10_becomes_25 (cm_X10_refillz hG hM (by omega) (by omega) (by omega) hGI rfl) (Nat.le_of_ble_eq_true rfl) ?_
  refine ab_aload_n hX dX10_becomes_11 mm0 ?_
  refine ab_getfield hX dX10_becomes_12 (fs_X10_18_11 rfl) (cg_tr ht) rfl ?_
  refine ab_aload_n hX dX10_becomes_15 mm1 ?_
  refine ab_getfield hX dX10_becomes_16 (fs_X10_18_11 rfl) (cg_tr hu) rfl ?_
  refine ab_callS2v hX dX10_becomes_19 ss_X10_becomes_25 (cm_X10_refillz hG hM (by omega) (by omega) (by omega) (be_1z hGI ht hu hne) (by rw [upQ_ne (show 2 * u + 1 ≠ 2 * t by omega)])) (Nat.le_of_ble_eq_true rfl) ?_
  refine ab_iconst (v := 0) hX dX10_becomes_22 (by decide) ?_
  refine ab_istore_n hX dX10_becomes_23 rfl (by decide) rfl ?_
  have L24 : ∀ (k24_ : Nat) (w : Nat) (hw_ : w ≤ 5), k24_ = 5 - w → ab_WA G mX10_becomes X 24 [(0, .ref (trR t)), (1, .ref (trR u)), (2, .int (nI w))] [] (cH (acc (kwF t u) (be2z t u (Q (2 * u)).1 (Q (2 * u + 1)).1 (c, D)).1 w) M (be2z t u (Q (2 * u)).1 (Q (2 * u + 1)).1 (c, D)).2) := by
    intro k24_
    induction k24_ using Nat.strongRecOn with
    | _ k24_ ih24 =>
      intro w hw_ hk24_
      refine ab_iload_n hX dX10_becomes_24 mm2 ?_
      refine ab_aload_n hX dX10_becomes_25 mm0 ?_
      refine ab_getfield hX dX10_becomes_26 (fs_X10_21_11 rfl) (cg_tr ht) rfl ?_
      refine ab_alen (v := 5) hX dX10_becomes_29 (cg_kn ht) (by decide) rfl ?_
      refine ab_icmpge (tgt := 50) hX dX10_becomes_30 (by decide) (fun h_1 => ?_) (fun h_1 => ?_)
      ·
        have hx_ := ctE (N := 5) h_1 (by rfl) (by omega) (by omega)
        obtain rfl : 5 = w := by omega
        refine ab_aload_n hX dX10_becomes_50 mm0 ?_
        refine ab_aload_n hX dX10_becomes_51 mm1 ?_
        refine ab_getfield hX dX10_becomes_52 (fs_X10_33_11 rfl) (cg_tr hu) rfl ?_
        refine ab_putfield hX dX10_becomes_55 ps_X10_becomes_33_11 (cg_tr ht) (Nat.le_of_ble_eq_true rfl) rfl rfl (cs_trw ht) ?_
        refine ab_aload_n hX dX10_becomes_58 mm0 ?_
        refine ab_aload_n hX dX10_becomes_59 mm1 ?_
        refine ab_getfield hX dX10_becomes_60 (fs_X10_37_11 rfl) (cg_tr hu) rfl ?_
        refine ab_putfield hX dX10_becomes_63 ps_X10_becomes_37_11 (cg_tr ht) (Nat.le_of_ble_eq_true rfl) rfl rfl (cs_tru ht) ?_
        exact ab_vreturn hX hF dX10_becomes_66 rfl rfl (by rfl)
      ·
        have hlt_ := ctL (N := 5) h_1 (by rfl) (by omega) (by omega)
        refine ab_aload_n hX dX10_becomes_33 mm0 ?_
        refine ab_getfield hX dX10_becomes_34 (fs_X10_21_11 rfl) (cg_tr ht) rfl ?_
        refine ab_iload_n hX dX10_becomes_37 mm2 ?_
        refine ab_aload_n hX dX10_becomes_38 mm1 ?_
        refine ab_iload_n hX dX10_becomes_39 mm2 ?_
        refine ab_callV1r hX dX10_becomes_40 (cg_tr hu) ss_X10_becomes_29 (cm_X10_knownByz hG hM hu) (Nat.le_of_ble_eq_true rfl) ?_
        rw [kb_n hlt_]
        refine ab_iast (i := w) hX dX10_becomes_43 (cg_kn ht) rfl (by omega) (by decide) (cs_kn ht) ?_
        refine ab_iinc hX dX10_becomes_44 mm2 rfl (by decide) rfl ?_
        refine ab_goto (tgt := 24) hX dX10_becomes_47 (by decide) ?_
        exact ab_pm3 mm1 mm2 (mmv0 (congrArg Value.int (by exact (nI_1 _).symm))) (ab_hp (by rw [acc_s (kwF t u)]; rfl) (ih24 (_) (by omega) (w + 1) (by omega) rfl))
  exact ab_pm3 mm1 mm2 (mmv0 (congrArg Value.int (by rfl))) (L24 _ 0 (by omega) rfl)
def imgPz (c : CS) (D : List ab_E) (Q : Nat → Nat × (Nat → SY)) : CD := (cu1 (bePz 1 0 (Q (2 * 0)).1 (Q (2 * 0 + 1)).1 (c, D)).1 0 1, (bePz 1 0 (Q (2 * 0)).1 (Q (2 * 0 + 1)).1 (c, D)).2)
def rstPz (c : CS) (D : List ab_E) (Q : Nat → Nat × (Nat → SY)) : CD := if c.1 0 = 0 then (c, D) else bePz 0 1 (Q (2 * 1)).1 (Q (2 * 1 + 1)).1 (c, D)
theorem le_rstz {c : CS} {D : List ab_E} {Q : Nat → Nat × (Nat → SY)} (h : GIz c D Q) : leD D (rstPz c D Q).2 := by
  unfold rstPz
  split
  · exact le_rf _
  · exact le_bez h (by decide) (by decide) (by decide)
theorem cm_X11_imagez {G : ab_G} (hG : ab_GG G) {c : CS} {M D : List ab_E} (hM : M.length = 0)  {Q : Nat → Nat × (Nat → SY)} (hGI : GIz c D Q) : ab_CM G mX11_image [.ref 0] (cH c M D) (some (.int (nI (Q (2 * 0 + 1)).1))) (cH (imgPz c D Q).1 M (imgPz c D Q).2) := by
  refine ab_meth (l0 := [(0, .ref 0)]) hG (by decide +kernel) rfl (Nat.le_of_ble_eq_true rfl) (cH_lenE (le_bez hGI (by decide) (by decide) (by decide)).1) (cH_szE (le_bez hGI (by decide) (by decide) (by decide)).2) (fun X hX hF => ?_)
  refine ab_aload_n hX dX11_image_0 mm0 ?_
  refine ab_getfield hX dX11_image_1 (fs_X11_29_12 rfl) cg_x rfl ?_
  refine ab_aload_n hX dX11_image_4 mm0 ?_
  refine ab_getfield hX dX11_image_5 (fs_X11_25_12 rfl) cg_x rfl ?_
  refine ab_callV1v hX dX11_image_8 (cg_tr (show 1 < 3 by decide)) ss_X11_image_323 (cm_X10_becomesz hG hM (t := 1) (u := 0) (by decide) (by decide) (by decide) hGI) (Nat.le_of_ble_eq_true rfl) ?_
  refine ab_aload_n hX dX11_image_11 mm0 ?_
  refine ab_iconst (v := 1) hX dX11_image_12 (by decide) ?_
  refine ab_putfield hX dX11_image_13 ps_X11_image_327_12 cg_x (Nat.le_of_ble_eq_true rfl) rfl rfl cs_x ?_
  refine ab_aload_n hX dX11_image_16 mm0 ?_
  refine ab_getfield hX dX11_image_17 (fs_X11_25_12 rfl) cg_x rfl ?_
  refine ab_getfield hX dX11_image_20 (fs_X11_107_11 rfl) (cg_tr (show 0 < 3 by decide)) rfl ?_
  refine ab_callV0r hX dX11_image_23 (cg_al (by omega)) ss_X11_image_163 (cm_Jx4a65c_size_8abf5 hG (cg_al (by omega))) (Nat.le_of_ble_eq_true rfl) ?_
  exact ab_ireturn hX hF dX11_image_26 rfl (by rfl) (congrArg some (congrArg Value.int (by exact ((be_Gz hGI (t := 1) (u := 0) (by decide) (by decide) (by decide)).1 (2 * 0 + 1) (by decide)).1.symm))) (by rfl)
theorem cm_X11_restorez {G : ab_G} (hG : ab_GG G) {c : CS} {M D : List ab_E} (hM : M.length = 0)  {Q : Nat → Nat × (Nat → SY)} (hGI : GIz c D Q) : ab_CM G mX11_restore [.ref 0] (cH c M D) (some (.int (rstR c Q))) (cH (rstPz c D Q).1 M (rstPz c D Q).2) := by
  refine ab_meth (l0 := [(0, .ref 0)]) hG (by decide +kernel) rfl (Nat.le_of_ble_eq_true rfl) (cH_lenE (le_rstz hGI).1) (cH_szE (le_rstz hGI).2) (fun X hX hF => ?_)
  refine ab_aload_n hX dX11_restore_0 mm0 ?_
  refine ab_getfield hX dX11_restore_1 (fs_X11_327_12 rfl) cg_x rfl ?_
  refine ab_ifne (tgt := 10) hX dX11_restore_4 (by decide) (fun h_1 => ?_) (fun h_1 => ?_)
  ·
    refine ab_aload_n hX dX11_restore_10 mm0 ?_
    refine ab_getfield hX dX11_restore_11 (fs_X11_25_12 rfl) cg_x rfl ?_
    refine ab_aload_n hX dX11_restore_14 mm0 ?_
    refine ab_getfield hX dX11_restore_15 (fs_X11_29_12 rfl) cg_x rfl ?_
    refine ab_callV1v hX dX11_restore_18 (cg_tr (show 0 < 3 by decide)) ss_X11_restore_323 (cm_X10_becomesz hG hM (t := 0) (u := 1) (by decide) (by decide) (by decide) hGI) (Nat.le_of_ble_eq_true rfl) ?_
    refine ab_aload_n hX dX11_restore_21 mm0 ?_
    refine ab_getfield hX dX11_restore_22 (fs_X11_25_12 rfl) cg_x rfl ?_
    refine ab_getfield hX dX11_restore_25 (fs_X11_107_11 rfl) (cg_tr (show 0 < 3 by decide)) rfl ?_
    refine ab_callV0r hX dX11_restore_28 (cg_al (by omega)) ss_X11_restore_163 (cm_Jx4a65c_size_8abf5 hG (cg_al (by omega))) (Nat.le_of_ble_eq_true rfl) ?_
    exact ab_ireturn hX hF dX11_restore_31 rfl (by rfl) (congrArg some (congrArg Value.int (by rw [rstR, if_neg ‹¬ c.1 0 = 0›]; exact ((be_Gz hGI (t := 0) (u := 1) (by decide) (by decide) (by decide)).1 (2 * 0 + 1) (by decide)).1.symm))) (by rw [rstPz, if_neg ‹¬ c.1 0 = 0›])
  ·
    refine ab_bipush (v := (-3)) hX dX11_restore_7 (by decide) ?_
    exact ab_ireturn hX hF dX11_restore_9 rfl (by rfl) (congrArg some (congrArg Value.int (by rw [rstR, if_pos ‹c.1 0 = 0›]))) (by rw [rstPz, if_pos ‹c.1 0 = 0›])


