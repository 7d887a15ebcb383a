theorem cL_read {G : ab_G} (hG : ab_GG G) {c : CS} {M D : List ab_E} (hM : M.length = 1) {l n i : Nat} {q : Nat → SY} (hl : l < 6) (h : cL c D l n q) (hi : i < n) : ∃ r, D[r]? = some (.inr (8, syF (q i))) ∧ ab_CM G mJx4a65c_get_915e3 [.ref (alR l), .int (nI i)] (cH c M D) (some (.ref (43 + r))) (cH c M D) := by
  obtain ⟨e, f, r, h1, h2, h3, h4⟩ := cL_get h hi
  have hb : (cH c M D)[alR l]? = some (.inr (0, [.int (c.1 (40 + l)), .ref (43 + e), .int (c.1 (30 + l))])) := by
    rw [← h1]
    exact cg_al hl
  exact ⟨r, h4, cm_Jx4a65c_get_915e3 hG hb (cD_get hM h2) rfl h.1 hi h.2.1 h3⟩
theorem cs_trw {c : CS} {M D : List ab_E} {t : Nat} (ht : t < 3) {w : Int32} : (cH c M D).set (trR t) (.inr (11, [.ref (alR (2 * t)), .ref (alR (2 * t + 1)), .ref (knR t), .int w, .int (c.1 (20 + t))])) = cH (cu1 c (10 + t) w) M D := by
  obtain rfl | rfl | rfl : t = 0 ∨ t = 1 ∨ t = 2 := by omega
  all_goals exact cH_set (by decide) rfl
theorem cs_tru {c : CS} {M D : List ab_E} {t : Nat} (ht : t < 3) {w : Int32} : (cH c M D).set (trR t) (.inr (11, [.ref (alR (2 * t)), .ref (alR (2 * t + 1)), .ref (knR t), .int (c.1 (10 + t)), .int w])) = cH (cu1 c (20 + t) w) M D := by
  obtain rfl | rfl | rfl : t = 0 ∨ t = 1 ∨ t = 2 := by omega
  all_goals exact cH_set (by decide) rfl
def hwT (c : CS) (t : Nat) (w : Int32) : Bool := !decide (w < 0) && !decide (c.1 (10 + t) ≤ w)
def kbT (c : CS) (t : Nat) (w : Int32) : Int32 := if w < 0 then 0 else if 5 ≤ w then 0 else c.2.1 t (tn w)
def mbG (ql : Nat → SY) (i : Nat) (b : Int64) : Int64 := b &&& wY (ql i)
def mbT (ql : Nat → SY) (nl : Nat) : Int64 := acc (mbG ql) (-1) nl
def lbG (qs : Nat → SY) (set : Int32) (i : Nat) (b : Int64) : Int64 := if (set >>> (nI i &&& 31)) &&& 1 = 0 then b else b &&& (wY (qs i) ^^^ (-1))
def lbT (qs : Nat → SY) (ns : Nat) (w : Int64) (set : Int32) : Int64 := acc (lbG qs set) w ns
def lfT (ql : Nat → SY) (nl : Nat) (qs : Nat → SY) (ns : Nat) : Int64 := lbT qs ns (mbT ql nl) (-1)
def tlG (qs : Nat → SY) (set : Int32) (i : Nat) (b : Int32) : Int32 := if (set >>> ((qs i).1 &&& 31)) &&& 1 = 0 then b else b ||| (1 : Int32) <<< (nI i &&& 31)
def ltT (ql : Nat → SY) (nl : Nat) (qs : Nat → SY) (ns : Nat) (set : Int32) : Int64 := lbT qs ns (mbT ql nl) (acc (tlG qs set) 0 ns)
def ipT (ql : Nat → SY) (nl : Nat) (qs : Nat → SY) (ns : Nat) (set : Int32) : Bool := !decide (1 < lbc (ltT ql nl qs ns set))
def toG (qs : Nat → SY) (w : Int32) (i : Nat) (b : Int32) : Int32 := if hwB (wY (qs i)) w = true then b ||| (1 : Int32) <<< (nI i &&& 31) else b
def toT (qs : Nat → SY) (ns : Nat) (w : Int32) : Int32 := acc (toG qs w) 0 ns
def wsG (qs : Nat → SY) (i : Nat) (b : Int32) : Int32 := b + wdY (qs i)
def rcG (c : CS) (t : Nat) (left : Int64) (v w : Nat) (b : Int64) : Int64 := b ||| lkI left (nI v) (kbT c t (nI w))
def rcI (c : CS) (t : Nat) (worlds left : Int64) (v w : Nat) (b : Int64) : Int64 := if hwB worlds (nI v) = true then acc (rcG c t left v) b w else b
def rcT (c : CS) (t nw : Nat) (worlds left : Int64) : Int64 := acc (fun v b => rcI c t worlds left v nw b) worlds 64
theorem in5 {w : Int32} (h1 : ¬ w < 0) (h2 : ¬ 5 ≤ w) : ∃ j : Nat, j < 5 ∧ w = nI j := by
  obtain ⟨j, hj, rfl⟩ := nI_of h1
  exact ⟨j, Nat.not_le.mp fun q => h2 (nI_le (a := 5) q hj), rfl⟩
theorem cm_X10_hasWitness {G : ab_G} (hG : ab_GG G) {c : CS} {M D : List ab_E} (hM : M.length = 1) {t : Nat} (ht : t < 3) {w : Int32} : ab_CM G mX10_hasWitness [.ref (trR t), .int w] (cH c M D) (some (.int (bi (hwT c t w)))) (cH c M D) := by
  refine ab_meth (l0 := [(0, .ref (trR t)), (1, .int w)]) hG (by decide +kernel) rfl (Nat.le_of_ble_eq_true rfl) (Nat.le_refl _) (Nat.le_refl _) (fun X hX hF => ?_)
  refine ab_iload_n hX dX10_hasWitness_0 mm1 ?_
  refine ab_iflt (tgt := 16) hX dX10_hasWitness_1 (by decide) (fun h_1 => ?_) (fun h_1 => ?_)
  ·
    refine ab_iconst (v := 0) hX dX10_hasWitness_16 (by decide) ?_
    exact ab_ireturn hX hF dX10_hasWitness_17 rfl (by first | rfl | exact bi_n _) (congrArg some (congrArg Value.int (by simp [bi_t, bi_f, hwT, h_1]))) (by rfl)
  ·
    refine ab_iload_n hX dX10_hasWitness_4 mm1 ?_
    refine ab_aload_n hX dX10_hasWitness_5 mm0 ?_
    refine ab_getfield hX dX10_hasWitness_6 (fs_X10_33_11 rfl) (cg_tr ht) rfl ?_
    refine ab_icmpge (tgt := 16) hX dX10_hasWitness_9 (by decide) (fun h_2 => ?_) (fun h_2 => ?_)
    ·
      refine ab_iconst (v := 0) hX dX10_hasWitness_16 (by decide) ?_
      exact ab_ireturn hX hF dX10_hasWitness_17 rfl (by first | rfl | exact bi_n _) (congrArg some (congrArg Value.int (by simp [bi_t, bi_f, hwT, h_1, h_2]))) (by rfl)
    ·
      refine ab_iconst (v := 1) hX dX10_hasWitness_12 (by decide) ?_
      refine ab_goto (tgt := 17) hX dX10_hasWitness_13 (by decide) ?_
      exact ab_ireturn hX hF dX10_hasWitness_17 rfl (by first | rfl | exact bi_n _) (congrArg some (congrArg Value.int (by simp [bi_t, bi_f, hwT, h_1, h_2]))) (by rfl)
theorem cm_X10_knownBy {G : ab_G} (hG : ab_GG G) {c : CS} {M D : List ab_E} (hM : M.length = 1) {t : Nat} (ht : t < 3) {w : Int32} : ab_CM G mX10_knownBy [.ref (trR t), .int w] (cH c M D) (some (.int (kbT c t w))) (cH c M D) := by
  refine ab_meth (l0 := [(0, .ref (trR t)), (1, .int w)]) hG (by decide +kernel) rfl (Nat.le_of_ble_eq_true rfl) (Nat.le_refl _) (Nat.le_refl _) (fun X hX hF => ?_)
  refine ab_iload_n hX dX10_knownBy_0 mm1 ?_
  refine ab_iflt (tgt := 22) hX dX10_knownBy_1 (by decide) (fun h_1 => ?_) (fun h_1 => ?_)
  ·
    refine ab_iconst (v := 0) hX dX10_knownBy_22 (by decide) ?_
    exact ab_ireturn hX hF dX10_knownBy_23 rfl (by rfl) (congrArg some (congrArg Value.int (by simp only [kbT, h_1, ↓reduceIte]; first | done | rfl | rw [hjc]))) (by rfl)
  ·
    refine ab_iload_n hX dX10_knownBy_4 mm1 ?_
    refine ab_aload_n hX dX10_knownBy_5 mm0 ?_
    refine ab_getfield hX dX10_knownBy_6 (fs_X10_21_11 rfl) (cg_tr ht) rfl ?_
    refine ab_alen (v := 5) hX dX10_knownBy_9 (cg_kn ht) (by decide) rfl ?_
    refine ab_icmpge (tgt := 22) hX dX10_knownBy_10 (by decide) (fun h_2 => ?_) (fun h_2 => ?_)
    ·
      refine ab_iconst (v := 0) hX dX10_knownBy_22 (by decide) ?_
      exact ab_ireturn hX hF dX10_knownBy_23 rfl (by rfl) (congrArg some (congrArg Value.int (by simp only [kbT, h_1, h_2, ↓reduceIte]; first | done | rfl | rw [hjc]))) (by rfl)
    ·
      obtain ⟨j, hj, hjw⟩ := in5 h_1 h_2
      have hjc : tn w = j := by rw [hjw]; exact tn_nI (by omega)
      refine ab_aload_n hX dX10_knownBy_13 mm0 ?_
      refine ab_getfield hX dX10_knownBy_14 (fs_X10_21_11 rfl) (cg_tr ht) rfl ?_
      refine ab_iload_n hX dX10_knownBy_17 mm1 ?_
      refine ab_iald (i := j) hX dX10_knownBy_18 (cg_kn ht) hjw hj (by decide) ?_
      refine ab_goto (tgt := 23) hX dX10_knownBy_19 (by decide) ?_
      exact ab_ireturn hX hF dX10_knownBy_23 rfl (by rfl) (congrArg some (congrArg Value.int (by simp only [kbT, h_1, h_2, ↓reduceIte]; first | done | rfl | rw [hjc]))) (by rfl)
theorem cm_X10_mayBe {G : ab_G} (hG : ab_GG G) {c : CS} {M D : List ab_E} (hM : M.length = 1) {t : Nat} (ht : t < 3) {nl : Nat} {ql : Nat → SY} (hL0 : cL c D (2 * t) nl ql)  : ab_CM G mX10_mayBe [.ref (trR t)] (cH c M D) (some (.long (mbT ql nl))) (cH c M D) := by
  refine ab_meth (l0 := [(0, .ref (trR t))]) hG (by decide +kernel) rfl (Nat.le_of_ble_eq_true rfl) (Nat.le_refl _) (Nat.le_refl _) (fun X hX hF => ?_)
  have h10 := hL0.2.1
  refine ab_ldc2 hX dX10_mayBe_0 tw_588 ?_
  refine ab_lstore_n hX dX10_mayBe_3 rfl (by decide) rfl ?_
  refine ab_iconst (v := 0) hX dX10_mayBe_4 (by decide) ?_
  refine ab_istore_n hX dX10_mayBe_5 rfl (by decide) rfl ?_
  have L6 : ∀ (k6_ : Nat) (i : Nat) (hi_ : i ≤ nl), k6_ = nl - i → ab_WA G mX10_mayBe X 6 [(0, .ref (trR t)), (1, .long (acc (mbG ql) (-1) i)), (3, .int (nI i))] [] (cH c M D) := by
    intro k6_
    induction k6_ using Nat.strongRecOn with
    | _ k6_ ih6 =>
      intro i hi_ hk6_
      refine ab_iload_n hX dX10_mayBe_6 mm2 ?_
      refine ab_aload_n hX dX10_mayBe_7 mm0 ?_
      refine ab_getfield hX dX10_mayBe_8 (fs_X10_12_11 rfl) (cg_tr ht) rfl ?_
      refine ab_callV0r hX dX10_mayBe_11 (cg_al (by omega)) ss_X10_mayBe_43 (cm_Jx4a65c_size_8abf5 hG (cg_al (by omega))) (Nat.le_of_ble_eq_true rfl) ?_
      refine ab_icmpge (tgt := 40) hX dX10_mayBe_14 (by decide) (fun h_1 => ?_) (fun h_1 => ?_)
      ·
        have hx_ := ctE (N := nl) h_1 (by exact hL0.1) (by omega) (by omega)
        obtain rfl : nl = i := by omega
        refine ab_lload_n hX dX10_mayBe_40 mm1 ?_
        exact ab_lreturn hX hF dX10_mayBe_41 rfl (congrArg some (congrArg Value.long (by rfl))) (by rfl)
      ·
        have hlt_ := ctL (N := nl) h_1 (by exact hL0.1) (by omega) (by omega)
        refine ab_lload_n hX dX10_mayBe_17 mm1 ?_
        refine ab_aload_n hX dX10_mayBe_18 mm0 ?_
        refine ab_getfield hX dX10_mayBe_19 (fs_X10_12_11 rfl) (cg_tr ht) rfl ?_
        refine ab_iload_n hX dX10_mayBe_22 mm2 ?_
        obtain ⟨r_, hr_, hc_⟩ := cL_read hG (M := M) hM (i := i) (by omega) hL0 (by omega)
        refine ab_callV1r hX dX10_mayBe_23 (cg_al (by omega)) ss_X10_mayBe_47 hc_ (Nat.le_of_ble_eq_true rfl) ?_
        refine ab_castS hX dX10_mayBe_26 (cD_get hM hr_) rfl tw_333 ?_
        refine ab_getfield hX dX10_mayBe_29 (fs_X10_72_8 rfl) (cD_get hM hr_) rfl ?_
        refine ab_land hX dX10_mayBe_32 ?_
        refine ab_lstore_n hX dX10_mayBe_33 rfl (by decide) rfl ?_
        refine ab_iinc hX dX10_mayBe_34 mm2 rfl (by decide) rfl ?_
        refine ab_goto (tgt := 6) hX dX10_mayBe_37 (by decide) ?_
        exact ab_pm3 mm2 (mmv1 (congrArg Value.long (by first | exact (nI_1 _).symm | rfl | (rw [acc_s]; first | rfl | (simp only [mbG, h_1, ↓reduceIte, Bool.false_eq_true]; done) | (simp only [mbG, h_1, ↓reduceIte, Bool.false_eq_true]; rfl))))) (mmv0 (congrArg Value.int (by first | exact (nI_1 _).symm | rfl | (rw [acc_s]; first | rfl | (simp only [mbG, h_1, ↓reduceIte, Bool.false_eq_true]; done) | (simp only [mbG, h_1, ↓reduceIte, Bool.false_eq_true]; rfl))))) (ih6 (_) (by omega) (i + 1) (by omega) rfl)
  exact ab_pm3 mm2 (mmv1 (congrArg Value.long (by rfl))) (mmv0 (congrArg Value.int (by rfl))) (L6 _ 0 (by omega) rfl)
theorem cm_X10_leftBySaid {G : ab_G} (hG : ab_GG G) {c : CS} {M D : List ab_E} (hM : M.length = 1) {t : Nat} (ht : t < 3) {ns : Nat} {qs : Nat → SY} (hL1 : cL c D (2 * t + 1) ns qs) {worlds : Int64} {set : Int32} : ab_CM G mX10_leftBySaid [.ref (trR t), .long worlds, .int set] (cH c M D) (some (.long (lbT qs ns worlds set))) (cH c M D) := by
  refine ab_meth (l0 := [(0, .ref (trR t)), (1, .long worlds), (3, .int set)]) hG (by decide +kernel) rfl (Nat.le_of_ble_eq_true rfl) (Nat.le_refl _) (Nat.le_refl _) (fun X hX hF => ?_)
  have h11 := hL1.2.1
  refine ab_lload_n hX dX10_leftBySaid_0 mm1 ?_
  refine ab_lstore hX dX10_leftBySaid_1 (by decide) rfl ?_
  refine ab_iconst (v := 0) hX dX10_leftBySaid_3 (by decide) ?_
  refine ab_istore hX dX10_leftBySaid_4 (by decide) rfl ?_
  have L6 : ∀ (k6_ : Nat) (i : Nat) (hi_ : i ≤ ns), k6_ = ns - i → ab_WA G mX10_leftBySaid X 6 [(0, .ref (trR t)), (3, .int set), (4, .long (acc (lbG qs set) worlds i)), (6, .int (nI i))] [] (cH c M D) := by
    intro k6_
    induction k6_ using Nat.strongRecOn with
    | _ k6_ ih6 =>
      intro i hi_ hk6_
      refine ab_iload hX dX10_leftBySaid_6 mm3 ?_
      refine ab_aload_n hX dX10_leftBySaid_8 mm0 ?_
      refine ab_getfield hX dX10_leftBySaid_9 (fs_X10_18_11 rfl) (cg_tr ht) rfl ?_
      refine ab_callV0r hX dX10_leftBySaid_12 (cg_al (by omega)) ss_X10_leftBySaid_43 (cm_Jx4a65c_size_8abf5 hG (cg_al (by omega))) (Nat.le_of_ble_eq_true rfl) ?_
      refine ab_icmpge (tgt := 57) hX dX10_leftBySaid_15 (by decide) (fun h_1 => ?_) (fun h_1 => ?_)
      ·
        have hx_ := ctE (N := ns) h_1 (by exact hL1.1) (by omega) (by omega)
        obtain rfl : ns = i := by omega
        refine ab_lload hX dX10_leftBySaid_57 mm2 ?_
        exact ab_lreturn hX hF dX10_leftBySaid_59 rfl (congrArg some (congrArg Value.long (by rfl))) (by rfl)
      ·
        have hlt_ := ctL (N := ns) h_1 (by exact hL1.1) (by omega) (by omega)
        refine ab_iload_n hX dX10_leftBySaid_18 mm1 ?_
        refine ab_iload hX dX10_leftBySaid_19 mm3 ?_
        refine ab_ishr hX dX10_leftBySaid_21 ?_
        refine ab_iconst (v := 1) hX dX10_leftBySaid_22 (by decide) ?_
        refine ab_iand hX dX10_leftBySaid_23 ?_
        refine ab_ifeq (tgt := 51) hX dX10_leftBySaid_24 (by decide) (fun h_2 => ?_) (fun h_2 => ?_)
        ·
          refine ab_iinc hX dX10_leftBySaid_51 mm3 rfl (by decide) rfl ?_
          refine ab_goto (tgt := 6) hX dX10_leftBySaid_54 (by decide) ?_
          exact ab_pm4 mm1 (mmv2 (congrArg Value.int (by first | exact (nI_1 _).symm | rfl | (rw [acc_s]; first | rfl | (simp only [lbG, h_1, h_2, ↓reduceIte, Bool.false_eq_true]; done) | (simp only [lbG, h_1, h_2, ↓reduceIte, Bool.false_eq_true]; rfl))))) (mmv3 (congrArg Value.long (by first | exact (nI_1 _).symm | rfl | (rw [acc_s]; first | rfl | (simp only [lbG, h_1, h_2, ↓reduceIte, Bool.false_eq_true]; done) | (simp only [lbG, h_1, h_2, ↓reduceIte, Bool.false_eq_true]; rfl))))) (mmv0 (congrArg Value.int (by first | exact (nI_1 _).symm | rfl | (rw [acc_s]; first | rfl | (simp only [lbG, h_1, h_2, ↓reduceIte, Bool.false_eq_true]; done) | (simp only [lbG, h_1, h_2, ↓reduceIte, Bool.false_eq_true]; rfl))))) (ih6 (_) (by omega) (i + 1) (by omega) rfl)
        ·
          refine ab_lload hX dX10_leftBySaid_27 mm2 ?_
          refine ab_aload_n hX dX10_leftBySaid_29 mm0 ?_
          refine ab_getfield hX dX10_leftBySaid_30 (fs_X10_18_11 rfl) (cg_tr ht) rfl ?_
          refine ab_iload hX dX10_leftBySaid_33 mm3 ?_
          obtain ⟨r_, hr_, hc_⟩ := cL_read hG (M := M) hM (i := i) (by omega) hL1 (by omega)
          refine ab_callV1r hX dX10_leftBySaid_35 (cg_al (by omega)) ss_X10_leftBySaid_47 hc_ (Nat.le_of_ble_eq_true rfl) ?_
          refine ab_castS hX dX10_leftBySaid_38 (cD_get hM hr_) rfl tw_333 ?_
          refine ab_getfield hX dX10_leftBySaid_41 (fs_X10_72_8 rfl) (cD_get hM hr_) rfl ?_
          refine ab_ldc2 hX dX10_leftBySaid_44 tw_588 ?_
          refine ab_lxor hX dX10_leftBySaid_47 ?_
          refine ab_land hX dX10_leftBySaid_48 ?_
          refine ab_lstore hX dX10_leftBySaid_49 (by decide) rfl ?_
          refine ab_iinc hX dX10_leftBySaid_51 mm3 rfl (by decide) rfl ?_
          refine ab_goto (tgt := 6) hX dX10_leftBySaid_54 (by decide) ?_
          exact ab_pm4 mm2 (mmv3 (congrArg Value.int (by first | exact (nI_1 _).symm | rfl | (rw [acc_s]; first | rfl | (simp only [lbG, h_1, h_2, ↓reduceIte, Bool.false_eq_true]; done) | (simp only [lbG, h_1, h_2, ↓reduceIte, Bool.false_eq_true]; rfl))))) (mmv1 (congrArg Value.long (by first | exact (nI_1 _).symm | rfl | (rw [acc_s]; first | rfl | (simp only [lbG, h_1, h_2, ↓reduceIte, Bool.false_eq_true]; done) | (simp only [lbG, h_1, h_2, ↓reduceIte, Bool.false_eq_true]; rfl))))) (mmv0 (congrArg Value.int (by first | exact (nI_1 _).symm | rfl | (rw [acc_s]; first | rfl | (simp only [lbG, h_1, h_2, ↓reduceIte, Bool.false_eq_true]; done) | (simp only [lbG, h_1, h_2, ↓reduceIte, Bool.false_eq_true]; rfl))))) (ih6 (_) (by omega) (i + 1) (by omega) rfl)
  exact ab_pm4 mm2 (mmv4 (congrArg Value.int (by rfl))) (mmv1 (congrArg Value.long (by rfl))) (mmv0 (congrArg Value.int (by rfl))) (L6 _ 0 (by omega) rfl)
theorem cm_X10_left {G : ab_G} (hG : ab_GG G) {c : CS} {M D : List ab_E} (hM : M.length = 1) {t : Nat} (ht : t < 3) {nl : Nat} {ql : Nat → SY} (hL0 : cL c D (2 * t) nl ql) {ns : Nat} {qs : Nat → SY} (hL1 : cL c D (2 * t + 1) ns qs)  : ab_CM G mX10_left [.ref (trR t)] (cH c M D) (some (.long (lfT ql nl qs ns))) (cH c M D) := by
  refine ab_meth (l0 := [(0, .ref (trR t))]) hG (by decide +kernel) rfl (Nat.le_of_ble_eq_true rfl) (Nat.le_refl _) (Nat.le_refl _) (fun X hX hF => ?_)
  have h10 := hL0.2.1
  have h11 := hL1.2.1
  refine ab_aload_n hX dX10_left_0 mm0 ?_
  refine ab_aload_n hX dX10_left_1 mm0 ?_
  refine ab_callV0r hX dX10_left_2 (cg_tr ht) ss_X10_left_76 (cm_X10_mayBe hG hM ht hL0) (Nat.le_of_ble_eq_true rfl) ?_
  refine ab_iconst (v := (-1)) hX dX10_left_5 (by decide) ?_
  refine ab_callV2r hX dX10_left_6 (cg_tr ht) ss_X10_left_80 (cm_X10_leftBySaid hG hM ht hL1) (Nat.le_of_ble_eq_true rfl) ?_
  exact ab_lreturn hX hF dX10_left_9 rfl (congrArg some (congrArg Value.long (by rfl))) (by rfl)
theorem cm_X10_mayBeOrLeft {G : ab_G} (hG : ab_GG G) {c : CS} {M D : List ab_E} (hM : M.length = 1) {t : Nat} (ht : t < 3) {nl : Nat} {ql : Nat → SY} (hL0 : cL c D (2 * t) nl ql) {ns : Nat} {qs : Nat → SY} (hL1 : cL c D (2 * t + 1) ns qs) {what : Int32} : ab_CM G mX10_mayBeOrLeft [.ref (trR t), .int what] (cH c M D) (some (.long (if what = 0 then mbT ql nl else lfT ql nl qs ns))) (cH c M D) := by
  refine ab_meth (l0 := [(0, .ref (trR t)), (1, .int what)]) hG (by decide +kernel) rfl (Nat.le_of_ble_eq_true rfl) (Nat.le_refl _) (Nat.le_refl _) (fun X hX hF => ?_)
  have h10 := hL0.2.1
  have h11 := hL1.2.1
  refine ab_iload_n hX dX10_mayBeOrLeft_0 mm1 ?_
  refine ab_ifne (tgt := 11) hX dX10_mayBeOrLeft_1 (by decide) (fun h_1 => ?_) (fun h_1 => ?_)
  ·
    refine ab_aload_n hX dX10_mayBeOrLeft_11 mm0 ?_
    refine ab_callV0r hX dX10_mayBeOrLeft_12 (cg_tr ht) ss_X10_mayBeOrLeft_84 (cm_X10_left hG hM ht hL0 hL1) (Nat.le_of_ble_eq_true rfl) ?_
    exact ab_lreturn hX hF dX10_mayBeOrLeft_15 rfl (congrArg some (congrArg Value.long (by simp only [h_1, ↓reduceIte]))) (by rfl)
  ·
    refine ab_aload_n hX dX10_mayBeOrLeft_4 mm0 ?_
    refine ab_callV0r hX dX10_mayBeOrLeft_5 (cg_tr ht) ss_X10_mayBeOrLeft_76 (cm_X10_mayBe hG hM ht hL0) (Nat.le_of_ble_eq_true rfl) ?_
    refine ab_goto (tgt := 15) hX dX10_mayBeOrLeft_8 (by decide) ?_
    exact ab_lreturn hX hF dX10_mayBeOrLeft_15 rfl (congrArg some (congrArg Value.long (by simp only [h_1, ↓reduceIte]))) (by rfl)
theorem cm_X10_leftByTellers {G : ab_G} (hG : ab_GG G) {c : CS} {M D : List ab_E} (hM : M.length = 1) {t : Nat} (ht : t < 3) {nl : Nat} {ql : Nat → SY} (hL0 : cL c D (2 * t) nl ql) {ns : Nat} {qs : Nat → SY} (hL1 : cL c D (2 * t + 1) ns qs) {set : Int32} : ab_CM G mX10_leftByTellers [.ref (trR t), .int set] (cH c M D) (some (.long (ltT ql nl qs ns set))) (cH c M D) := by
  refine ab_meth (l0 := [(0, .ref (trR t)), (1, .int set)]) hG (by decide +kernel) rfl (Nat.le_of_ble_eq_true rfl) (Nat.le_refl _) (Nat.le_refl _) (fun X hX hF => ?_)
  have h10 := hL0.2.1
  have h11 := hL1.2.1
  refine ab_iconst (v := 0) hX dX10_leftByTellers_0 (by decide) ?_
  refine ab_istore_n hX dX10_leftByTellers_1 rfl (by decide) rfl ?_
  refine ab_iconst (v := 0) hX dX10_leftByTellers_2 (by decide) ?_
  refine ab_istore_n hX dX10_leftByTellers_3 rfl (by decide) rfl ?_
  have L4 : ∀ (k4_ : Nat) (i : Nat) (hi_ : i ≤ ns), k4_ = ns - i → ab_WA G mX10_leftByTellers X 4 [(0, .ref (trR t)), (1, .int set), (2, .int (acc (tlG qs set) 0 i)), (3, .int (nI i))] [] (cH c M D) := by
    intro k4_
    induction k4_ using Nat.strongRecOn with
    | _ k4_ ih4 =>
      intro i hi_ hk4_
      refine ab_iload_n hX dX10_leftByTellers_4 mm3 ?_
      refine ab_aload_n hX dX10_leftByTellers_5 mm0 ?_
      refine ab_getfield hX dX10_leftByTellers_6 (fs_X10_18_11 rfl) (cg_tr ht) rfl ?_
      refine ab_callV0r hX dX10_leftByTellers_9 (cg_al (by omega)) ss_X10_leftByTellers_43 (cm_Jx4a65c_size_8abf5 hG (cg_al (by omega))) (Nat.le_of_ble_eq_true rfl) ?_
      refine ab_icmpge (tgt := 48) hX dX10_leftByTellers_12 (by decide) (fun h_1 => ?_) (fun h_1 => ?_)
      ·
        have hx_ := ctE (N := ns) h_1 (by exact hL1.1) (by omega) (by omega)
        obtain rfl : ns = i := by omega
        refine ab_aload_n hX dX10_leftByTellers_48 mm0 ?_
        refine ab_aload_n hX dX10_leftByTellers_49 mm0 ?_
        refine ab_callV0r hX dX10_leftByTellers_50 (cg_tr ht) ss_X10_leftByTellers_76 (cm_X10_mayBe hG hM ht hL0) (Nat.le_of_ble_eq_true rfl) ?_
        refine ab_iload_n hX dX10_leftByTellers_53 mm2 ?_
        refine ab_callV2r hX dX10_leftByTellers_54 (cg_tr ht) ss_X10_leftByTellers_80 (cm_X10_leftBySaid hG hM ht hL1) (Nat.le_of_ble_eq_true rfl) ?_
        exact ab_lreturn hX hF dX10_leftByTellers_57 rfl (congrArg some (congrArg Value.long (by rfl))) (by rfl)
      ·
        have hlt_ := ctL (N := ns) h_1 (by exact hL1.1) (by omega) (by omega)
        refine ab_iload_n hX dX10_leftByTellers_15 mm1 ?_
        refine ab_aload_n hX dX10_leftByTellers_16 mm0 ?_
        refine ab_getfield hX dX10_leftByTellers_17 (fs_X10_18_11 rfl) (cg_tr ht) rfl ?_
        refine ab_iload_n hX dX10_leftByTellers_20 mm3 ?_
        obtain ⟨r_, hr_, hc_⟩ := cL_read hG (M := M) hM (i := i) (by omega) hL1 (by omega)
        refine ab_callV1r hX dX10_leftByTellers_21 (cg_al (by omega)) ss_X10_leftByTellers_47 hc_ (Nat.le_of_ble_eq_true rfl) ?_
        refine ab_castS hX dX10_leftByTellers_24 (cD_get hM hr_) rfl tw_333 ?_
        refine ab_getfield hX dX10_leftByTellers_27 (fs_X10_57_8 rfl) (cD_get hM hr_) rfl ?_
        refine ab_ishr hX dX10_leftByTellers_30 ?_
        refine ab_iconst (v := 1) hX dX10_leftByTellers_31 (by decide) ?_
        refine ab_iand hX dX10_leftByTellers_32 ?_
        refine ab_ifeq (tgt := 42) hX dX10_leftByTellers_33 (by decide) (fun h_2 => ?_) (fun h_2 => ?_)
        ·
          refine ab_iinc hX dX10_leftByTellers_42 mm3 rfl (by decide) rfl ?_
          refine ab_goto (tgt := 4) hX dX10_leftByTellers_45 (by decide) ?_
          exact ab_pm4 mm1 (mmv2 (congrArg Value.int (by first | exact (nI_1 _).symm | rfl | (rw [acc_s]; first | rfl | (simp only [tlG, h_1, h_2, ↓reduceIte, Bool.false_eq_true]; done) | (simp only [tlG, h_1, h_2, ↓reduceIte, Bool.false_eq_true]; rfl))))) (mmv3 (congrArg Value.int (by first | exact (nI_1 _).symm | rfl | (rw [acc_s]; first | rfl | (simp only [tlG, h_1, h_2, ↓reduceIte, Bool.false_eq_true]; done) | (simp only [tlG, h_1, h_2, ↓reduceIte, Bool.false_eq_true]; rfl))))) (mmv0 (congrArg Value.int (by first | exact (nI_1 _).symm | rfl | (rw [acc_s]; first | rfl | (simp only [tlG, h_1, h_2, ↓reduceIte, Bool.false_eq_true]; done) | (simp only [tlG, h_1, h_2, ↓reduceIte, Bool.false_eq_true]; rfl))))) (ih4 (_) (by omega) (i + 1) (by omega) rfl)
        ·
          refine ab_iload_n hX dX10_leftByTellers_36 mm2 ?_
          refine ab_iconst (v := 1) hX dX10_leftByTellers_37 (by decide) ?_
          refine ab_iload_n hX dX10_leftByTellers_38 mm3 ?_
          refine ab_ishl hX dX10_leftByTellers_39 ?_
          refine ab_ior hX dX10_leftByTellers_40 ?_
          refine ab_istore_n hX dX10_leftByTellers_41 rfl (by decide) rfl ?_
          refine ab_iinc hX dX10_leftByTellers_42 mm3 rfl (by decide) rfl ?_
          refine ab_goto (tgt := 4) hX dX10_leftByTellers_45 (by decide) ?_
          exact ab_pm4 mm2 (mmv3 (congrArg Value.int (by first | exact (nI_1 _).symm | rfl | (rw [acc_s]; first | rfl | (simp only [tlG, h_1, h_2, ↓reduceIte, Bool.false_eq_true]; done) | (simp only [tlG, h_1, h_2, ↓reduceIte, Bool.false_eq_true]; rfl))))) (mmv1 (congrArg Value.int (by first | exact (nI_1 _).symm | rfl | (rw [acc_s]; first | rfl | (simp only [tlG, h_1, h_2, ↓reduceIte, Bool.false_eq_true]; done) | (simp only [tlG, h_1, h_2, ↓reduceIte, Bool.false_eq_true]; rfl))))) (mmv0 (congrArg Value.int (by first | exact (nI_1 _).symm | rfl | (rw [acc_s]; first | rfl | (simp only [tlG, h_1, h_2, ↓reduceIte, Bool.false_eq_true]; done) | (simp only [tlG, h_1, h_2, ↓reduceIte, Bool.false_eq_true]; rfl))))) (ih4 (_) (by omega) (i + 1) (by omega) rfl)
  exact ab_pm4 mm2 (mmv3 (congrArg Value.int (by rfl))) (mmv1 (congrArg Value.int (by rfl))) (mmv0 (congrArg Value.int (by rfl))) (L4 _ 0 (by omega) rfl)
theorem cm_X10_isPlainBy {G : ab_G} (hG : ab_GG G) {c : CS} {M D : List ab_E} (hM : M.length = 1) {t : Nat} (ht : t < 3) {nl : Nat} {ql : Nat → SY} (hL0 : cL c D (2 * t) nl ql) {ns : Nat} {qs : Nat → SY} (hL1 : cL c D (2 * t + 1) ns qs) {set : Int32} : ab_CM G mX10_isPlainBy [.ref (trR t), .int set] (cH c M D) (some (.int (bi (ipT ql nl qs ns set)))) (cH c M D) := by
  refine ab_meth (l0 := [(0, .ref (trR t)), (1, .int set)]) hG (by decide +kernel) rfl (Nat.le_of_ble_eq_true rfl) (Nat.le_refl _) (Nat.le_refl _) (fun X hX hF => ?_)
  have h10 := hL0.2.1
  have h11 := hL1.2.1
  refine ab_aload_n hX dX10_isPlainBy_0 mm0 ?_
  refine ab_iload_n hX dX10_isPlainBy_1 mm1 ?_
  refine ab_callV1r hX dX10_isPlainBy_2 (cg_tr ht) ss_X10_isPlainBy_87 (cm_X10_leftByTellers hG hM ht hL0 hL1) (Nat.le_of_ble_eq_true rfl) ?_
  refine ab_callS1r hX dX10_isPlainBy_5 ss_X10_isPlainBy_91 (cm_J13_bitCount_95d88 hG) (Nat.le_of_ble_eq_true rfl) ?_
  refine ab_iconst (v := 1) hX dX10_isPlainBy_8 (by decide) ?_
  refine ab_icmpgt (tgt := 16) hX dX10_isPlainBy_9 (by decide) (fun h_1 => ?_) (fun h_1 => ?_)
  ·
    refine ab_iconst (v := 0) hX dX10_isPlainBy_16 (by decide) ?_
    exact ab_ireturn hX hF dX10_isPlainBy_17 rfl (by first | rfl | exact bi_n _) (congrArg some (congrArg Value.int (by simp only [ipT, h_1, decide_true, decide_false, Bool.true_and, Bool.false_and, Bool.and_true, Bool.and_false, Bool.not_true, Bool.not_false, Bool.or_true, Bool.true_or, Bool.false_or, Bool.or_false, bi_t, bi_f]))) (by rfl)
  ·
    refine ab_iconst (v := 1) hX dX10_isPlainBy_12 (by decide) ?_
    refine ab_goto (tgt := 17) hX dX10_isPlainBy_13 (by decide) ?_
    exact ab_ireturn hX hF dX10_isPlainBy_17 rfl (by first | rfl | exact bi_n _) (congrArg some (congrArg Value.int (by simp only [ipT, h_1, decide_true, decide_false, Bool.true_and, Bool.false_and, Bool.and_true, Bool.and_false, Bool.not_true, Bool.not_false, Bool.or_true, Bool.true_or, Bool.false_or, Bool.or_false, bi_t, bi_f]))) (by rfl)
theorem cm_X10_trueOnes {G : ab_G} (hG : ab_GG G) {c : CS} {M D : List ab_E} (hM : M.length = 1) {t : Nat} (ht : t < 3) {ns : Nat} {qs : Nat → SY} (hL1 : cL c D (2 * t + 1) ns qs) {w : Int32} : ab_CM G mX10_trueOnes [.ref (trR t), .int w] (cH c M D) (some (.int (toT qs ns w))) (cH c M D) := by
  refine ab_meth (l0 := [(0, .ref (trR t)), (1, .int w)]) hG (by decide +kernel) rfl (Nat.le_of_ble_eq_true rfl) (Nat.le_refl _) (Nat.le_refl _) (fun X hX hF => ?_)
  have h11 := hL1.2.1
  refine ab_iconst (v := 0) hX dX10_trueOnes_0 (by decide) ?_
  refine ab_istore_n hX dX10_trueOnes_1 rfl (by decide) rfl ?_
  refine ab_iconst (v := 0) hX dX10_trueOnes_2 (by decide) ?_
  refine ab_istore_n hX dX10_trueOnes_3 rfl (by decide) rfl ?_
  have L4 : ∀ (k4_ : Nat) (i : Nat) (hi_ : i ≤ ns), k4_ = ns - i → ab_WA G mX10_trueOnes X 4 [(0, .ref (trR t)), (1, .int w), (2, .int (acc (toG qs w) 0 i)), (3, .int (nI i))] [] (cH c M D) := by
    intro k4_
    induction k4_ using Nat.strongRecOn with
    | _ k4_ ih4 =>
      intro i hi_ hk4_
      refine ab_iload_n hX dX10_trueOnes_4 mm3 ?_
      refine ab_aload_n hX dX10_trueOnes_5 mm0 ?_
      refine ab_getfield hX dX10_trueOnes_6 (fs_X10_18_11 rfl) (cg_tr ht) rfl ?_
      refine ab_callV0r hX dX10_trueOnes_9 (cg_al (by omega)) ss_X10_trueOnes_43 (cm_Jx4a65c_size_8abf5 hG (cg_al (by omega))) (Nat.le_of_ble_eq_true rfl) ?_
      refine ab_icmpge (tgt := 48) hX dX10_trueOnes_12 (by decide) (fun h_1 => ?_) (fun h_1 => ?_)
      ·
        have hx_ := ctE (N := ns) h_1 (by exact hL1.1) (by omega) (by omega)
        obtain rfl : ns = i := by omega
        refine ab_iload_n hX dX10_trueOnes_48 mm2 ?_
        exact ab_ireturn hX hF dX10_trueOnes_49 rfl (by rfl) (congrArg some (congrArg Value.int (by rfl))) (by rfl)
      ·
        have hlt_ := ctL (N := ns) h_1 (by exact hL1.1) (by omega) (by omega)
        refine ab_aload_n hX dX10_trueOnes_15 mm0 ?_
        refine ab_getfield hX dX10_trueOnes_16 (fs_X10_18_11 rfl) (cg_tr ht) rfl ?_
        refine ab_iload_n hX dX10_trueOnes_19 mm3 ?_
        obtain ⟨r_, hr_, hc_⟩ := cL_read hG (M := M) hM (i := i) (by omega) hL1 (by omega)
        refine ab_callV1r hX dX10_trueOnes_20 (cg_al (by omega)) ss_X10_trueOnes_47 hc_ (Nat.le_of_ble_eq_true rfl) ?_
        refine ab_castS hX dX10_trueOnes_23 (cD_get hM hr_) rfl tw_333 ?_
        refine ab_getfield hX dX10_trueOnes_26 (fs_X10_72_8 rfl) (cD_get hM hr_) rfl ?_
        refine ab_iload_n hX dX10_trueOnes_29 mm1 ?_
        refine ab_callS2r hX dX10_trueOnes_30 ss_X10_trueOnes_97 (cm_X11_hasWorld hG) (Nat.le_of_ble_eq_true rfl) ?_
        refine ab_ifeqB (tgt := 42) hX dX10_trueOnes_33 (by decide) (fun h_2 => ?_) (fun h_2 => ?_)
        ·
          refine ab_iinc hX dX10_trueOnes_42 mm3 rfl (by decide) rfl ?_
          refine ab_goto (tgt := 4) hX dX10_trueOnes_45 (by decide) ?_
          exact ab_pm4 mm1 (mmv2 (congrArg Value.int (by first | exact (nI_1 _).symm | rfl | (rw [acc_s]; first | rfl | (simp only [toG, h_1, h_2, ↓reduceIte, Bool.false_eq_true]; done) | (simp only [toG, h_1, h_2, ↓reduceIte, Bool.false_eq_true]; rfl))))) (mmv3 (congrArg Value.int (by first | exact (nI_1 _).symm | rfl | (rw [acc_s]; first | rfl | (simp only [toG, h_1, h_2, ↓reduceIte, Bool.false_eq_true]; done) | (simp only [toG, h_1, h_2, ↓reduceIte, Bool.false_eq_true]; rfl))))) (mmv0 (congrArg Value.int (by first | exact (nI_1 _).symm | rfl | (rw [acc_s]; first | rfl | (simp only [toG, h_1, h_2, ↓reduceIte, Bool.false_eq_true]; done) | (simp only [toG, h_1, h_2, ↓reduceIte, Bool.false_eq_true]; rfl))))) (ih4 (_) (by omega) (i + 1) (by omega) rfl)
        ·
          refine ab_iload_n hX dX10_trueOnes_36 mm2 ?_
          refine ab_iconst (v := 1) hX dX10_trueOnes_37 (by decide) ?_
          refine ab_iload_n hX dX10_trueOnes_38 mm3 ?_
          refine ab_ishl hX dX10_trueOnes_39 ?_
          refine ab_ior hX dX10_trueOnes_40 ?_
          refine ab_istore_n hX dX10_trueOnes_41 rfl (by decide) rfl ?_
          refine ab_iinc hX dX10_trueOnes_42 mm3 rfl (by decide) rfl ?_
          refine ab_goto (tgt := 4) hX dX10_trueOnes_45 (by decide) ?_
          exact ab_pm4 mm2 (mmv3 (congrArg Value.int (by first | exact (nI_1 _).symm | rfl | (rw [acc_s]; first | rfl | (simp only [toG, h_1, h_2, ↓reduceIte, Bool.false_eq_true]; done) | (simp only [toG, h_1, h_2, ↓reduceIte, Bool.false_eq_true]; rfl))))) (mmv1 (congrArg Value.int (by first | exact (nI_1 _).symm | rfl | (rw [acc_s]; first | rfl | (simp only [toG, h_1, h_2, ↓reduceIte, Bool.false_eq_true]; done) | (simp only [toG, h_1, h_2, ↓reduceIte, Bool.false_eq_true]; rfl))))) (mmv0 (congrArg Value.int (by first | exact (nI_1 _).symm | rfl | (rw [acc_s]; first | rfl | (simp only [toG, h_1, h_2, ↓reduceIte, Bool.false_eq_true]; done) | (simp only [toG, h_1, h_2, ↓reduceIte, Bool.false_eq_true]; rfl))))) (ih4 (_) (by omega) (i + 1) (by omega) rfl)
  exact ab_pm4 mm2 (mmv3 (congrArg Value.int (by rfl))) (mmv1 (congrArg Value.int (by rfl))) (mmv0 (congrArg Value.int (by rfl))) (L4 _ 0 (by omega) rfl)
theorem cm_X10_wordsSaid {G : ab_G} (hG : ab_GG G) {c : CS} {M D : List ab_E} (hM : M.length = 1) {t : Nat} (ht : t < 3) {ns : Nat} {qs : Nat → SY} (hL1 : cL c D (2 * t + 1) ns qs)  : ab_CM G mX10_wordsSaid [.ref (trR t)] (cH c M D) (some (.int (acc (wsG qs) 0 ns))) (cH c M D) := by
  refine ab_meth (l0 := [(0, .ref (trR t))]) hG (by decide +kernel) rfl (Nat.le_of_ble_eq_true rfl) (Nat.le_refl _) (Nat.le_refl _) (fun X hX hF => ?_)
  have h11 := hL1.2.1
  refine ab_iconst (v := 0) hX dX10_wordsSaid_0 (by decide) ?_
  refine ab_istore_n hX dX10_wordsSaid_1 rfl (by decide) rfl ?_
  refine ab_iconst (v := 0) hX dX10_wordsSaid_2 (by decide) ?_
  refine ab_istore_n hX dX10_wordsSaid_3 rfl (by decide) rfl ?_
  have L4 : ∀ (k4_ : Nat) (i : Nat) (hi_ : i ≤ ns), k4_ = ns - i → ab_WA G mX10_wordsSaid X 4 [(0, .ref (trR t)), (1, .int (acc (wsG qs) 0 i)), (2, .int (nI i))] [] (cH c M D) := by
    intro k4_
    induction k4_ using Nat.strongRecOn with
    | _ k4_ ih4 =>
      intro i hi_ hk4_
      refine ab_iload_n hX dX10_wordsSaid_4 mm2 ?_
      refine ab_aload_n hX dX10_wordsSaid_5 mm0 ?_
      refine ab_getfield hX dX10_wordsSaid_6 (fs_X10_18_11 rfl) (cg_tr ht) rfl ?_
      refine ab_callV0r hX dX10_wordsSaid_9 (cg_al (by omega)) ss_X10_wordsSaid_43 (cm_Jx4a65c_size_8abf5 hG (cg_al (by omega))) (Nat.le_of_ble_eq_true rfl) ?_
      refine ab_icmpge (tgt := 38) hX dX10_wordsSaid_12 (by decide) (fun h_1 => ?_) (fun h_1 => ?_)
      ·
        have hx_ := ctE (N := ns) h_1 (by exact hL1.1) (by omega) (by omega)
        obtain rfl : ns = i := by omega
        refine ab_iload_n hX dX10_wordsSaid_38 mm1 ?_
        exact ab_ireturn hX hF dX10_wordsSaid_39 rfl (by rfl) (congrArg some (congrArg Value.int (by rfl))) (by rfl)
      ·
        have hlt_ := ctL (N := ns) h_1 (by exact hL1.1) (by omega) (by omega)
        refine ab_iload_n hX dX10_wordsSaid_15 mm1 ?_
        refine ab_aload_n hX dX10_wordsSaid_16 mm0 ?_
        refine ab_getfield hX dX10_wordsSaid_17 (fs_X10_18_11 rfl) (cg_tr ht) rfl ?_
        refine ab_iload_n hX dX10_wordsSaid_20 mm2 ?_
        obtain ⟨r_, hr_, hc_⟩ := cL_read hG (M := M) hM (i := i) (by omega) hL1 (by omega)
        refine ab_callV1r hX dX10_wordsSaid_21 (cg_al (by omega)) ss_X10_wordsSaid_47 hc_ (Nat.le_of_ble_eq_true rfl) ?_
        refine ab_castS hX dX10_wordsSaid_24 (cD_get hM hr_) rfl tw_333 ?_
        refine ab_callV0r hX dX10_wordsSaid_27 (cD_get hM hr_) ss_X10_wordsSaid_101 (cm_X7_words hG hM (cD_get hM hr_) (hL1.2.2.2 _ (by omega))) (Nat.le_of_ble_eq_true rfl) ?_
        refine ab_iadd hX dX10_wordsSaid_30 ?_
        refine ab_istore_n hX dX10_wordsSaid_31 rfl (by decide) rfl ?_
        refine ab_iinc hX dX10_wordsSaid_32 mm2 rfl (by decide) rfl ?_
        refine ab_goto (tgt := 4) hX dX10_wordsSaid_35 (by decide) ?_
        exact ab_pm3 mm2 (mmv1 (congrArg Value.int (by first | exact (nI_1 _).symm | rfl | (rw [acc_s]; first | rfl | (simp only [wsG, h_1, ↓reduceIte, Bool.false_eq_true]; done) | (simp only [wsG, h_1, ↓reduceIte, Bool.false_eq_true]; rfl))))) (mmv0 (congrArg Value.int (by first | exact (nI_1 _).symm | rfl | (rw [acc_s]; first | rfl | (simp only [wsG, h_1, ↓reduceIte, Bool.false_eq_true]; done) | (simp only [wsG, h_1, ↓reduceIte, Bool.false_eq_true]; rfl))))) (ih4 (_) (by omega) (i + 1) (by omega) rfl)
  exact ab_pm3 mm2 (mmv1 (congrArg Value.int (by rfl))) (mmv0 (congrArg Value.int (by rfl))) (L4 _ 0 (by omega) rfl)
theorem cm_X10_reachedFrom {G : ab_G} (hG : ab_GG G) {c : CS} {M D : List ab_E} (hM : M.length = 1) {t : Nat} (ht : t < 3) {worlds left : Int64} {nw : Nat} (hw : c.1 (10 + t) = nI nw) (hw5 : nw ≤ 5) : ab_CM G mX10_reachedFrom [.ref (trR t), .long worlds, .long left] (cH c M D) (some (.long (rcT c t nw worlds left))) (cH c M D) := by
  refine ab_meth (l0 := [(0, .ref (trR t)), (1, .long worlds), (3, .long left)]) hG (by decide +kernel) rfl (Nat.le_of_ble_eq_true rfl) (Nat.le_refl _) (Nat.le_refl _) (fun X hX hF => ?_)
  refine ab_lload_n hX dX10_reachedFrom_0 mm1 ?_
  refine ab_lstore hX dX10_reachedFrom_1 (by decide) rfl ?_
  refine ab_iconst (v := 0) hX dX10_reachedFrom_3 (by decide) ?_
  refine ab_istore hX dX10_reachedFrom_4 (by decide) rfl ?_
  have L6 : ∀ (k6_ : Nat) (v : Nat) (hv_ : v ≤ 64), k6_ = 64 - v → ab_WA G mX10_reachedFrom X 6 [(0, .ref (trR t)), (1, .long worlds), (3, .long left), (5, .long (acc (fun v b => rcI c t worlds left v nw b) worlds v)), (7, .int (nI v))] [] (cH c M D) := by
    intro k6_
    induction k6_ using Nat.strongRecOn with
    | _ k6_ ih6 =>
      intro v hv_ hk6_
      refine ab_iload hX dX10_reachedFrom_6 mm4 ?_
      refine ab_bipush (v := 64) hX dX10_reachedFrom_8 (by decide) ?_
      refine ab_icmpge (tgt := 63) hX dX10_reachedFrom_10 (by decide) (fun h_1 => ?_) (fun h_1 => ?_)
      ·
        have hx_ := ctE (N := 64) h_1 (by rfl) (by omega) (by omega)
        obtain rfl : 64 = v := by omega
        refine ab_lload hX dX10_reachedFrom_63 mm3 ?_
        exact ab_lreturn hX hF dX10_reachedFrom_65 rfl (congrArg some (congrArg Value.long (by rfl))) (by rfl)
      ·
        have hltv_ := ctL (N := 64) h_1 (by rfl) (by omega) (by omega)
        refine ab_iconst (v := 0) hX dX10_reachedFrom_13 (by decide) ?_
        refine ab_istore hX dX10_reachedFrom_14 (by decide) rfl ?_
        have L16 : ∀ (k16_ : Nat) (w : Nat) (hw_ : w ≤ nw), k16_ = nw - w → ab_WA G mX10_reachedFrom X 16 [(0, .ref (trR t)), (1, .long worlds), (3, .long left), (5, .long (rcI c t worlds left v w (acc (fun v b => rcI c t worlds left v nw b) worlds v))), (7, .int (nI v)), (8, .int (nI w))] [] (cH c M D) := by
          intro k16_
          induction k16_ using Nat.strongRecOn with
          | _ k16_ ih16 =>
            intro w hw_ hk16_
            refine ab_iload hX dX10_reachedFrom_16 mm5 ?_
            refine ab_aload_n hX dX10_reachedFrom_18 mm0 ?_
            refine ab_getfield hX dX10_reachedFrom_19 (fs_X10_33_11 rfl) (cg_tr ht) rfl ?_
            refine ab_icmpge (tgt := 57) hX dX10_reachedFrom_22 (by decide) (fun h_2 => ?_) (fun h_2 => ?_)
            ·
              have hx_ := ctE (N := nw) h_2 (by exact hw) (by omega) (by omega)
              obtain rfl : nw = w := by omega
              refine ab_iinc hX dX10_reachedFrom_57 mm4 rfl (by decide) rfl ?_
              refine ab_goto (tgt := 6) hX dX10_reachedFrom_60 (by decide) ?_
              exact ab_pm5 mm1 (mmv2 (congrArg Value.long (by rfl))) (mmv3 (congrArg Value.long (by rfl))) (mmv4 (congrArg Value.long (by rw [acc_s]; try (first | rfl | (simp only [rcI, h_1, h_2, ↓reduceIte, Bool.false_eq_true]; done) | (simp only [rcI, h_1, h_2, ↓reduceIte, Bool.false_eq_true]; rfl))))) (mmv0 (congrArg Value.int (by exact (nI_1 _).symm))) (ih6 (_) (by omega) (v + 1) (by omega) rfl)
            ·
              have hltw_ := ctL (N := nw) h_2 (by exact hw) (by omega) (by omega)
              refine ab_lload_n hX dX10_reachedFrom_25 mm1 ?_
              refine ab_iload hX dX10_reachedFrom_26 mm4 ?_
              refine ab_callS2r hX dX10_reachedFrom_28 ss_X10_reachedFrom_97 (cm_X11_hasWorld hG) (Nat.le_of_ble_eq_true rfl) ?_
              refine ab_ifeqB (tgt := 57) hX dX10_reachedFrom_31 (by decide) (fun h_3 => ?_) (fun h_3 => ?_)
              ·
                refine ab_iinc hX dX10_reachedFrom_57 mm4 rfl (by decide) rfl ?_
                refine ab_goto (tgt := 6) hX dX10_reachedFrom_60 (by decide) ?_
                exact ab_pm5 mm1 (mmv2 (congrArg Value.long (by rfl))) (mmv3 (congrArg Value.long (by rfl))) (mmv4 (congrArg Value.long (by rw [acc_s]; try (first | rfl | (simp only [rcI, h_1, h_2, h_3, ↓reduceIte, Bool.false_eq_true]; done) | (simp only [rcI, h_1, h_2, h_3, ↓reduceIte, Bool.false_eq_true]; rfl))))) (mmv0 (congrArg Value.int (by exact (nI_1 _).symm))) (ih6 (_) (by omega) (v + 1) (by omega) rfl)
              ·
                refine ab_lload hX dX10_reachedFrom_34 mm3 ?_
                refine ab_lload_n hX dX10_reachedFrom_36 mm2 ?_
                refine ab_iload hX dX10_reachedFrom_37 mm4 ?_
                refine ab_aload_n hX dX10_reachedFrom_39 mm0 ?_
                refine ab_iload hX dX10_reachedFrom_40 mm5 ?_
                refine ab_callV1r hX dX10_reachedFrom_42 (cg_tr ht) ss_X10_reachedFrom_29 (cm_X10_knownBy hG hM ht) (Nat.le_of_ble_eq_true rfl) ?_
                refine ab_callS3r hX dX10_reachedFrom_45 ss_X10_reachedFrom_104 (cm_X11_likeInKnown hG) (Nat.le_of_ble_eq_true rfl) ?_
                refine ab_lor hX dX10_reachedFrom_48 ?_
                refine ab_lstore hX dX10_reachedFrom_49 (by decide) rfl ?_
                refine ab_iinc hX dX10_reachedFrom_51 mm5 rfl (by decide) rfl ?_
                refine ab_goto (tgt := 16) hX dX10_reachedFrom_54 (by decide) ?_
                exact ab_pm6 mm2 (mmv3 (congrArg Value.long (by rfl))) (mmv4 (congrArg Value.long (by rfl))) (mmv1 (congrArg Value.long (by simp only [rcI, h_1, h_2, h_3, ↓reduceIte]; try rfl))) (mmv5 (congrArg Value.int (by rfl))) (mmv0 (congrArg Value.int (by exact (nI_1 _).symm))) (ih16 (_) (by omega) (w + 1) (by omega) rfl)
        exact ab_pm6 mm1 (mmv2 (congrArg Value.long (by rfl))) (mmv3 (congrArg Value.long (by rfl))) (mmv4 (congrArg Value.long (by unfold rcI; split <;> rfl))) (mmv5 (congrArg Value.int (by rfl))) (mmv0 (congrArg Value.int (by rfl))) (L16 _ 0 (by omega) rfl)
  exact ab_pm5 mm2 (mmv3 (congrArg Value.long (by rfl))) (mmv4 (congrArg Value.long (by rfl))) (mmv1 (congrArg Value.long (by rfl))) (mmv0 (congrArg Value.int (by rfl))) (L6 _ 0 (by omega) rfl)
def tfN (c : CS) (d : Nat) : Nat → Nat → Bool
  | 0, _ => true
  | k + 1, i => if nuA c d (nI i) = 0 then tfN c d k (i + 1) else if nuA c d (nI i) = 1 then tfN c d k (i + 1) else if skB c d (nI i) = true then tfN c d k (i + 1) else false
theorem tfN_s {c : CS} {d k i : Nat} : tfN c d (k + 1) i = if nuA c d (nI i) = 0 then tfN c d k (i + 1) else if nuA c d (nI i) = 1 then tfN c d k (i + 1) else if skB c d (nI i) = true then tfN c d k (i + 1) else false := rfl
