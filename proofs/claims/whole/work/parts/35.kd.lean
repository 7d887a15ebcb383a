theorem decI (x : Int32) : x + Int32.ofInt (-1) = x - 1 := by
  rw [show Int32.ofInt (-1) = (-1 : Int32) from by decide, Int32.sub_eq_add_neg]
def flN (j : Nat) (w : Int32) : Nat → CS × Nat → CS × Nat
  | 0, p => p
  | n + 1, p => flN j w n (if ilB p.1 n w = true then (cu3 p.1 j p.2 (wcC n), p.2 + 1) else p)
theorem flN_s {j n : Nat} {w : Int32} {p : CS × Nat} : flN j w (n + 1) p = flN j w n (if ilB p.1 n w = true then (cu3 p.1 j p.2 (wcC n), p.2 + 1) else p) := rfl
theorem fl_le {j : Nat} {w : Int32} : ∀ (n : Nat) (p : CS × Nat), (flN j w n p).2 ≤ p.2 + n
  | 0, p => Nat.le_refl _
  | n + 1, p => by
    rw [flN_s]
    refine Nat.le_trans (fl_le n _) ?_
    split
    · show p.2 + 1 + n ≤ _; omega
    · omega
def mlF (g : Nat → Int64) (left : Int64) (i : Nat) (m : Int32) : Int32 := maxI m (lbc (left &&& (g i ^^^ (-1))))
def mlV (g : Nat → Int64) (left : Int64) (n : Nat) : Int32 := acc (mlF g left) (-4) n
def tvF (f g : Nat → Int64) (left : Int64) (n2 : Nat) (i : Nat) (m : Int32) : Int32 := if lbc (left &&& (f i ^^^ (-1))) ≤ m then m else maxI m (mlV g (left &&& (f i ^^^ (-1))) n2)
def tw1 (c : CS) (one : Int32) : CS × Nat := flN 0 one 288 (c, 0)
def tw2 (c : CS) (one other : Int32) : CS × Nat := flN 1 other 288 ((tw1 c one).1, 0)
def tlV (c : CS) (lf : Int64) (one other : Int32) : Int32 := acc (tvF ((tw2 c one other).1.2.2.1 0) ((tw2 c one other).1.2.2.1 1) lf (tw2 c one other).2) (-4) (tw1 c one).2
def twoC (c : CS) (lf : Int64) (one other : Int32) : Int32 := if hwT c 0 one = true then (if hwT c 0 other = true then (if one = other then -1 else tlV c lf one other) else -1) else -1
def twoP (c : CS) (one other : Int32) : CS := if hwT c 0 one = true then (if hwT c 0 other = true then (if one = other then c else (tw2 c one other).1) else c) else c
theorem fil_0 {G : ab_G} (hG : ab_GG G) {c : CS} {M D : List ab_E} (hM : M.length = 12) {w : Int32} : ab_CM G mX11_fillLies [.ref 0, .int w, .ref 15] (cH c M D) (some (.int (nI (flN 0 w 288 (c, 0)).2))) (cH (flN 0 w 288 (c, 0)).1 M D) := by
  refine ab_meth (l0 := [(0, .ref 0), (1, .int w), (2, .ref 15)]) hG (by decide +kernel) rfl (Nat.le_of_ble_eq_true rfl) (cH_lenE (Nat.le_refl _)) (cH_szE (Nat.le_refl _)) (fun X hX hF => ?_)
  refine ab_iconst (v := 0) hX dX11_fillLies_0 (by decide) ?_
  refine ab_istore_n hX dX11_fillLies_1 rfl (by decide) rfl ?_
  refine ab_sipush (v := 287) hX dX11_fillLies_2 (by decide) ?_
  refine ab_istore hX dX11_fillLies_5 (by decide) rfl ?_
  have L7 : ∀ (k7_ : Nat) (n : Nat) (p : CS × Nat) (hn : n ≤ 288) (hp : p.2 + n ≤ 288) (hr : flN 0 w n p = flN 0 w 288 (c, 0)), k7_ = n → ab_WA G mX11_fillLies X 7 [(0, .ref 0), (1, .int w), (2, .ref 15), (3, .int (nI p.2)), (4, .int (nI n - 1))] [] (cH p.1 M D) := by
    intro k7_
    induction k7_ using Nat.strongRecOn with
    | _ k7_ ih7 =>
      intro n p hn hp hr hk7_
      refine ab_iload hX dX11_fillLies_7 mm4 ?_
      refine ab_iflt (tgt := 46) hX dX11_fillLies_9 (by decide) (fun h_1 => ?_) (fun h_1 => ?_)
      ·
        obtain rfl : n = 0 := by
          rcases Nat.eq_zero_or_pos n with q | q
          · exact q
          · obtain ⟨k, rfl⟩ : ∃ k, n = k + 1 := ⟨n - 1, by omega⟩
            rw [nI_pred] at h_1
            exact absurd h_1 (nI_pos (by omega))
        refine ab_iload_n hX dX11_fillLies_46 mm3 ?_
        exact ab_ireturn hX hF dX11_fillLies_47 rfl (by rfl) (congrArg some (congrArg Value.int (by rw [← hr]; rfl))) (by rw [← hr]; rfl)
      ·
        obtain ⟨k, rfl⟩ : ∃ k, n = k + 1 := by
          rcases Nat.eq_zero_or_pos n with q | q
          · subst q; exact absurd (by decide : nI 0 - 1 < 0) h_1
          · exact ⟨n - 1, by omega⟩
        rw [nI_pred]
        rw [flN_s] at hr
        have hk9 : ¬ (288 : Int32) ≤ nI p.2 := nI_ge (b := 288) (by omega) (by decide)
        refine ab_iload_n hX dX11_fillLies_12 mm3 ?_
        refine ab_aload_n hX dX11_fillLies_13 mm2 ?_
        refine ab_alen (v := 288) hX dX11_fillLies_14 cg_lo0 (by decide) rfl ?_
        refine ab_icmpge (tgt := 40) hX dX11_fillLies_15 (by decide) (fun h_2 => (by contradiction)) (fun h_2 => ?_)
        refine ab_aload_n hX dX11_fillLies_18 mm0 ?_
        refine ab_iload hX dX11_fillLies_19 mm4 ?_
        refine ab_iload_n hX dX11_fillLies_21 mm1 ?_
        refine ab_callV2r hX dX11_fillLies_22 cg_x ss_X11_fillLies_254 (cm_X11_isLie hG hM (i := k) (by omega)) (Nat.le_of_ble_eq_true rfl) ?_
        refine ab_ifeqB (tgt := 40) hX dX11_fillLies_25 (by decide) (fun h_3 => ?_) (fun h_3 => ?_)
        ·
          rw [if_neg (by rw [h_3]; exact Bool.false_ne_true)] at hr
          refine ab_iinc hX dX11_fillLies_40 mm4 rfl (by decide) rfl ?_
          refine ab_goto (tgt := 7) hX dX11_fillLies_43 (by decide) ?_
          exact ab_pm5 mm1 (mmv2 (congrArg Value.int (by rfl))) mm3 (mmv4 (congrArg Value.int (by rfl))) (mmv0 (congrArg Value.int (by exact (decI (nI k)).symm))) (ih7 (_) (by omega) k p (by omega) (by omega) hr rfl)
        ·
          rw [if_pos h_3] at hr
          refine ab_aload_n hX dX11_fillLies_28 mm2 ?_
          refine ab_iload_n hX dX11_fillLies_29 mm3 ?_
          refine ab_aload_n hX dX11_fillLies_30 mm0 ?_
          refine ab_iload hX dX11_fillLies_31 mm4 ?_
          refine ab_callV1r hX dX11_fillLies_33 cg_x ss_X11_fillLies_258 (cm_X11_worldsOfCode hG hM (i := k) (by omega)) (Nat.le_of_ble_eq_true rfl) ?_
          refine ab_last (i := p.2) hX dX11_fillLies_36 cg_lo0 rfl (by omega) (by decide) cs_lo0 ?_
          refine ab_iinc hX dX11_fillLies_37 mm3 rfl (by decide) rfl ?_
          refine ab_iinc hX dX11_fillLies_40 mm4 rfl (by decide) rfl ?_
          refine ab_goto (tgt := 7) hX dX11_fillLies_43 (by decide) ?_
          exact ab_pm5 mm2 (mmv3 (congrArg Value.int (by rfl))) mm4 (mmv1 (congrArg Value.int (by exact (nI_1 _).symm))) (mmv0 (congrArg Value.int (by exact (decI (nI k)).symm))) (ih7 (_) (by omega) k (cu3 p.1 0 p.2 (wcC k), p.2 + 1) (by omega) (by show p.2 + 1 + k ≤ 288; omega) hr rfl)
  exact ab_pm5 mm2 (mmv3 (congrArg Value.int (by rfl))) mm4 (mmv1 (congrArg Value.int (by rfl))) (mmv0 (congrArg Value.int (by decide))) (L7 _ 288 (c, 0) (by omega) (Nat.le_of_eq (Nat.zero_add 288)) rfl rfl)
theorem fil_1 {G : ab_G} (hG : ab_GG G) {c : CS} {M D : List ab_E} (hM : M.length = 12) {w : Int32} : ab_CM G mX11_fillLies [.ref 0, .int w, .ref 16] (cH c M D) (some (.int (nI (flN 1 w 288 (c, 0)).2))) (cH (flN 1 w 288 (c, 0)).1 M D) := by
  refine ab_meth (l0 := [(0, .ref 0), (1, .int w), (2, .ref 16)]) hG (by decide +kernel) rfl (Nat.le_of_ble_eq_true rfl) (cH_lenE (Nat.le_refl _)) (cH_szE (Nat.le_refl _)) (fun X hX hF => ?_)
  refine ab_iconst (v := 0) hX dX11_fillLies_0 (by decide) ?_
  refine ab_istore_n hX dX11_fillLies_1 rfl (by decide) rfl ?_
  refine ab_sipush (v := 287) hX dX11_fillLies_2 (by decide) ?_
  refine ab_istore hX dX11_fillLies_5 (by decide) rfl ?_
  have L7 : ∀ (k7_ : Nat) (n : Nat) (p : CS × Nat) (hn : n ≤ 288) (hp : p.2 + n ≤ 288) (hr : flN 1 w n p = flN 1 w 288 (c, 0)), k7_ = n → ab_WA G mX11_fillLies X 7 [(0, .ref 0), (1, .int w), (2, .ref 16), (3, .int (nI p.2)), (4, .int (nI n - 1))] [] (cH p.1 M D) := by
    intro k7_
    induction k7_ using Nat.strongRecOn with
    | _ k7_ ih7 =>
      intro n p hn hp hr hk7_
      refine ab_iload hX dX11_fillLies_7 mm4 ?_
      refine ab_iflt (tgt := 46) hX dX11_fillLies_9 (by decide) (fun h_1 => ?_) (fun h_1 => ?_)
      ·
        obtain rfl : n = 0 := by
          rcases Nat.eq_zero_or_pos n with q | q
          · exact q
          · obtain ⟨k, rfl⟩ : ∃ k, n = k + 1 := ⟨n - 1, by omega⟩
            rw [nI_pred] at h_1
            exact absurd h_1 (nI_pos (by omega))
        refine ab_iload_n hX dX11_fillLies_46 mm3 ?_
        exact ab_ireturn hX hF dX11_fillLies_47 rfl (by rfl) (congrArg some (congrArg Value.int (by rw [← hr]; rfl))) (by rw [← hr]; rfl)
      ·
        obtain ⟨k, rfl⟩ : ∃ k, n = k + 1 := by
          rcases Nat.eq_zero_or_pos n with q | q
          · subst q; exact absurd (by decide : nI 0 - 1 < 0) h_1
          · exact ⟨n - 1, by omega⟩
        rw [nI_pred]
        rw [flN_s] at hr
        have hk9 : ¬ (288 : Int32) ≤ nI p.2 := nI_ge (b := 288) (by omega) (by decide)
        refine ab_iload_n hX dX11_fillLies_12 mm3 ?_
        refine ab_aload_n hX dX11_fillLies_13 mm2 ?_
        refine ab_alen (v := 288) hX dX11_fillLies_14 cg_lo1 (by decide) rfl ?_
        refine ab_icmpge (tgt := 40) hX dX11_fillLies_15 (by decide) (fun h_2 => (by contradiction)) (fun h_2 => ?_)
        refine ab_aload_n hX dX11_fillLies_18 mm0 ?_
        refine ab_iload hX dX11_fillLies_19 mm4 ?_
        refine ab_iload_n hX dX11_fillLies_21 mm1 ?_
        refine ab_callV2r hX dX11_fillLies_22 cg_x ss_X11_fillLies_254 (cm_X11_isLie hG hM (i := k) (by omega)) (Nat.le_of_ble_eq_true rfl) ?_
        refine ab_ifeqB (tgt := 40) hX dX11_fillLies_25 (by decide) (fun h_3 => ?_) (fun h_3 => ?_)
        ·
          rw [if_neg (by rw [h_3]; exact Bool.false_ne_true)] at hr
          refine ab_iinc hX dX11_fillLies_40 mm4 rfl (by decide) rfl ?_
          refine ab_goto (tgt := 7) hX dX11_fillLies_43 (by decide) ?_
          exact ab_pm5 mm1 (mmv2 (congrArg Value.int (by rfl))) mm3 (mmv4 (congrArg Value.int (by rfl))) (mmv0 (congrArg Value.int (by exact (decI (nI k)).symm))) (ih7 (_) (by omega) k p (by omega) (by omega) hr rfl)
        ·
          rw [if_pos h_3] at hr
          refine ab_aload_n hX dX11_fillLies_28 mm2 ?_
          refine ab_iload_n hX dX11_fillLies_29 mm3 ?_
          refine ab_aload_n hX dX11_fillLies_30 mm0 ?_
          refine ab_iload hX dX11_fillLies_31 mm4 ?_
          refine ab_callV1r hX dX11_fillLies_33 cg_x ss_X11_fillLies_258 (cm_X11_worldsOfCode hG hM (i := k) (by omega)) (Nat.le_of_ble_eq_true rfl) ?_
          refine ab_last (i := p.2) hX dX11_fillLies_36 cg_lo1 rfl (by omega) (by decide) cs_lo1 ?_
          refine ab_iinc hX dX11_fillLies_37 mm3 rfl (by decide) rfl ?_
          refine ab_iinc hX dX11_fillLies_40 mm4 rfl (by decide) rfl ?_
          refine ab_goto (tgt := 7) hX dX11_fillLies_43 (by decide) ?_
          exact ab_pm5 mm2 (mmv3 (congrArg Value.int (by rfl))) mm4 (mmv1 (congrArg Value.int (by exact (nI_1 _).symm))) (mmv0 (congrArg Value.int (by exact (decI (nI k)).symm))) (ih7 (_) (by omega) k (cu3 p.1 1 p.2 (wcC k), p.2 + 1) (by omega) (by show p.2 + 1 + k ≤ 288; omega) hr rfl)
  exact ab_pm5 mm2 (mmv3 (congrArg Value.int (by rfl))) mm4 (mmv1 (congrArg Value.int (by rfl))) (mmv0 (congrArg Value.int (by decide))) (L7 _ 288 (c, 0) (by omega) (Nat.le_of_eq (Nat.zero_add 288)) rfl rfl)
theorem cm_X11_mostLeft {G : ab_G} (hG : ab_GG G) {c : CS} {M D : List ab_E} (hM : M.length = 12) {left : Int64} {n : Nat} (hn : n ≤ 288) : ab_CM G mX11_mostLeft [.ref 0, .long left, .int (nI n)] (cH c M D) (some (.int (mlV (c.2.2.1 1) left n))) (cH c M D) := by
  refine ab_meth (l0 := [(0, .ref 0), (1, .long left), (3, .int (nI n))]) hG (by decide +kernel) rfl (Nat.le_of_ble_eq_true rfl) (cH_lenE (Nat.le_refl _)) (cH_szE (Nat.le_refl _)) (fun X hX hF => ?_)
  refine ab_bipush (v := (-4)) hX dX11_mostLeft_0 (by decide) ?_
  refine ab_istore hX dX11_mostLeft_2 (by decide) rfl ?_
  refine ab_iconst (v := 0) hX dX11_mostLeft_4 (by decide) ?_
  refine ab_istore hX dX11_mostLeft_5 (by decide) rfl ?_
  have L7 : ∀ (k7_ : Nat) (i : Nat) (hi_ : i ≤ n), k7_ = n - i → ab_WA G mX11_mostLeft X 7 [(0, .ref 0), (1, .long left), (3, .int (nI n)), (4, .int (acc (mlF (c.2.2.1 1) left) (-4) i)), (5, .int (nI i))] [] (cH c M D) := by
    intro k7_
    induction k7_ using Nat.strongRecOn with
    | _ k7_ ih7 =>
      intro i hi_ hk7_
      refine ab_iload hX dX11_mostLeft_7 mm4 ?_
      refine ab_iload_n hX dX11_mostLeft_9 mm2 ?_
      refine ab_icmpge (tgt := 52) hX dX11_mostLeft_10 (by decide) (fun h_1 => ?_) (fun h_1 => ?_)
      ·
        have hx_ := ctE (N := n) h_1 (by rfl) (by omega) (by omega)
        obtain rfl : n = i := by omega
        refine ab_iload hX dX11_mostLeft_52 mm3 ?_
        exact ab_ireturn hX hF dX11_mostLeft_54 rfl (by rfl) (congrArg some (congrArg Value.int (by rfl))) (by rfl)
      ·
        have hlt_ := ctL (N := n) h_1 (by rfl) (by omega) (by omega)
        have hk9 : ¬ (288 : Int32) ≤ nI i := nI_ge (b := 288) (by omega) (by decide)
        refine ab_iload hX dX11_mostLeft_13 mm4 ?_
        refine ab_aload_n hX dX11_mostLeft_15 mm0 ?_
        refine ab_getfield hX dX11_mostLeft_16 (fs_X11_39_12 rfl) cg_x rfl ?_
        refine ab_alen (v := 288) hX dX11_mostLeft_19 cg_lo1 (by decide) rfl ?_
        refine ab_icmpge (tgt := 52) hX dX11_mostLeft_20 (by decide) (fun h_2 => (by contradiction)) (fun h_2 => ?_)
        refine ab_iload hX dX11_mostLeft_23 mm3 ?_
        refine ab_lload_n hX dX11_mostLeft_25 mm1 ?_
        refine ab_aload_n hX dX11_mostLeft_26 mm0 ?_
        refine ab_getfield hX dX11_mostLeft_27 (fs_X11_39_12 rfl) cg_x rfl ?_
        refine ab_iload hX dX11_mostLeft_30 mm4 ?_
        refine ab_lald (i := i) hX dX11_mostLeft_32 cg_lo1 rfl (by omega) (by decide) ?_
        refine ab_ldc2 hX dX11_mostLeft_33 tw_667 ?_
        refine ab_lxor hX dX11_mostLeft_36 ?_
        refine ab_land hX dX11_mostLeft_37 ?_
        refine ab_callS1r hX dX11_mostLeft_38 ss_X11_mostLeft_192 (cm_J13_bitCount_95d88 hG) (Nat.le_of_ble_eq_true rfl) ?_
        refine ab_mmax hX dX11_mostLeft_41 tw_779 (by decide) (Nat.le_of_ble_eq_true rfl) ?_
        refine ab_istore hX dX11_mostLeft_44 (by decide) rfl ?_
        refine ab_iinc hX dX11_mostLeft_46 mm4 rfl (by decide) rfl ?_
        refine ab_goto (tgt := 7) hX dX11_mostLeft_49 (by decide) ?_
        exact ab_pm5 mm2 (mmv3 (congrArg Value.long (by first | exact (nI_1 _).symm | rfl | (rw [acc_s]; first | rfl | (simp only [mlF, h_1, h_2, ↓reduceIte, Bool.false_eq_true]; done) | (simp only [mlF, h_1, h_2, ↓reduceIte, Bool.false_eq_true]; rfl))))) (mmv4 (congrArg Value.int (by first | exact (nI_1 _).symm | rfl | (rw [acc_s]; first | rfl | (simp only [mlF, h_1, h_2, ↓reduceIte, Bool.false_eq_true]; done) | (simp only [mlF, h_1, h_2, ↓reduceIte, Bool.false_eq_true]; rfl))))) (mmv1 (congrArg Value.int (by first | exact (nI_1 _).symm | rfl | (rw [acc_s]; first | rfl | (simp only [mlF, h_1, h_2, ↓reduceIte, Bool.false_eq_true]; done) | (simp only [mlF, h_1, h_2, ↓reduceIte, Bool.false_eq_true]; rfl))))) (mmv0 (congrArg Value.int (by first | exact (nI_1 _).symm | rfl | (rw [acc_s]; first | rfl | (simp only [mlF, h_1, h_2, ↓reduceIte, Bool.false_eq_true]; done) | (simp only [mlF, h_1, h_2, ↓reduceIte, Bool.false_eq_true]; rfl))))) (ih7 (_) (by omega) (i + 1) (by omega) rfl)
  exact ab_pm5 mm2 (mmv3 (congrArg Value.long (by rfl))) (mmv4 (congrArg Value.int (by rfl))) (mmv1 (congrArg Value.int (by rfl))) (mmv0 (congrArg Value.int (by rfl))) (L7 _ 0 (by omega) rfl)
theorem cm_X11_twoLies {G : ab_G} (hG : ab_GG G) {c : CS} {M D : List ab_E} (hM : M.length = 12) {one : Int32} {other : Int32} {nl : Nat} {ql : Nat → SY} (hL0 : cL c D (2 * 0) nl ql) {ns : Nat} {qs : Nat → SY} (hL1 : cL c D (2 * 0 + 1) ns qs) : ab_CM G mX11_twoLies [.ref 0, .int one, .int other] (cH c M D) (some (.int (twoC c (lfT ql nl qs ns) one other))) (cH (twoP c one other) M D) := by
  refine ab_meth (l0 := [(0, .ref 0), (1, .int one), (2, .int other)]) hG (by decide +kernel) rfl (Nat.le_of_ble_eq_true rfl) (cH_lenE (Nat.le_refl _)) (cH_szE (Nat.le_refl _)) (fun X hX hF => ?_)
  refine ab_aload_n hX dX11_twoLies_0 mm0 ?_
  refine ab_getfield hX dX11_twoLies_1 (fs_X11_25_12 rfl) cg_x rfl ?_
  refine ab_iload_n hX dX11_twoLies_4 mm1 ?_
  refine ab_callV1r hX dX11_twoLies_5 (cg_tr (show 0 < 3 by decide)) ss_X11_twoLies_128 (cm_X10_hasWitness hG hM (show 0 < 3 by decide)) (Nat.le_of_ble_eq_true rfl) ?_
  refine ab_ifeqB (tgt := 27) hX dX11_twoLies_8 (by decide) (fun h_1 => ?_) (fun h_1 => ?_)
  ·
    refine ab_iconst (v := (-1)) hX dX11_twoLies_27 (by decide) ?_
    exact ab_ireturn hX hF dX11_twoLies_28 rfl (by rfl) (congrArg some (congrArg Value.int (by first | rfl | (simp only [twoC, twoP, h_1, ↓reduceIte, Bool.false_eq_true]; done) | (simp only [twoC, twoP, h_1, ↓reduceIte, Bool.false_eq_true]; rfl) | (unfold twoC; (repeat' split) <;> first | rfl | contradiction | (simp_all; done))))) (by first | rfl | (simp only [twoC, twoP, h_1, ↓reduceIte, Bool.false_eq_true]; done) | (simp only [twoC, twoP, h_1, ↓reduceIte, Bool.false_eq_true]; rfl))
  ·
    refine ab_aload_n hX dX11_twoLies_11 mm0 ?_
    refine ab_getfield hX dX11_twoLies_12 (fs_X11_25_12 rfl) cg_x rfl ?_
    refine ab_iload_n hX dX11_twoLies_15 mm2 ?_
    refine ab_callV1r hX dX11_twoLies_16 (cg_tr (show 0 < 3 by decide)) ss_X11_twoLies_128 (cm_X10_hasWitness hG hM (show 0 < 3 by decide)) (Nat.le_of_ble_eq_true rfl) ?_
    refine ab_ifeqB (tgt := 27) hX dX11_twoLies_19 (by decide) (fun h_2 => ?_) (fun h_2 => ?_)
    ·
      refine ab_iconst (v := (-1)) hX dX11_twoLies_27 (by decide) ?_
      exact ab_ireturn hX hF dX11_twoLies_28 rfl (by rfl) (congrArg some (congrArg Value.int (by first | rfl | (simp only [twoC, twoP, h_1, h_2, ↓reduceIte, Bool.false_eq_true]; done) | (simp only [twoC, twoP, h_1, h_2, ↓reduceIte, Bool.false_eq_true]; rfl) | (unfold twoC; (repeat' split) <;> first | rfl | contradiction | (simp_all; done))))) (by first | rfl | (simp only [twoC, twoP, h_1, h_2, ↓reduceIte, Bool.false_eq_true]; done) | (simp only [twoC, twoP, h_1, h_2, ↓reduceIte, Bool.false_eq_true]; rfl))
    ·
      refine ab_iload_n hX dX11_twoLies_22 mm1 ?_
      refine ab_iload_n hX dX11_twoLies_23 mm2 ?_
      refine ab_icmpne (tgt := 29) hX dX11_twoLies_24 (by decide) (fun h_3 => ?_) (fun h_3 => ?_)
      ·
        refine ab_aload_n hX dX11_twoLies_29 mm0 ?_
        refine ab_getfield hX dX11_twoLies_30 (fs_X11_25_12 rfl) cg_x rfl ?_
        refine ab_callV0r hX dX11_twoLies_33 (cg_tr (show 0 < 3 by decide)) ss_X11_twoLies_198 (cm_X10_left hG hM (show 0 < 3 by decide) hL0 hL1) (Nat.le_of_ble_eq_true rfl) ?_
        refine ab_lstore_n hX dX11_twoLies_36 rfl (by decide) rfl ?_
        refine ab_aload_n hX dX11_twoLies_37 mm1 ?_
        refine ab_iload_n hX dX11_twoLies_38 mm2 ?_
        refine ab_aload_n hX dX11_twoLies_39 mm1 ?_
        refine ab_getfield hX dX11_twoLies_40 (fs_X11_35_12 rfl) cg_x rfl ?_
        refine ab_callV2r hX dX11_twoLies_43 cg_x ss_X11_twoLies_270 (fil_0 hG hM) (Nat.le_of_ble_eq_true rfl) ?_
        refine ab_istore hX dX11_twoLies_46 (by decide) rfl ?_
        refine ab_aload_n hX dX11_twoLies_48 mm2 ?_
        refine ab_iload_n hX dX11_twoLies_49 mm4 ?_
        refine ab_aload_n hX dX11_twoLies_50 mm2 ?_
        refine ab_getfield hX dX11_twoLies_51 (fs_X11_39_12 rfl) cg_x rfl ?_
        refine ab_callV2r hX dX11_twoLies_54 cg_x ss_X11_twoLies_270 (fil_1 hG hM) (Nat.le_of_ble_eq_true rfl) ?_
        have hn1 : (tw1 c one).2 ≤ 288 := Nat.le_trans (fl_le 288 _) (Nat.le_of_eq (Nat.zero_add 288))
        have hn2 : (tw2 c one other).2 ≤ 288 := Nat.le_trans (fl_le 288 _) (Nat.le_of_eq (Nat.zero_add 288))
        refine ab_istore hX dX11_twoLies_57 (by decide) rfl ?_
        refine ab_bipush (v := (-4)) hX dX11_twoLies_59 (by decide) ?_
        refine ab_istore hX dX11_twoLies_61 (by decide) rfl ?_
        refine ab_iconst (v := 0) hX dX11_twoLies_63 (by decide) ?_
        refine ab_istore hX dX11_twoLies_64 (by decide) rfl ?_
        have L66 : ∀ (k66_ : Nat) (i : Nat) (hi_ : i ≤ (tw1 c one).2), k66_ = (tw1 c one).2 - i → ab_WA G mX11_twoLies X 66 [(0, .ref 0), (3, .long (lfT ql nl qs ns)), (5, .int (nI (tw1 c one).2)), (6, .int (nI (tw2 c one other).2)), (7, .int (acc (tvF ((tw2 c one other).1.2.2.1 0) ((tw2 c one other).1.2.2.1 1) (lfT ql nl qs ns) (tw2 c one other).2) (-4) i)), (8, .int (nI i))] [] (cH (tw2 c one other).1 M D) := by
          intro k66_
          induction k66_ using Nat.strongRecOn with
          | _ k66_ ih66 =>
            intro i hi_ hk66_
            refine ab_iload hX dX11_twoLies_66 mm5 ?_
            refine ab_iload hX dX11_twoLies_68 mm2 ?_
            refine ab_icmpge (tgt := 129) hX dX11_twoLies_70 (by decide) (fun h_4 => ?_) (fun h_4 => ?_)
            ·
              have hx_ := ctE (N := (tw1 c one).2) h_4 (by rfl) (by omega) (by omega)
              obtain hie : i = (tw1 c one).2 := by omega
              refine ab_iload hX dX11_twoLies_129 mm4 ?_
              exact ab_ireturn hX hF dX11_twoLies_131 rfl (by rfl) (congrArg some (congrArg Value.int (by rw [hie]; simp only [twoC, h_1, h_2, h_3, h_4, ↓reduceIte, Bool.false_eq_true]; rfl))) (by simp only [twoP, h_1, h_2, h_3, h_4, ↓reduceIte, Bool.false_eq_true]; try rfl)
            ·
              have hlt_ := ctL (N := (tw1 c one).2) h_4 (by rfl) (by omega) (by omega)
              have hk9 : ¬ (288 : Int32) ≤ nI i := nI_ge (b := 288) (by omega) (by decide)
              refine ab_iload hX dX11_twoLies_73 mm5 ?_
              refine ab_aload_n hX dX11_twoLies_75 mm0 ?_
              refine ab_getfield hX dX11_twoLies_76 (fs_X11_35_12 rfl) cg_x rfl ?_
              refine ab_alen (v := 288) hX dX11_twoLies_79 cg_lo0 (by decide) rfl ?_
              refine ab_icmpge (tgt := 129) hX dX11_twoLies_80 (by decide) (fun h_5 => (by contradiction)) (fun h_5 => ?_)
              refine ab_lload_n hX dX11_twoLies_83 mm1 ?_
              refine ab_aload_n hX dX11_twoLies_84 mm0 ?_
              refine ab_getfield hX dX11_twoLies_85 (fs_X11_35_12 rfl) cg_x rfl ?_
              refine ab_iload hX dX11_twoLies_88 mm5 ?_
              refine ab_lald (i := i) hX dX11_twoLies_90 cg_lo0 rfl (by omega) (by decide) ?_
              refine ab_ldc2 hX dX11_twoLies_91 tw_667 ?_
              refine ab_lxor hX dX11_twoLies_94 ?_
              refine ab_land hX dX11_twoLies_95 ?_
              refine ab_lstore hX dX11_twoLies_96 (by decide) rfl ?_
              refine ab_lload hX dX11_twoLies_98 mm0 ?_
              refine ab_callS1r hX dX11_twoLies_100 ss_X11_twoLies_192 (cm_J13_bitCount_95d88 hG) (Nat.le_of_ble_eq_true rfl) ?_
              refine ab_iload hX dX11_twoLies_103 mm5 ?_
              refine ab_icmple (tgt := 123) hX dX11_twoLies_105 (by decide) (fun h_6 => ?_) (fun h_6 => ?_)
              ·
                refine ab_iinc hX dX11_twoLies_123 mm6 rfl (by decide) rfl ?_
                refine ab_goto (tgt := 66) hX dX11_twoLies_126 (by decide) ?_
                exact ab_pm6 mm2 (mmv3 (congrArg Value.long (by rfl))) (mmv4 (congrArg Value.int (by rfl))) (mmv5 (congrArg Value.int (by rfl))) (mmv6 (congrArg Value.int (by rw [acc_s]; simp only [tvF, h_1, h_2, h_3, h_4, h_5, h_6, ↓reduceIte, Bool.false_eq_true]; try rfl))) (mmv0 (congrArg Value.int (by exact (nI_1 _).symm))) (ih66 (_) (by omega) (i + 1) (by omega) rfl)
              ·
                refine ab_iload hX dX11_twoLies_108 mm5 ?_
                refine ab_aload_n hX dX11_twoLies_110 mm1 ?_
                refine ab_lload hX dX11_twoLies_111 mm0 ?_
                refine ab_iload hX dX11_twoLies_113 mm4 ?_
                refine ab_callV2r hX dX11_twoLies_115 cg_x ss_X11_twoLies_274 (cm_X11_mostLeft hG hM hn2) (Nat.le_of_ble_eq_true rfl) ?_
                refine ab_mmax hX dX11_twoLies_118 tw_779 (by decide) (Nat.le_of_ble_eq_true rfl) ?_
                refine ab_istore hX dX11_twoLies_121 (by decide) rfl ?_
                refine ab_iinc hX dX11_twoLies_123 mm6 rfl (by decide) rfl ?_
                refine ab_goto (tgt := 66) hX dX11_twoLies_126 (by decide) ?_
                exact ab_pm6 mm3 (mmv4 (congrArg Value.long (by rfl))) (mmv5 (congrArg Value.int (by rfl))) (mmv6 (congrArg Value.int (by rfl))) (mmv1 (congrArg Value.int (by rw [acc_s]; simp only [tvF, h_1, h_2, h_3, h_4, h_5, h_6, ↓reduceIte, Bool.false_eq_true]; try rfl))) (mmv0 (congrArg Value.int (by exact (nI_1 _).symm))) (ih66 (_) (by omega) (i + 1) (by omega) rfl)
        exact ab_pm6 mm5 (mmv4 (congrArg Value.long (by rfl))) (mmv3 (congrArg Value.int (by rfl))) (mmv2 (congrArg Value.int (by rfl))) (mmv1 (congrArg Value.int (by rfl))) (mmv0 (congrArg Value.int (by rfl))) (L66 _ 0 (by omega) rfl)
      ·
        refine ab_iconst (v := (-1)) hX dX11_twoLies_27 (by decide) ?_
        exact ab_ireturn hX hF dX11_twoLies_28 rfl (by rfl) (congrArg some (congrArg Value.int (by first | rfl | (simp only [twoC, twoP, h_1, h_2, h_3, ↓reduceIte, Bool.false_eq_true]; done) | (simp only [twoC, twoP, h_1, h_2, h_3, ↓reduceIte, Bool.false_eq_true]; rfl) | (unfold twoC; (repeat' split) <;> first | rfl | contradiction | (simp_all; done))))) (by first | rfl | (simp only [twoC, twoP, h_1, h_2, h_3, ↓reduceIte, Bool.false_eq_true]; done) | (simp only [twoC, twoP, h_1, h_2, h_3, ↓reduceIte, Bool.false_eq_true]; rfl))
