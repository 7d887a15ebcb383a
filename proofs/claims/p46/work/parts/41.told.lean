/-! the law's own small methods -/
def atF (L : Nat) (xs : Nat → Int32) (k : Nat) : Int32 := if k < L then xs k else 0
def someI (v n : Int32) : Int32 := if v - v / n * n < 0 then v - v / n * n + n else v - v / n * n
def sayV (v : Int32) : Int32 := made (someI (v >>> ((3 : Int32) &&& 31)) 8) (someI (v >>> ((6 : Int32) &&& 31)) 10) (someI (v >>> ((10 : Int32) &&& 31)) 6) (someI (v >>> ((13 : Int32) &&& 31)) 6)
def m10 (v : Int32) : Int32 := v - v / 10 * 10
def hbI (w f : Int32) : Bool := decide ((w >>> (f &&& 31)) &&& 1 = 1)
def hoB (k : Int32) (a b f : Bool) : Bool :=
  if 2 ≤ k then (if k = 2 then a && b else if k = 4 then b || !a else if k = 5 then (if a = true then b else !b) else if k = 6 then false else a || (b || (decide (k = 7) && f)))
  else decide (bi a = (if k = 0 then 1 else 0))
def hoV (v w : Int32) : Bool := hoB (v / 1000) (hbI w (m10 (v / 10))) (hbI w (m10 v)) (hbI w (m10 (v / 100) - m10 (v / 100) / 6 * 6))
theorem hb_t {w f : Int32} (h : (w >>> (f &&& 31)) &&& 1 = 1) : 1 = bi (hbI w f) := by rw [hbI, decide_eq_true h]; rfl
theorem hb_f {w f : Int32} (h : ¬ (w >>> (f &&& 31)) &&& 1 = 1) : 0 = bi (hbI w f) := by rw [hbI, decide_eq_false h]; rfl
theorem cm_L_at {G : ab_G} (hG : ab_GG G) {L : Nat} {xs : Nat → Int32} (hsc : va_X (G.2.2.1 1) L xs G.2.2.2.2.1 G.2.2.2.2.1.heap ∧ G.2.2.1 1 < G.2.1) (hL : L ≤ 260) {h : List ab_E} {k : Nat} (hk : k < 1000) : ab_CM G mL_at [.float 1, .int (nI k)] h (some (.int (atF L xs k))) h := by
  refine ab_meth (l0 := [(0, .float 1), (1, .int (nI k))]) hG (by decide +kernel) rfl (Nat.le_of_ble_eq_true rfl) (Nat.le_refl _) (Nat.le_refl _) (fun X hX hF => ?_)
  refine ab_iload_n hX dL_at_0 mm1 ?_
  refine ab_aload_nS hX dL_at_1 mm0 ?_
  refine ab_slen2 hX hsc dL_at_2 ?_
  refine ab_icmpge (tgt := 12) hX dL_at_3 (by decide) (fun h_1 => ?_) (fun h_1 => ?_)
  ·
    have hge_ : L ≤ k := (nI_leI (by omega) (by omega)).mp h_1
    refine ab_iconst (v := 0) hX dL_at_12 (by decide) ?_
    exact ab_ireturn hX hF dL_at_13 rfl (by rfl) (congrArg some (congrArg Value.int (by first | (unfold atF; rw [if_neg (by omega)]; done) | (unfold atF; rw [if_pos (by omega), nI_clamp (by omega)]; done) | rfl))) (by rfl)
  ·
    have hlt_ : k < L := Nat.not_le.mp (fun q => h_1 ((nI_leI (by omega) (by omega)).mpr q))
    refine ab_aload_nS hX dL_at_6 mm0 ?_
    refine ab_iload_n hX dL_at_7 mm1 ?_
    refine ab_sload hX hsc dL_at_8 (by exact vp_in_nI (by omega) (by omega)) ?_
    refine ab_goto (tgt := 13) hX dL_at_9 (by decide) ?_
    exact ab_ireturn hX hF dL_at_13 rfl (by rfl) (congrArg some (congrArg Value.int (by first | (unfold atF; rw [if_neg (by omega)]; done) | (unfold atF; rw [if_pos (by omega), nI_clamp (by omega)]; done) | rfl))) (by rfl)
theorem cm_L_some {G : ab_G} (hG : ab_GG G) {h : List ab_E} {v n : Int32} (hn : ¬ n = 0) : ab_CM G mL_some [.int v, .int n] h (some (.int (someI v n))) h := by
  refine ab_meth (l0 := [(0, .int v), (1, .int n)]) hG (by decide +kernel) rfl (Nat.le_of_ble_eq_true rfl) (Nat.le_refl _) (Nat.le_refl _) (fun X hX hF => ?_)
  refine ab_iload_n hX dL_some_0 mm0 ?_
  refine ab_iload_n hX dL_some_1 mm1 ?_
  refine ab_irem hX dL_some_2 (by assumption) ?_
  refine ab_istore_n hX dL_some_3 rfl (by decide) rfl ?_
  refine ab_iload_n hX dL_some_4 mm0 ?_
  refine ab_ifge (tgt := 14) hX dL_some_5 (by decide) (fun h_1 => ?_) (fun h_1 => ?_)
  ·
    have hge_ : ¬ v - v / n * n < 0 := fun q => absurd h_1 (fa_of_lt q).2.1
    refine ab_iload_n hX dL_some_14 mm0 ?_
    exact ab_ireturn hX hF dL_some_15 rfl (by rfl) (congrArg some (congrArg Value.int (by first | (unfold someI; rw [if_pos hlt_]; done) | (unfold someI; rw [if_neg hge_]; done)))) (by rfl)
  ·
    have hlt_ : v - v / n * n < 0 := Int32.not_le.mp h_1
    refine ab_iload_n hX dL_some_8 mm0 ?_
    refine ab_iload_n hX dL_some_9 mm2 ?_
    refine ab_iadd hX dL_some_10 ?_
    refine ab_goto (tgt := 15) hX dL_some_11 (by decide) ?_
    exact ab_ireturn hX hF dL_some_15 rfl (by rfl) (congrArg some (congrArg Value.int (by first | (unfold someI; rw [if_pos hlt_]; done) | (unfold someI; rw [if_neg hge_]; done)))) (by rfl)
theorem cm_L_saying {G : ab_G} (hG : ab_GG G) {h : List ab_E} {v : Int32} : ab_CM G mL_saying [.int v] h (some (.int (sayV v))) h := by
  refine ab_meth (l0 := [(0, .int v)]) hG (by decide +kernel) rfl (Nat.le_of_ble_eq_true rfl) (Nat.le_refl _) (Nat.le_refl _) (fun X hX hF => ?_)
  refine ab_sipush (v := 1000) hX dL_saying_0 (by decide) ?_
  refine ab_iload_n hX dL_saying_3 mm0 ?_
  refine ab_iconst (v := 3) hX dL_saying_4 (by decide) ?_
  refine ab_ishr hX dL_saying_5 ?_
  refine ab_bipush (v := 8) hX dL_saying_6 (by decide) ?_
  refine ab_callS2r hX dL_saying_8 ss_L_saying_13 (cm_L_some hG (by decide)) (Nat.le_of_ble_eq_true rfl) ?_
  refine ab_imul hX dL_saying_11 ?_
  refine ab_bipush (v := 100) hX dL_saying_12 (by decide) ?_
  refine ab_iload_n hX dL_saying_14 mm0 ?_
  refine ab_bipush (v := 6) hX dL_saying_15 (by decide) ?_
  refine ab_ishr hX dL_saying_17 ?_
  refine ab_bipush (v := 10) hX dL_saying_18 (by decide) ?_
  refine ab_callS2r hX dL_saying_20 ss_L_saying_13 (cm_L_some hG (by decide)) (Nat.le_of_ble_eq_true rfl) ?_
  refine ab_imul hX dL_saying_23 ?_
  refine ab_iadd hX dL_saying_24 ?_
  refine ab_bipush (v := 10) hX dL_saying_25 (by decide) ?_
  refine ab_iload_n hX dL_saying_27 mm0 ?_
  refine ab_bipush (v := 10) hX dL_saying_28 (by decide) ?_
  refine ab_ishr hX dL_saying_30 ?_
  refine ab_bipush (v := 6) hX dL_saying_31 (by decide) ?_
  refine ab_callS2r hX dL_saying_33 ss_L_saying_13 (cm_L_some hG (by decide)) (Nat.le_of_ble_eq_true rfl) ?_
  refine ab_imul hX dL_saying_36 ?_
  refine ab_iadd hX dL_saying_37 ?_
  refine ab_iload_n hX dL_saying_38 mm0 ?_
  refine ab_bipush (v := 13) hX dL_saying_39 (by decide) ?_
  refine ab_ishr hX dL_saying_41 ?_
  refine ab_bipush (v := 6) hX dL_saying_42 (by decide) ?_
  refine ab_callS2r hX dL_saying_44 ss_L_saying_13 (cm_L_some hG (by decide)) (Nat.le_of_ble_eq_true rfl) ?_
  refine ab_iadd hX dL_saying_47 ?_
  exact ab_ireturn hX hF dL_saying_48 rfl (by rfl) (congrArg some (congrArg Value.int (by rfl))) (by rfl)
theorem cm_L_holds {G : ab_G} (hG : ab_GG G) {h : List ab_E} {v w : Int32} : ab_CM G mL_holds [.int v, .int w] h (some (.int (bi (hoV v w)))) h := by
  refine ab_meth (l0 := [(0, .int v), (1, .int w)]) hG (by decide +kernel) rfl (Nat.le_of_ble_eq_true rfl) (Nat.le_refl _) (Nat.le_refl _) (fun X hX hF => ?_)
  have hk_ : hoV v w = hoB (v / 1000) (hbI w (m10 (v / 10))) (hbI w (m10 v)) (hbI w (m10 (v / 100) - m10 (v / 100) / 6 * 6)) := rfl
  refine ab_iload_n hX dL_holds_0 mm0 ?_
  refine ab_sipush (v := 1000) hX dL_holds_1 (by decide) ?_
  refine ab_idiv hX dL_holds_4 (by decide) ?_
  refine ab_istore_n hX dL_holds_5 rfl (by decide) rfl ?_
  refine ab_iload_n hX dL_holds_6 mm2 ?_
  refine ab_iload_n hX dL_holds_7 mm1 ?_
  refine ab_bipush (v := 10) hX dL_holds_8 (by decide) ?_
  refine ab_idiv hX dL_holds_10 (by decide) ?_
  refine ab_bipush (v := 10) hX dL_holds_11 (by decide) ?_
  refine ab_irem hX dL_holds_13 (by decide) ?_
  refine ab_ishr hX dL_holds_14 ?_
  refine ab_iconst (v := 1) hX dL_holds_15 (by decide) ?_
  refine ab_iand hX dL_holds_16 ?_
  refine ab_iconst (v := 1) hX dL_holds_17 (by decide) ?_
  have J27 : ab_WA G mL_holds X 27 [(3, .int (bi (hbI w (m10 (v / 10))))), (2, .int (v / 1000)), (0, .int (v)), (1, .int (w))] [] h := by
    refine ab_iload_n hX dL_holds_27 mm3 ?_
    refine ab_iload_n hX dL_holds_28 mm2 ?_
    refine ab_bipush (v := 10) hX dL_holds_29 (by decide) ?_
    refine ab_irem hX dL_holds_31 (by decide) ?_
    refine ab_ishr hX dL_holds_32 ?_
    refine ab_iconst (v := 1) hX dL_holds_33 (by decide) ?_
    refine ab_iand hX dL_holds_34 ?_
    refine ab_iconst (v := 1) hX dL_holds_35 (by decide) ?_
    have J46 : ab_WA G mL_holds X 46 [(4, .int (bi (hbI w (m10 v)))), (3, .int (bi (hbI w (m10 (v / 10))))), (2, .int (v / 1000)), (0, .int (v)), (1, .int (w))] [] h := by
      refine ab_iload_n hX dL_holds_46 mm2 ?_
      refine ab_iconst (v := 2) hX dL_holds_47 (by decide) ?_
      refine ab_icmpge (tgt := 70) hX dL_holds_48 (by decide) (fun h_3 => ?_) (fun h_3 => ?_)
      ·
        refine ab_iload_n hX dL_holds_70 mm2 ?_
        refine ab_iconst (v := 2) hX dL_holds_71 (by decide) ?_
        refine ab_icmpne (tgt := 90) hX dL_holds_72 (by decide) (fun h_4 => ?_) (fun h_4 => ?_)
        ·
          refine ab_iload_n hX dL_holds_90 mm2 ?_
          refine ab_iconst (v := 4) hX dL_holds_91 (by decide) ?_
          refine ab_icmpne (tgt := 110) hX dL_holds_92 (by decide) (fun h_5 => ?_) (fun h_5 => ?_)
          ·
            refine ab_iload_n hX dL_holds_110 mm2 ?_
            refine ab_iconst (v := 5) hX dL_holds_111 (by decide) ?_
            refine ab_icmpne (tgt := 135) hX dL_holds_112 (by decide) (fun h_6 => ?_) (fun h_6 => ?_)
            ·
              refine ab_iload_n hX dL_holds_135 mm2 ?_
              refine ab_bipush (v := 6) hX dL_holds_136 (by decide) ?_
              refine ab_icmpne (tgt := 145) hX dL_holds_138 (by decide) (fun h_7 => ?_) (fun h_7 => ?_)
              ·
                refine ab_iload_n hX dL_holds_145 mm1 ?_
                refine ab_ifneB (tgt := 178) hX dL_holds_146 (by decide) (fun h_8 => ?_) (fun h_8 => ?_)
                ·
                  refine ab_iconst (v := 1) hX dL_holds_178 (by decide) ?_
                  refine ab_goto (tgt := 183) hX dL_holds_179 (by decide) ?_
                  exact ab_ireturn hX hF dL_holds_183 rfl (by decide) (congrArg some (congrArg Value.int (by rw [hk_]; first | (simp only [hoB, h_3, h_4, h_5, h_6, h_7, h_8, hf_, Bool.true_and, Bool.false_and, Bool.and_true, Bool.and_false, Bool.not_true, Bool.not_false, Bool.or_true, Bool.true_or, Bool.false_or, Bool.or_false, decide_true, decide_false, bi_t, bi_f, ↓reduceIte, Bool.false_eq_true]; done) | (simp only [hoB, h_3, h_4, h_5, h_6, h_7, h_8, hf_, Bool.true_and, Bool.false_and, Bool.and_true, Bool.and_false, Bool.not_true, Bool.not_false, Bool.or_true, Bool.true_or, Bool.false_or, Bool.or_false, decide_true, decide_false, bi_t, bi_f, ↓reduceIte, Bool.false_eq_true]; rfl) | (simp only [hoB, h_3, h_4, h_5, h_6, h_7, h_8, Bool.true_and, Bool.false_and, Bool.and_true, Bool.and_false, Bool.not_true, Bool.not_false, Bool.or_true, Bool.true_or, Bool.false_or, Bool.or_false, decide_true, decide_false, bi_t, bi_f, ↓reduceIte, Bool.false_eq_true]; done) | (simp only [hoB, h_3, h_4, h_5, h_6, h_7, h_8, Bool.true_and, Bool.false_and, Bool.and_true, Bool.and_false, Bool.not_true, Bool.not_false, Bool.or_true, Bool.true_or, Bool.false_or, Bool.or_false, decide_true, decide_false, bi_t, bi_f, ↓reduceIte, Bool.false_eq_true]; rfl) | (simp_all [hoB, bi_t, bi_f]; done)))) (by rfl)
                ·
                  refine ab_iload hX dL_holds_149 mm0 ?_
                  refine ab_ifneB (tgt := 178) hX dL_holds_151 (by decide) (fun h_9 => ?_) (fun h_9 => ?_)
                  ·
                    refine ab_iconst (v := 1) hX dL_holds_178 (by decide) ?_
                    refine ab_goto (tgt := 183) hX dL_holds_179 (by decide) ?_
                    exact ab_ireturn hX hF dL_holds_183 rfl (by decide) (congrArg some (congrArg Value.int (by rw [hk_]; first | (simp only [hoB, h_3, h_4, h_5, h_6, h_7, h_8, h_9, hf_, Bool.true_and, Bool.false_and, Bool.and_true, Bool.and_false, Bool.not_true, Bool.not_false, Bool.or_true, Bool.true_or, Bool.false_or, Bool.or_false, decide_true, decide_false, bi_t, bi_f, ↓reduceIte, Bool.false_eq_true]; done) | (simp only [hoB, h_3, h_4, h_5, h_6, h_7, h_8, h_9, hf_, Bool.true_and, Bool.false_and, Bool.and_true, Bool.and_false, Bool.not_true, Bool.not_false, Bool.or_true, Bool.true_or, Bool.false_or, Bool.or_false, decide_true, decide_false, bi_t, bi_f, ↓reduceIte, Bool.false_eq_true]; rfl) | (simp only [hoB, h_3, h_4, h_5, h_6, h_7, h_8, h_9, Bool.true_and, Bool.false_and, Bool.and_true, Bool.and_false, Bool.not_true, Bool.not_false, Bool.or_true, Bool.true_or, Bool.false_or, Bool.or_false, decide_true, decide_false, bi_t, bi_f, ↓reduceIte, Bool.false_eq_true]; done) | (simp only [hoB, h_3, h_4, h_5, h_6, h_7, h_8, h_9, Bool.true_and, Bool.false_and, Bool.and_true, Bool.and_false, Bool.not_true, Bool.not_false, Bool.or_true, Bool.true_or, Bool.false_or, Bool.or_false, decide_true, decide_false, bi_t, bi_f, ↓reduceIte, Bool.false_eq_true]; rfl) | (simp_all [hoB, bi_t, bi_f]; done)))) (by rfl)
                  ·
                    refine ab_iload_n hX dL_holds_154 mm2 ?_
                    refine ab_bipush (v := 7) hX dL_holds_155 (by decide) ?_
                    refine ab_icmpne (tgt := 182) hX dL_holds_157 (by decide) (fun h_10 => ?_) (fun h_10 => ?_)
                    ·
                      refine ab_iconst (v := 0) hX dL_holds_182 (by decide) ?_
                      exact ab_ireturn hX hF dL_holds_183 rfl (by decide) (congrArg some (congrArg Value.int (by rw [hk_]; first | (simp only [hoB, h_3, h_4, h_5, h_6, h_7, h_8, h_9, h_10, hf_, Bool.true_and, Bool.false_and, Bool.and_true, Bool.and_false, Bool.not_true, Bool.not_false, Bool.or_true, Bool.true_or, Bool.false_or, Bool.or_false, decide_true, decide_false, bi_t, bi_f, ↓reduceIte, Bool.false_eq_true]; done) | (simp only [hoB, h_3, h_4, h_5, h_6, h_7, h_8, h_9, h_10, hf_, Bool.true_and, Bool.false_and, Bool.and_true, Bool.and_false, Bool.not_true, Bool.not_false, Bool.or_true, Bool.true_or, Bool.false_or, Bool.or_false, decide_true, decide_false, bi_t, bi_f, ↓reduceIte, Bool.false_eq_true]; rfl) | (simp only [hoB, h_3, h_4, h_5, h_6, h_7, h_8, h_9, h_10, Bool.true_and, Bool.false_and, Bool.and_true, Bool.and_false, Bool.not_true, Bool.not_false, Bool.or_true, Bool.true_or, Bool.false_or, Bool.or_false, decide_true, decide_false, bi_t, bi_f, ↓reduceIte, Bool.false_eq_true]; done) | (simp only [hoB, h_3, h_4, h_5, h_6, h_7, h_8, h_9, h_10, Bool.true_and, Bool.false_and, Bool.and_true, Bool.and_false, Bool.not_true, Bool.not_false, Bool.or_true, Bool.true_or, Bool.false_or, Bool.or_false, decide_true, decide_false, bi_t, bi_f, ↓reduceIte, Bool.false_eq_true]; rfl) | (simp_all [hoB, bi_t, bi_f]; done)))) (by rfl)
                    ·
                      refine ab_iload_n hX dL_holds_160 mm4 ?_
                      refine ab_iload_n hX dL_holds_161 mm3 ?_
                      refine ab_bipush (v := 100) hX dL_holds_162 (by decide) ?_
                      refine ab_idiv hX dL_holds_164 (by decide) ?_
                      refine ab_bipush (v := 10) hX dL_holds_165 (by decide) ?_
                      refine ab_irem hX dL_holds_167 (by decide) ?_
                      refine ab_bipush (v := 6) hX dL_holds_168 (by decide) ?_
                      refine ab_irem hX dL_holds_170 (by decide) ?_
                      refine ab_ishr hX dL_holds_171 ?_
                      refine ab_iconst (v := 1) hX dL_holds_172 (by decide) ?_
                      refine ab_iand hX dL_holds_173 ?_
                      refine ab_iconst (v := 1) hX dL_holds_174 (by decide) ?_
                      refine ab_icmpne (tgt := 182) hX dL_holds_175 (by decide) (fun h_11 => ?_) (fun h_11 => ?_)
                      ·
                        have hf_ : hbI w (m10 (v / 100) - m10 (v / 100) / 6 * 6) = false := decide_eq_false h_11
                        refine ab_iconst (v := 0) hX dL_holds_182 (by decide) ?_
                        exact ab_ireturn hX hF dL_holds_183 rfl (by decide) (congrArg some (congrArg Value.int (by rw [hk_]; first | (simp only [hoB, h_3, h_4, h_5, h_6, h_7, h_8, h_9, h_10, hf_, Bool.true_and, Bool.false_and, Bool.and_true, Bool.and_false, Bool.not_true, Bool.not_false, Bool.or_true, Bool.true_or, Bool.false_or, Bool.or_false, decide_true, decide_false, bi_t, bi_f, ↓reduceIte, Bool.false_eq_true]; done) | (simp only [hoB, h_3, h_4, h_5, h_6, h_7, h_8, h_9, h_10, hf_, Bool.true_and, Bool.false_and, Bool.and_true, Bool.and_false, Bool.not_true, Bool.not_false, Bool.or_true, Bool.true_or, Bool.false_or, Bool.or_false, decide_true, decide_false, bi_t, bi_f, ↓reduceIte, Bool.false_eq_true]; rfl) | (simp only [hoB, h_3, h_4, h_5, h_6, h_7, h_8, h_9, h_10, Bool.true_and, Bool.false_and, Bool.and_true, Bool.and_false, Bool.not_true, Bool.not_false, Bool.or_true, Bool.true_or, Bool.false_or, Bool.or_false, decide_true, decide_false, bi_t, bi_f, ↓reduceIte, Bool.false_eq_true]; done) | (simp only [hoB, h_3, h_4, h_5, h_6, h_7, h_8, h_9, h_10, Bool.true_and, Bool.false_and, Bool.and_true, Bool.and_false, Bool.not_true, Bool.not_false, Bool.or_true, Bool.true_or, Bool.false_or, Bool.or_false, decide_true, decide_false, bi_t, bi_f, ↓reduceIte, Bool.false_eq_true]; rfl) | (simp_all [hoB, bi_t, bi_f]; done)))) (by rfl)
                      ·
                        have hf_ : hbI w (m10 (v / 100) - m10 (v / 100) / 6 * 6) = true := decide_eq_true h_11
                        refine ab_iconst (v := 1) hX dL_holds_178 (by decide) ?_
                        refine ab_goto (tgt := 183) hX dL_holds_179 (by decide) ?_
                        exact ab_ireturn hX hF dL_holds_183 rfl (by decide) (congrArg some (congrArg Value.int (by rw [hk_]; first | (simp only [hoB, h_3, h_4, h_5, h_6, h_7, h_8, h_9, h_10, hf_, Bool.true_and, Bool.false_and, Bool.and_true, Bool.and_false, Bool.not_true, Bool.not_false, Bool.or_true, Bool.true_or, Bool.false_or, Bool.or_false, decide_true, decide_false, bi_t, bi_f, ↓reduceIte, Bool.false_eq_true]; done) | (simp only [hoB, h_3, h_4, h_5, h_6, h_7, h_8, h_9, h_10, hf_, Bool.true_and, Bool.false_and, Bool.and_true, Bool.and_false, Bool.not_true, Bool.not_false, Bool.or_true, Bool.true_or, Bool.false_or, Bool.or_false, decide_true, decide_false, bi_t, bi_f, ↓reduceIte, Bool.false_eq_true]; rfl) | (simp only [hoB, h_3, h_4, h_5, h_6, h_7, h_8, h_9, h_10, Bool.true_and, Bool.false_and, Bool.and_true, Bool.and_false, Bool.not_true, Bool.not_false, Bool.or_true, Bool.true_or, Bool.false_or, Bool.or_false, decide_true, decide_false, bi_t, bi_f, ↓reduceIte, Bool.false_eq_true]; done) | (simp only [hoB, h_3, h_4, h_5, h_6, h_7, h_8, h_9, h_10, Bool.true_and, Bool.false_and, Bool.and_true, Bool.and_false, Bool.not_true, Bool.not_false, Bool.or_true, Bool.true_or, Bool.false_or, Bool.or_false, decide_true, decide_false, bi_t, bi_f, ↓reduceIte, Bool.false_eq_true]; rfl) | (simp_all [hoB, bi_t, bi_f]; done)))) (by rfl)
              ·
                refine ab_iconst (v := 0) hX dL_holds_141 (by decide) ?_
                refine ab_goto (tgt := 183) hX dL_holds_142 (by decide) ?_
                exact ab_ireturn hX hF dL_holds_183 rfl (by decide) (congrArg some (congrArg Value.int (by rw [hk_]; first | (simp only [hoB, h_3, h_4, h_5, h_6, h_7, hf_, Bool.true_and, Bool.false_and, Bool.and_true, Bool.and_false, Bool.not_true, Bool.not_false, Bool.or_true, Bool.true_or, Bool.false_or, Bool.or_false, decide_true, decide_false, bi_t, bi_f, ↓reduceIte, Bool.false_eq_true]; done) | (simp only [hoB, h_3, h_4, h_5, h_6, h_7, hf_, Bool.true_and, Bool.false_and, Bool.and_true, Bool.and_false, Bool.not_true, Bool.not_false, Bool.or_true, Bool.true_or, Bool.false_or, Bool.or_false, decide_true, decide_false, bi_t, bi_f, ↓reduceIte, Bool.false_eq_true]; rfl) | (simp only [hoB, h_3, h_4, h_5, h_6, h_7, Bool.true_and, Bool.false_and, Bool.and_true, Bool.and_false, Bool.not_true, Bool.not_false, Bool.or_true, Bool.true_or, Bool.false_or, Bool.or_false, decide_true, decide_false, bi_t, bi_f, ↓reduceIte, Bool.false_eq_true]; done) | (simp only [hoB, h_3, h_4, h_5, h_6, h_7, Bool.true_and, Bool.false_and, Bool.and_true, Bool.and_false, Bool.not_true, Bool.not_false, Bool.or_true, Bool.true_or, Bool.false_or, Bool.or_false, decide_true, decide_false, bi_t, bi_f, ↓reduceIte, Bool.false_eq_true]; rfl) | (simp_all [hoB, bi_t, bi_f]; done)))) (by rfl)
            ·
              refine ab_iload_n hX dL_holds_115 mm1 ?_
              refine ab_ifeqB (tgt := 124) hX dL_holds_116 (by decide) (fun h_12 => ?_) (fun h_12 => ?_)
              ·
                refine ab_iload hX dL_holds_124 mm0 ?_
                refine ab_ifneB (tgt := 133) hX dL_holds_126 (by decide) (fun h_13 => ?_) (fun h_13 => ?_)
                ·
                  refine ab_iconst (v := 0) hX dL_holds_133 (by decide) ?_
                  exact ab_ireturn hX hF dL_holds_134 rfl (by first | rfl | exact bi_n _ | decide) (congrArg some (congrArg Value.int (by rw [hk_]; first | (simp only [hoB, h_3, h_4, h_5, h_6, h_12, h_13, Bool.true_and, Bool.false_and, Bool.and_true, Bool.and_false, Bool.not_true, Bool.not_false, Bool.or_true, Bool.true_or, Bool.false_or, Bool.or_false, decide_true, decide_false, bi_t, bi_f, ↓reduceIte, Bool.false_eq_true]; done) | (simp only [hoB, h_3, h_4, h_5, h_6, h_12, h_13, Bool.true_and, Bool.false_and, Bool.and_true, Bool.and_false, Bool.not_true, Bool.not_false, Bool.or_true, Bool.true_or, Bool.false_or, Bool.or_false, decide_true, decide_false, bi_t, bi_f, ↓reduceIte, Bool.false_eq_true]; rfl) | (simp only [hoB, h_3, h_4, h_5, h_6, h_12, h_13, Bool.true_and, Bool.false_and, Bool.and_true, Bool.and_false, Bool.not_true, Bool.not_false, Bool.or_true, Bool.true_or, Bool.false_or, Bool.or_false, decide_true, decide_false, bi_t, bi_f, ↓reduceIte, Bool.false_eq_true]; decide) | (simp_all [hoB, bi_t, bi_f]; done)))) (by rfl)
                ·
                  refine ab_iconst (v := 1) hX dL_holds_129 (by decide) ?_
                  refine ab_goto (tgt := 134) hX dL_holds_130 (by decide) ?_
                  exact ab_ireturn hX hF dL_holds_134 rfl (by first | rfl | exact bi_n _ | decide) (congrArg some (congrArg Value.int (by rw [hk_]; first | (simp only [hoB, h_3, h_4, h_5, h_6, h_12, h_13, Bool.true_and, Bool.false_and, Bool.and_true, Bool.and_false, Bool.not_true, Bool.not_false, Bool.or_true, Bool.true_or, Bool.false_or, Bool.or_false, decide_true, decide_false, bi_t, bi_f, ↓reduceIte, Bool.false_eq_true]; done) | (simp only [hoB, h_3, h_4, h_5, h_6, h_12, h_13, Bool.true_and, Bool.false_and, Bool.and_true, Bool.and_false, Bool.not_true, Bool.not_false, Bool.or_true, Bool.true_or, Bool.false_or, Bool.or_false, decide_true, decide_false, bi_t, bi_f, ↓reduceIte, Bool.false_eq_true]; rfl) | (simp only [hoB, h_3, h_4, h_5, h_6, h_12, h_13, Bool.true_and, Bool.false_and, Bool.and_true, Bool.and_false, Bool.not_true, Bool.not_false, Bool.or_true, Bool.true_or, Bool.false_or, Bool.or_false, decide_true, decide_false, bi_t, bi_f, ↓reduceIte, Bool.false_eq_true]; decide) | (simp_all [hoB, bi_t, bi_f]; done)))) (by rfl)
              ·
                refine ab_iload hX dL_holds_119 mm0 ?_
                refine ab_goto (tgt := 134) hX dL_holds_121 (by decide) ?_
                exact ab_ireturn hX hF dL_holds_134 rfl (by first | rfl | exact bi_n _ | decide) (congrArg some (congrArg Value.int (by rw [hk_]; first | (simp only [hoB, h_3, h_4, h_5, h_6, h_12, Bool.true_and, Bool.false_and, Bool.and_true, Bool.and_false, Bool.not_true, Bool.not_false, Bool.or_true, Bool.true_or, Bool.false_or, Bool.or_false, decide_true, decide_false, bi_t, bi_f, ↓reduceIte, Bool.false_eq_true]; done) | (simp only [hoB, h_3, h_4, h_5, h_6, h_12, Bool.true_and, Bool.false_and, Bool.and_true, Bool.and_false, Bool.not_true, Bool.not_false, Bool.or_true, Bool.true_or, Bool.false_or, Bool.or_false, decide_true, decide_false, bi_t, bi_f, ↓reduceIte, Bool.false_eq_true]; rfl) | (simp only [hoB, h_3, h_4, h_5, h_6, h_12, Bool.true_and, Bool.false_and, Bool.and_true, Bool.and_false, Bool.not_true, Bool.not_false, Bool.or_true, Bool.true_or, Bool.false_or, Bool.or_false, decide_true, decide_false, bi_t, bi_f, ↓reduceIte, Bool.false_eq_true]; decide) | (simp_all [hoB, bi_t, bi_f]; done)))) (by rfl)
          ·
            refine ab_iload hX dL_holds_95 mm0 ?_
            refine ab_ifneB (tgt := 104) hX dL_holds_97 (by decide) (fun h_14 => ?_) (fun h_14 => ?_)
            ·
              refine ab_iconst (v := 1) hX dL_holds_104 (by decide) ?_
              refine ab_goto (tgt := 109) hX dL_holds_105 (by decide) ?_
              exact ab_ireturn hX hF dL_holds_109 rfl (by decide) (congrArg some (congrArg Value.int (by rw [hk_]; first | (simp only [hoB, h_3, h_4, h_5, h_14, Bool.true_and, Bool.false_and, Bool.and_true, Bool.and_false, Bool.not_true, Bool.not_false, Bool.or_true, Bool.true_or, Bool.false_or, Bool.or_false, decide_true, decide_false, bi_t, bi_f, ↓reduceIte, Bool.false_eq_true]; done) | (simp only [hoB, h_3, h_4, h_5, h_14, Bool.true_and, Bool.false_and, Bool.and_true, Bool.and_false, Bool.not_true, Bool.not_false, Bool.or_true, Bool.true_or, Bool.false_or, Bool.or_false, decide_true, decide_false, bi_t, bi_f, ↓reduceIte, Bool.false_eq_true]; rfl) | (simp only [hoB, h_3, h_4, h_5, h_14, Bool.true_and, Bool.false_and, Bool.and_true, Bool.and_false, Bool.not_true, Bool.not_false, Bool.or_true, Bool.true_or, Bool.false_or, Bool.or_false, decide_true, decide_false, bi_t, bi_f, ↓reduceIte, Bool.false_eq_true]; decide) | (simp_all [hoB, bi_t, bi_f]; done)))) (by rfl)
            ·
              refine ab_iload_n hX dL_holds_100 mm1 ?_
              refine ab_ifneB (tgt := 108) hX dL_holds_101 (by decide) (fun h_15 => ?_) (fun h_15 => ?_)
              ·
                refine ab_iconst (v := 0) hX dL_holds_108 (by decide) ?_
                exact ab_ireturn hX hF dL_holds_109 rfl (by decide) (congrArg some (congrArg Value.int (by rw [hk_]; first | (simp only [hoB, h_3, h_4, h_5, h_14, h_15, Bool.true_and, Bool.false_and, Bool.and_true, Bool.and_false, Bool.not_true, Bool.not_false, Bool.or_true, Bool.true_or, Bool.false_or, Bool.or_false, decide_true, decide_false, bi_t, bi_f, ↓reduceIte, Bool.false_eq_true]; done) | (simp only [hoB, h_3, h_4, h_5, h_14, h_15, Bool.true_and, Bool.false_and, Bool.and_true, Bool.and_false, Bool.not_true, Bool.not_false, Bool.or_true, Bool.true_or, Bool.false_or, Bool.or_false, decide_true, decide_false, bi_t, bi_f, ↓reduceIte, Bool.false_eq_true]; rfl) | (simp only [hoB, h_3, h_4, h_5, h_14, h_15, Bool.true_and, Bool.false_and, Bool.and_true, Bool.and_false, Bool.not_true, Bool.not_false, Bool.or_true, Bool.true_or, Bool.false_or, Bool.or_false, decide_true, decide_false, bi_t, bi_f, ↓reduceIte, Bool.false_eq_true]; decide) | (simp_all [hoB, bi_t, bi_f]; done)))) (by rfl)
              ·
                refine ab_iconst (v := 1) hX dL_holds_104 (by decide) ?_
                refine ab_goto (tgt := 109) hX dL_holds_105 (by decide) ?_
                exact ab_ireturn hX hF dL_holds_109 rfl (by decide) (congrArg some (congrArg Value.int (by rw [hk_]; first | (simp only [hoB, h_3, h_4, h_5, h_14, h_15, Bool.true_and, Bool.false_and, Bool.and_true, Bool.and_false, Bool.not_true, Bool.not_false, Bool.or_true, Bool.true_or, Bool.false_or, Bool.or_false, decide_true, decide_false, bi_t, bi_f, ↓reduceIte, Bool.false_eq_true]; done) | (simp only [hoB, h_3, h_4, h_5, h_14, h_15, Bool.true_and, Bool.false_and, Bool.and_true, Bool.and_false, Bool.not_true, Bool.not_false, Bool.or_true, Bool.true_or, Bool.false_or, Bool.or_false, decide_true, decide_false, bi_t, bi_f, ↓reduceIte, Bool.false_eq_true]; rfl) | (simp only [hoB, h_3, h_4, h_5, h_14, h_15, Bool.true_and, Bool.false_and, Bool.and_true, Bool.and_false, Bool.not_true, Bool.not_false, Bool.or_true, Bool.true_or, Bool.false_or, Bool.or_false, decide_true, decide_false, bi_t, bi_f, ↓reduceIte, Bool.false_eq_true]; decide) | (simp_all [hoB, bi_t, bi_f]; done)))) (by rfl)
        ·
          refine ab_iload_n hX dL_holds_75 mm1 ?_
          refine ab_ifeqB (tgt := 88) hX dL_holds_76 (by decide) (fun h_16 => ?_) (fun h_16 => ?_)
          ·
            refine ab_iconst (v := 0) hX dL_holds_88 (by decide) ?_
            exact ab_ireturn hX hF dL_holds_89 rfl (by decide) (congrArg some (congrArg Value.int (by rw [hk_]; first | (simp only [hoB, h_3, h_4, h_16, Bool.true_and, Bool.false_and, Bool.and_true, Bool.and_false, Bool.not_true, Bool.not_false, Bool.or_true, Bool.true_or, Bool.false_or, Bool.or_false, decide_true, decide_false, bi_t, bi_f, ↓reduceIte, Bool.false_eq_true]; done) | (simp only [hoB, h_3, h_4, h_16, Bool.true_and, Bool.false_and, Bool.and_true, Bool.and_false, Bool.not_true, Bool.not_false, Bool.or_true, Bool.true_or, Bool.false_or, Bool.or_false, decide_true, decide_false, bi_t, bi_f, ↓reduceIte, Bool.false_eq_true]; rfl) | (simp only [hoB, h_3, h_4, h_16, Bool.true_and, Bool.false_and, Bool.and_true, Bool.and_false, Bool.not_true, Bool.not_false, Bool.or_true, Bool.true_or, Bool.false_or, Bool.or_false, decide_true, decide_false, bi_t, bi_f, ↓reduceIte, Bool.false_eq_true]; decide) | (simp_all [hoB, bi_t, bi_f]; done)))) (by rfl)
          ·
            refine ab_iload hX dL_holds_79 mm0 ?_
            refine ab_ifeqB (tgt := 88) hX dL_holds_81 (by decide) (fun h_17 => ?_) (fun h_17 => ?_)
            ·
              refine ab_iconst (v := 0) hX dL_holds_88 (by decide) ?_
              exact ab_ireturn hX hF dL_holds_89 rfl (by decide) (congrArg some (congrArg Value.int (by rw [hk_]; first | (simp only [hoB, h_3, h_4, h_16, h_17, Bool.true_and, Bool.false_and, Bool.and_true, Bool.and_false, Bool.not_true, Bool.not_false, Bool.or_true, Bool.true_or, Bool.false_or, Bool.or_false, decide_true, decide_false, bi_t, bi_f, ↓reduceIte, Bool.false_eq_true]; done) | (simp only [hoB, h_3, h_4, h_16, h_17, Bool.true_and, Bool.false_and, Bool.and_true, Bool.and_false, Bool.not_true, Bool.not_false, Bool.or_true, Bool.true_or, Bool.false_or, Bool.or_false, decide_true, decide_false, bi_t, bi_f, ↓reduceIte, Bool.false_eq_true]; rfl) | (simp only [hoB, h_3, h_4, h_16, h_17, Bool.true_and, Bool.false_and, Bool.and_true, Bool.and_false, Bool.not_true, Bool.not_false, Bool.or_true, Bool.true_or, Bool.false_or, Bool.or_false, decide_true, decide_false, bi_t, bi_f, ↓reduceIte, Bool.false_eq_true]; decide) | (simp_all [hoB, bi_t, bi_f]; done)))) (by rfl)
            ·
              refine ab_iconst (v := 1) hX dL_holds_84 (by decide) ?_
              refine ab_goto (tgt := 89) hX dL_holds_85 (by decide) ?_
              exact ab_ireturn hX hF dL_holds_89 rfl (by decide) (congrArg some (congrArg Value.int (by rw [hk_]; first | (simp only [hoB, h_3, h_4, h_16, h_17, Bool.true_and, Bool.false_and, Bool.and_true, Bool.and_false, Bool.not_true, Bool.not_false, Bool.or_true, Bool.true_or, Bool.false_or, Bool.or_false, decide_true, decide_false, bi_t, bi_f, ↓reduceIte, Bool.false_eq_true]; done) | (simp only [hoB, h_3, h_4, h_16, h_17, Bool.true_and, Bool.false_and, Bool.and_true, Bool.and_false, Bool.not_true, Bool.not_false, Bool.or_true, Bool.true_or, Bool.false_or, Bool.or_false, decide_true, decide_false, bi_t, bi_f, ↓reduceIte, Bool.false_eq_true]; rfl) | (simp only [hoB, h_3, h_4, h_16, h_17, Bool.true_and, Bool.false_and, Bool.and_true, Bool.and_false, Bool.not_true, Bool.not_false, Bool.or_true, Bool.true_or, Bool.false_or, Bool.or_false, decide_true, decide_false, bi_t, bi_f, ↓reduceIte, Bool.false_eq_true]; decide) | (simp_all [hoB, bi_t, bi_f]; done)))) (by rfl)
      ·
        refine ab_iload_n hX dL_holds_51 mm1 ?_
        refine ab_iload_n hX dL_holds_52 mm2 ?_
        refine ab_ifne (tgt := 60) hX dL_holds_53 (by decide) (fun h_18 => ?_) (fun h_18 => ?_)
        ·
          refine ab_iconst (v := 0) hX dL_holds_60 (by decide) ?_
          refine ab_icmpne (tgt := 68) hX dL_holds_61 (by decide) (fun h_19 => ?_) (fun h_19 => ?_)
          ·
            refine ab_iconst (v := 0) hX dL_holds_68 (by decide) ?_
            exact ab_ireturn hX hF dL_holds_69 rfl (by first | rfl | decide) (congrArg some (congrArg Value.int (by rw [hk_]; first | (simp only [hoB, h_3, h_18, h_19, Bool.true_and, Bool.false_and, Bool.and_true, Bool.and_false, Bool.not_true, Bool.not_false, Bool.or_true, Bool.true_or, Bool.false_or, Bool.or_false, decide_true, decide_false, bi_t, bi_f, ↓reduceIte, Bool.false_eq_true]; done) | (simp only [hoB, h_3, h_18, h_19, Bool.true_and, Bool.false_and, Bool.and_true, Bool.and_false, Bool.not_true, Bool.not_false, Bool.or_true, Bool.true_or, Bool.false_or, Bool.or_false, decide_true, decide_false, bi_t, bi_f, ↓reduceIte, Bool.false_eq_true]; rfl) | (simp only [hoB, h_3, h_18, h_19, Bool.true_and, Bool.false_and, Bool.and_true, Bool.and_false, Bool.not_true, Bool.not_false, Bool.or_true, Bool.true_or, Bool.false_or, Bool.or_false, decide_true, decide_false, bi_t, bi_f, ↓reduceIte, Bool.false_eq_true]; decide) | (simp_all [hoB, bi_t, bi_f]; done)))) (by rfl)
          ·
            refine ab_iconst (v := 1) hX dL_holds_64 (by decide) ?_
            refine ab_goto (tgt := 69) hX dL_holds_65 (by decide) ?_
            exact ab_ireturn hX hF dL_holds_69 rfl (by first | rfl | decide) (congrArg some (congrArg Value.int (by rw [hk_]; first | (simp only [hoB, h_3, h_18, h_19, Bool.true_and, Bool.false_and, Bool.and_true, Bool.and_false, Bool.not_true, Bool.not_false, Bool.or_true, Bool.true_or, Bool.false_or, Bool.or_false, decide_true, decide_false, bi_t, bi_f, ↓reduceIte, Bool.false_eq_true]; done) | (simp only [hoB, h_3, h_18, h_19, Bool.true_and, Bool.false_and, Bool.and_true, Bool.and_false, Bool.not_true, Bool.not_false, Bool.or_true, Bool.true_or, Bool.false_or, Bool.or_false, decide_true, decide_false, bi_t, bi_f, ↓reduceIte, Bool.false_eq_true]; rfl) | (simp only [hoB, h_3, h_18, h_19, Bool.true_and, Bool.false_and, Bool.and_true, Bool.and_false, Bool.not_true, Bool.not_false, Bool.or_true, Bool.true_or, Bool.false_or, Bool.or_false, decide_true, decide_false, bi_t, bi_f, ↓reduceIte, Bool.false_eq_true]; decide) | (simp_all [hoB, bi_t, bi_f]; done)))) (by rfl)
        ·
          refine ab_iconst (v := 1) hX dL_holds_56 (by decide) ?_
          refine ab_goto (tgt := 61) hX dL_holds_57 (by decide) ?_
          refine ab_icmpne (tgt := 68) hX dL_holds_61 (by decide) (fun h_20 => ?_) (fun h_20 => ?_)
          ·
            refine ab_iconst (v := 0) hX dL_holds_68 (by decide) ?_
            exact ab_ireturn hX hF dL_holds_69 rfl (by first | rfl | decide) (congrArg some (congrArg Value.int (by rw [hk_]; first | (simp only [hoB, h_3, h_18, h_20, Bool.true_and, Bool.false_and, Bool.and_true, Bool.and_false, Bool.not_true, Bool.not_false, Bool.or_true, Bool.true_or, Bool.false_or, Bool.or_false, decide_true, decide_false, bi_t, bi_f, ↓reduceIte, Bool.false_eq_true]; done) | (simp only [hoB, h_3, h_18, h_20, Bool.true_and, Bool.false_and, Bool.and_true, Bool.and_false, Bool.not_true, Bool.not_false, Bool.or_true, Bool.true_or, Bool.false_or, Bool.or_false, decide_true, decide_false, bi_t, bi_f, ↓reduceIte, Bool.false_eq_true]; rfl) | (simp only [hoB, h_3, h_18, h_20, Bool.true_and, Bool.false_and, Bool.and_true, Bool.and_false, Bool.not_true, Bool.not_false, Bool.or_true, Bool.true_or, Bool.false_or, Bool.or_false, decide_true, decide_false, bi_t, bi_f, ↓reduceIte, Bool.false_eq_true]; decide) | (simp_all [hoB, bi_t, bi_f]; done)))) (by rfl)
          ·
            refine ab_iconst (v := 1) hX dL_holds_64 (by decide) ?_
            refine ab_goto (tgt := 69) hX dL_holds_65 (by decide) ?_
            exact ab_ireturn hX hF dL_holds_69 rfl (by first | rfl | decide) (congrArg some (congrArg Value.int (by rw [hk_]; first | (simp only [hoB, h_3, h_18, h_20, Bool.true_and, Bool.false_and, Bool.and_true, Bool.and_false, Bool.not_true, Bool.not_false, Bool.or_true, Bool.true_or, Bool.false_or, Bool.or_false, decide_true, decide_false, bi_t, bi_f, ↓reduceIte, Bool.false_eq_true]; done) | (simp only [hoB, h_3, h_18, h_20, Bool.true_and, Bool.false_and, Bool.and_true, Bool.and_false, Bool.not_true, Bool.not_false, Bool.or_true, Bool.true_or, Bool.false_or, Bool.or_false, decide_true, decide_false, bi_t, bi_f, ↓reduceIte, Bool.false_eq_true]; rfl) | (simp only [hoB, h_3, h_18, h_20, Bool.true_and, Bool.false_and, Bool.and_true, Bool.and_false, Bool.not_true, Bool.not_false, Bool.or_true, Bool.true_or, Bool.false_or, Bool.or_false, decide_true, decide_false, bi_t, bi_f, ↓reduceIte, Bool.false_eq_true]; decide) | (simp_all [hoB, bi_t, bi_f]; done)))) (by rfl)
    refine ab_icmpne (tgt := 43) hX dL_holds_36 (by decide) (fun h_2 => ?_) (fun h_2 => ?_)
    ·
      refine ab_iconst (v := 0) hX dL_holds_43 (by decide) ?_
      refine ab_istore hX dL_holds_44 (by decide) rfl ?_
      exact ab_pm5 (mmv0 (congrArg Value.int (by first | exact (hb_t h_2).symm | exact (hb_f h_2).symm))) mm1 mm2 mm3 mm4 J46
    ·
      refine ab_iconst (v := 1) hX dL_holds_39 (by decide) ?_
      refine ab_goto (tgt := 44) hX dL_holds_40 (by decide) ?_
      refine ab_istore hX dL_holds_44 (by decide) rfl ?_
      exact ab_pm5 (mmv0 (congrArg Value.int (by first | exact (hb_t h_2).symm | exact (hb_f h_2).symm))) mm1 mm2 mm3 mm4 J46
  refine ab_icmpne (tgt := 25) hX dL_holds_18 (by decide) (fun h_1 => ?_) (fun h_1 => ?_)
  ·
    refine ab_iconst (v := 0) hX dL_holds_25 (by decide) ?_
    refine ab_istore_n hX dL_holds_26 rfl (by decide) rfl ?_
    exact ab_pm4 (mmv0 (congrArg Value.int (by first | exact (hb_t h_1).symm | exact (hb_f h_1).symm))) mm1 mm2 mm3 J27
  ·
    refine ab_iconst (v := 1) hX dL_holds_21 (by decide) ?_
    refine ab_goto (tgt := 26) hX dL_holds_22 (by decide) ?_
    refine ab_istore_n hX dL_holds_26 rfl (by decide) rfl ?_
    exact ab_pm4 (mmv0 (congrArg Value.int (by first | exact (hb_t h_1).symm | exact (hb_f h_1).symm))) mm1 mm2 mm3 J27
/-! what all asking tells -/
theorem acc_0 {σ : Type} (f : Nat → σ → σ) (z : σ) : acc f z 0 = z := rfl
def tA (c : CS) (Q : QT) (i : Nat) (s : Int64) : Int64 := 31 * s + (cntC c (Q (2 * 0)).2 (Q (2 * 0)).1 (Q (2 * 0 + 1)).2 (Q (2 * 0 + 1)).1 (nI i)).toInt64
def tB1 (c : CS) (Q : QT) (k j : Nat) (s : Int64) : Int64 := 31 * s + (lawC c (Q (2 * 0)).2 (nI k) (nI j)).toInt64
def tB (c : CS) (Q : QT) (k : Nat) (s : Int64) : Int64 := acc (tB1 c Q k) s 6
def tC1 (c : CS) (Q : QT) (k j : Nat) (s : Int64) : Int64 := 31 * s + (saidC c (Q (2 * 0 + 1)).2 (nI k) (nI j)).toInt64
def tC (c : CS) (Q : QT) (k : Nat) (s : Int64) : Int64 := 31 * acc (tC1 c Q k) s 8 + (aloneC c (Q (2 * 0)).2 (Q (2 * 0)).1 (Q (2 * 0 + 1)).2 (nI k)).toInt64
def tD (c : CS) (Q : QT) (w : Nat) (s : Int64) : Int64 := 31 * s + (knowC c (nI w)).toInt64 + (3 * withC c (Q (2 * 0)).2 (Q (2 * 0)).1 (Q (2 * 0 + 1)).2 (Q (2 * 0 + 1)).1 (nI w)).toInt64 + (5 * lieC c (lfT (Q (2 * 0)).2 (Q (2 * 0)).1 (Q (2 * 0 + 1)).2 (Q (2 * 0 + 1)).1) (nI w) 0).toInt64 + (7 * lieC c (lfT (Q (2 * 0)).2 (Q (2 * 0)).1 (Q (2 * 0 + 1)).2 (Q (2 * 0 + 1)).1) (nI w) 1).toInt64 + (11 * lieC c (lfT (Q (2 * 0)).2 (Q (2 * 0)).1 (Q (2 * 0 + 1)).2 (Q (2 * 0 + 1)).1) (nI w) 2).toInt64 + (13 * certC c (lfT (Q (2 * 0)).2 (Q (2 * 0)).1 (Q (2 * 0 + 1)).2 (Q (2 * 0 + 1)).1) (nI w)).toInt64 + (17 * knofC c (lfT (Q (2 * 0)).2 (Q (2 * 0)).1 (Q (2 * 0 + 1)).2 (Q (2 * 0 + 1)).1) (nI w) 0).toInt64
def tE (c : CS) (Q : QT) (i : Nat) (s : Int64) : Int64 := 31 * s + wldC (Q (2 * 0)).2 (Q (2 * 0)).1 (Q (2 * 0 + 1)).2 (Q (2 * 0 + 1)).1 (nI i) + (3 * manyC (Q (2 * 0)).2 (Q (2 * 0)).1 (Q (2 * 0 + 1)).2 (Q (2 * 0 + 1)).1 (nI i)).toInt64 + (5 * provC (Q (2 * 0)).2 (Q (2 * 0)).1 (Q (2 * 0 + 1)).2 (Q (2 * 0 + 1)).1 (nI i)).toInt64 + (7 * slipC (Q (2 * 0 + 1)).2 (Q (2 * 0 + 1)).1 (c.1 (20 + 0)) (nI i)).toInt64
def tF (c : CS) (Q : QT) (nw : Nat) (s : Int64) : Int64 := 31 * s + (clR (Q (2 * 0 + 1)).1 (clQ (Q (2 * 0)).2 (Q (2 * 0)).1 (Q (2 * 0 + 1)).2) (Q (2 * 0 + 1)).1 0).toInt64 + (3 * slippedC (Q (2 * 0)).2 (Q (2 * 0)).1 (Q (2 * 0 + 1)).2 (Q (2 * 0 + 1)).1).toInt64 + (5 * askC (Q (2 * 0)).2 (Q (2 * 0)).1 (Q (2 * 0 + 1)).2 (Q (2 * 0 + 1)).1).toInt64 + (7 * plainC (Q (2 * 0)).2 (Q (2 * 0)).1 (Q (2 * 0 + 1)).2 (Q (2 * 0 + 1)).1 nw).toInt64 + (11 * acc (vdG (Q (2 * 0 + 1)).2) (c.1 (20 + 0)) (Q (2 * 0 + 1)).1).toInt64 + (13 * proofC (Q (2 * 0)).2 (Q (2 * 0)).1 (Q (2 * 0 + 1)).2 (Q (2 * 0 + 1)).1 2).toInt64
def tG (c : CS) (Q : QT) (nw : Nat) (s : Int64) : Int64 := 31 * s + (orderC c (Q (2 * 0)).2 (Q (2 * 0)).1 (Q (2 * 0 + 1)).2 (Q (2 * 0 + 1)).1 nw 0).toInt64 + (3 * orderC c (Q (2 * 0)).2 (Q (2 * 0)).1 (Q (2 * 0 + 1)).2 (Q (2 * 0 + 1)).1 nw 1).toInt64 + (5 * alkC c nw (lfT (Q (2 * 0)).2 (Q (2 * 0)).1 (Q (2 * 0 + 1)).2 (Q (2 * 0 + 1)).1) 2).toInt64 + (7 * sedC (c.1 (20 + 0)) (mbT (Q (2 * 0)).2 (Q (2 * 0)).1) nw 3 5 1).toInt64
def tS (c : CS) (Q : QT) (nw : Nat) : Int64 := tF c Q nw (acc (tE c Q) (acc (tD c Q) (acc (tC c Q) (acc (tB c Q) (acc (tA c Q) 7 7) (Q (2 * 0)).1) (Q (2 * 0 + 1)).1) nw) 2)
def toF (c : CS) (Q : QT) (nw : Nat) : Int64 := if nw = 0 then tS c Q nw else tG c Q nw (tS c Q nw)
theorem cm_L_told {G : ab_G} (hG : ab_GG G) {c : CS} {M D : List ab_E} (hM : M.length = 1) {Q : QT} {nw : Nat} (hGI : GI c D Q) (hw : c.1 (10 + 0) = nI nw) (hw5 : nw ≤ 5) : ab_CM G mL_told [.ref 0] (cH c M D) (some (.long (toF c Q nw))) (cH c M D) := by
  refine ab_meth (l0 := [(0, .ref 0)]) hG (by decide +kernel) rfl (Nat.le_of_ble_eq_true rfl) (Nat.le_refl _) (Nat.le_refl _) (fun X hX hF => ?_)
  have hGI0 := (hGI.1 (2 * 0) (by decide)).1
  have hGI1 := (hGI.1 (2 * 0 + 1) (by decide)).1
  have hn0 := (hGI.1 (2 * 0) (by decide)).2.1
  have hn1 := (hGI.1 (2 * 0 + 1) (by decide)).2.1
  refine ab_ldc2 hX dL_told_0 tw_886 ?_
  refine ab_lstore_n hX dL_told_3 rfl (by decide) rfl ?_
  refine ab_iconst (v := 0) hX dL_told_4 (by decide) ?_
  refine ab_istore_n hX dL_told_5 rfl (by decide) rfl ?_
  have L6 : ∀ (k6_ : Nat) (i : Nat) (hi_ : i ≤ 7), k6_ = 7 - i → ab_WA G mL_told X 6 [(0, .ref 0), (1, .long (acc (tA c Q) 7 i)), (3, .int (nI i))] [] (cH c M D) := by
    intro k6_
    induction k6_ using Nat.strongRecOn with
    | _ k6_ ih6 =>
      intro i hi_ hk6_
      refine ab_iload_n hX dL_told_6 mm2 ?_
      refine ab_bipush (v := 7) hX dL_told_7 (by decide) ?_
      refine ab_icmpge (tgt := 31) hX dL_told_9 (by decide) (fun h_1 => ?_) (fun h_1 => ?_)
      ·
        have hx_ := ctE (N := 7) h_1 (by rfl) (by omega) (by omega)
        obtain rfl : 7 = i := by omega
        refine ab_iconst (v := 0) hX dL_told_31 (by decide) ?_
        refine ab_istore_n hX dL_told_32 rfl (by decide) rfl ?_
        have L33 : ∀ (k33_ : Nat) (k : Nat) (hk_ : k ≤ (Q (2 * 0)).1), k33_ = (Q (2 * 0)).1 - k → ab_WA G mL_told X 33 [(0, .ref 0), (1, .long (acc (tB c Q) (acc (tA c Q) 7 7) k)), (3, .int (nI k))] [] (cH c M D) := by
          intro k33_
          induction k33_ using Nat.strongRecOn with
          | _ k33_ ih33 =>
            intro k hk_ hk33_
            refine ab_iload_n hX dL_told_33 mm2 ?_
            refine ab_aload_n hX dL_told_34 mm0 ?_
            refine ab_iconst (v := 0) hX dL_told_35 (by decide) ?_
            refine ab_callV1r hX dL_told_36 cg_x ss_L_told_48 (cm_X11_count hG hM (hGI.1 (2 * 0) (by decide)) (hGI.1 (2 * 0 + 1) (by decide))) (Nat.le_of_ble_eq_true rfl) ?_
            refine ab_icmpge (tgt := 79) hX dL_told_39 (by decide) (fun h_2 => ?_) (fun h_2 => ?_)
            ·
              have hx_ := ctE (N := (Q (2 * 0)).1) h_2 (by exact hGI0) (by omega) (by omega)
              obtain rfl : (Q (2 * 0)).1 = k := by omega
              refine ab_iconst (v := 0) hX dL_told_79 (by decide) ?_
              refine ab_istore_n hX dL_told_80 rfl (by decide) rfl ?_
              have L81 : ∀ (k81_ : Nat) (k : Nat) (hk_ : k ≤ (Q (2 * 0 + 1)).1), k81_ = (Q (2 * 0 + 1)).1 - k → ab_WA G mL_told X 81 [(0, .ref 0), (1, .long (acc (tC c Q) (acc (tB c Q) (acc (tA c Q) 7 7) (Q (2 * 0)).1) k)), (3, .int (nI k))] [] (cH c M D) := by
                intro k81_
                induction k81_ using Nat.strongRecOn with
                | _ k81_ ih81 =>
                  intro k hk_ hk81_
                  refine ab_iload_n hX dL_told_81 mm2 ?_
                  refine ab_aload_n hX dL_told_82 mm0 ?_
                  refine ab_iconst (v := 2) hX dL_told_83 (by decide) ?_
                  refine ab_callV1r hX dL_told_84 cg_x ss_L_told_48 (cm_X11_count hG hM (hGI.1 (2 * 0) (by decide)) (hGI.1 (2 * 0 + 1) (by decide))) (Nat.le_of_ble_eq_true rfl) ?_
                  refine ab_icmpge (tgt := 140) hX dL_told_87 (by decide) (fun h_3 => ?_) (fun h_3 => ?_)
                  ·
                    have hx_ := ctE (N := (Q (2 * 0 + 1)).1) h_3 (by exact hGI1) (by omega) (by omega)
                    obtain rfl : (Q (2 * 0 + 1)).1 = k := by omega
                    refine ab_aload_n hX dL_told_140 mm0 ?_
                    refine ab_iconst (v := 1) hX dL_told_141 (by decide) ?_
                    refine ab_callV1r hX dL_told_142 cg_x ss_L_told_48 (cm_X11_count hG hM (hGI.1 (2 * 0) (by decide)) (hGI.1 (2 * 0 + 1) (by decide))) (Nat.le_of_ble_eq_true rfl) ?_
                    rw [show cntC c (Q (2 * 0)).2 (Q (2 * 0)).1 (Q (2 * 0 + 1)).2 (Q (2 * 0 + 1)).1 1 = nI nw from hw]
                    refine ab_istore_n hX dL_told_145 rfl (by decide) rfl ?_
                    refine ab_iconst (v := 0) hX dL_told_146 (by decide) ?_
                    refine ab_istore hX dL_told_147 (by decide) rfl ?_
                    have L149 : ∀ (k149_ : Nat) (w : Nat) (hw_ : w ≤ nw), k149_ = nw - w → ab_WA G mL_told X 149 [(0, .ref 0), (1, .long (acc (tD c Q) (acc (tC c Q) (acc (tB c Q) (acc (tA c Q) 7 7) (Q (2 * 0)).1) (Q (2 * 0 + 1)).1) w)), (3, .int (nI nw)), (4, .int (nI w))] [] (cH c M D) := by
                      intro k149_
                      induction k149_ using Nat.strongRecOn with
                      | _ k149_ ih149 =>
                        intro w hw_ hk149_
                        refine ab_iload hX dL_told_149 mm3 ?_
                        refine ab_iload_n hX dL_told_151 mm2 ?_
                        refine ab_icmpge (tgt := 243) hX dL_told_152 (by decide) (fun h_4 => ?_) (fun h_4 => ?_)
                        ·
                          have hx_ := ctE (N := nw) h_4 (by rfl) (by omega) (by omega)
                          obtain rfl : nw = w := by omega
                          refine ab_iconst (v := 0) hX dL_told_243 (by decide) ?_
                          refine ab_istore hX dL_told_244 (by decide) rfl ?_
                          have L246 : ∀ (k246_ : Nat) (i : Nat) (hi_ : i ≤ 2), k246_ = 2 - i → ab_WA G mL_told X 246 [(0, .ref 0), (1, .long (acc (tE c Q) (acc (tD c Q) (acc (tC c Q) (acc (tB c Q) (acc (tA c Q) 7 7) (Q (2 * 0)).1) (Q (2 * 0 + 1)).1) nw) i)), (3, .int (nI nw)), (4, .int (nI i))] [] (cH c M D) := by
                            intro k246_
                            induction k246_ using Nat.strongRecOn with
                            | _ k246_ ih246 =>
                              intro i hi_ hk246_
                              refine ab_iload hX dL_told_246 mm3 ?_
                              refine ab_iconst (v := 2) hX dL_told_248 (by decide) ?_
                              refine ab_icmpge (tgt := 302) hX dL_told_249 (by decide) (fun h_5 => ?_) (fun h_5 => ?_)
                              ·
                                have hx_ := ctE (N := 2) h_5 (by rfl) (by omega) (by omega)
                                obtain rfl : 2 = i := by omega
                                refine ab_ldc2 hX dL_told_302 tw_887 ?_
                                refine ab_lload_n hX dL_told_305 mm1 ?_
                                refine ab_lmul hX dL_told_306 ?_
                                refine ab_aload_n hX dL_told_307 mm0 ?_
                                refine ab_callV0r hX dL_told_308 cg_x ss_L_told_88 (cm_X11_clash hG hM (hGI.1 (2 * 0) (by decide)) (hGI.1 (2 * 0 + 1) (by decide))) (Nat.le_of_ble_eq_true rfl) ?_
                                refine ab_i2l hX dL_told_311 ?_
                                refine ab_ladd hX dL_told_312 ?_
                                refine ab_iconst (v := 3) hX dL_told_313 (by decide) ?_
                                refine ab_aload_n hX dL_told_314 mm0 ?_
                                refine ab_callV0r hX dL_told_315 cg_x ss_L_told_92 (cm_X11_slipped hG hM (hGI.1 (2 * 0) (by decide)) (hGI.1 (2 * 0 + 1) (by decide))) (Nat.le_of_ble_eq_true rfl) ?_
                                refine ab_imul hX dL_told_318 ?_
                                refine ab_i2l hX dL_told_319 ?_
                                refine ab_ladd hX dL_told_320 ?_
                                refine ab_iconst (v := 5) hX dL_told_321 (by decide) ?_
                                refine ab_aload_n hX dL_told_322 mm0 ?_
                                refine ab_callV0r hX dL_told_323 cg_x ss_L_told_95 (cm_X11_ask hG hM (hGI.1 (2 * 0) (by decide)) (hGI.1 (2 * 0 + 1) (by decide))) (Nat.le_of_ble_eq_true rfl) ?_
                                refine ab_imul hX dL_told_326 ?_
                                refine ab_i2l hX dL_told_327 ?_
                                refine ab_ladd hX dL_told_328 ?_
                                refine ab_bipush (v := 7) hX dL_told_329 (by decide) ?_
                                refine ab_aload_n hX dL_told_331 mm0 ?_
                                refine ab_callV0r hX dL_told_332 cg_x ss_L_told_98 (cm_X11_plain hG hM (hGI.1 (2 * 0) (by decide)) (hGI.1 (2 * 0 + 1) (by decide)) hw hw5) (Nat.le_of_ble_eq_true rfl) ?_
                                refine ab_imul hX dL_told_335 ?_
                                refine ab_i2l hX dL_told_336 ?_
                                refine ab_ladd hX dL_told_337 ?_
                                refine ab_bipush (v := 11) hX dL_told_338 (by decide) ?_
                                refine ab_aload_n hX dL_told_340 mm0 ?_
                                refine ab_callV0r hX dL_told_341 cg_x ss_L_told_101 (cm_X11_verdict hG hM (hGI.1 (2 * 0 + 1) (by decide))) (Nat.le_of_ble_eq_true rfl) ?_
                                refine ab_imul hX dL_told_344 ?_
                                refine ab_i2l hX dL_told_345 ?_
                                refine ab_ladd hX dL_told_346 ?_
                                refine ab_bipush (v := 13) hX dL_told_347 (by decide) ?_
                                refine ab_aload_n hX dL_told_349 mm0 ?_
                                refine ab_iconst (v := 2) hX dL_told_350 (by decide) ?_
                                refine ab_callV1r hX dL_told_351 cg_x ss_L_told_104 (cm_X11_proof hG hM (hGI.1 (2 * 0) (by decide)) (hGI.1 (2 * 0 + 1) (by decide))) (Nat.le_of_ble_eq_true rfl) ?_
                                refine ab_imul hX dL_told_354 ?_
                                refine ab_i2l hX dL_told_355 ?_
                                refine ab_ladd hX dL_told_356 ?_
                                refine ab_lstore_n hX dL_told_357 rfl (by decide) rfl ?_
                                refine ab_iload_n hX dL_told_358 mm2 ?_
                                refine ab_ifle (tgt := 407) hX dL_told_359 (by decide) (fun h_6 => ?_) (fun h_6 => ?_)
                                ·
                                  have hz_ : nw = 0 := by
                                    have := (nI_leI (a := nw) (b := 0) (by omega) (by decide)).mp h_6
                                    omega
                                  refine ab_lload_n hX dL_told_407 mm0 ?_
                                  exact ab_lreturn hX hF dL_told_408 rfl (congrArg some (congrArg Value.long (by first | (rw [toF, if_pos hz_, tS, tF]; done) | (rw [toF, if_pos hz_, tS, tF]; rfl) | (rw [toF, if_neg hz_, tG, tS, tF]; done) | (rw [toF, if_neg hz_, tG, tS, tF]; rfl)))) (by rfl)
                                ·
                                  have hz_ : ¬ nw = 0 := fun q => h_6 (by rw [q]; exact Int32.le_refl _)
                                  refine ab_ldc2 hX dL_told_362 tw_887 ?_
                                  refine ab_lload_n hX dL_told_365 mm0 ?_
                                  refine ab_lmul hX dL_told_366 ?_
                                  refine ab_aload_n hX dL_told_367 mm1 ?_
                                  refine ab_iconst (v := 0) hX dL_told_368 (by decide) ?_
                                  refine ab_callV1r hX dL_told_369 cg_x ss_L_told_107 (cm_X11_order hG hM (hGI.1 (2 * 0) (by decide)) (hGI.1 (2 * 0 + 1) (by decide)) hw hw5) (Nat.le_of_ble_eq_true rfl) ?_
                                  refine ab_i2l hX dL_told_372 ?_
                                  refine ab_ladd hX dL_told_373 ?_
                                  refine ab_iconst (v := 3) hX dL_told_374 (by decide) ?_
                                  refine ab_aload_n hX dL_told_375 mm1 ?_
                                  refine ab_iconst (v := 1) hX dL_told_376 (by decide) ?_
                                  refine ab_callV1r hX dL_told_377 cg_x ss_L_told_107 (cm_X11_order hG hM (hGI.1 (2 * 0) (by decide)) (hGI.1 (2 * 0 + 1) (by decide)) hw hw5) (Nat.le_of_ble_eq_true rfl) ?_
                                  refine ab_imul hX dL_told_380 ?_
                                  refine ab_i2l hX dL_told_381 ?_
                                  refine ab_ladd hX dL_told_382 ?_
                                  refine ab_iconst (v := 5) hX dL_told_383 (by decide) ?_
                                  refine ab_aload_n hX dL_told_384 mm1 ?_
                                  refine ab_iconst (v := 2) hX dL_told_385 (by decide) ?_
                                  refine ab_callV1r hX dL_told_386 cg_x ss_L_told_110 (cm_X11_allKnow hG hM (hGI.1 (2 * 0) (by decide)) (hGI.1 (2 * 0 + 1) (by decide)) hw hw5) (Nat.le_of_ble_eq_true rfl) ?_
                                  refine ab_imul hX dL_told_389 ?_
                                  refine ab_i2l hX dL_told_390 ?_
                                  refine ab_ladd hX dL_told_391 ?_
                                  refine ab_bipush (v := 7) hX dL_told_392 (by decide) ?_
                                  refine ab_aload_n hX dL_told_394 mm1 ?_
                                  refine ab_iconst (v := 3) hX dL_told_395 (by decide) ?_
                                  refine ab_iconst (v := 5) hX dL_told_396 (by decide) ?_
                                  refine ab_iconst (v := 1) hX dL_told_397 (by decide) ?_
                                  refine ab_callV3r hX dL_told_398 cg_x ss_L_told_113 (cm_X11_seeds hG hM (hGI.1 (2 * 0) (by decide)) hw hw5) (Nat.le_of_ble_eq_true rfl) ?_
                                  refine ab_imul hX dL_told_401 ?_
                                  refine ab_i2l hX dL_told_402 ?_
                                  refine ab_ladd hX dL_told_403 ?_
                                  refine ab_goto (tgt := 408) hX dL_told_404 (by decide) ?_
                                  exact ab_lreturn hX hF dL_told_408 rfl (congrArg some (congrArg Value.long (by first | (rw [toF, if_pos hz_, tS, tF]; done) | (rw [toF, if_pos hz_, tS, tF]; rfl) | (rw [toF, if_neg hz_, tG, tS, tF]; done) | (rw [toF, if_neg hz_, tG, tS, tF]; rfl)))) (by rfl)
                              ·
                                have hlt_ := ctL (N := 2) h_5 (by rfl) (by omega) (by omega)
                                refine ab_ldc2 hX dL_told_252 tw_887 ?_
                                refine ab_lload_n hX dL_told_255 mm1 ?_
                                refine ab_lmul hX dL_told_256 ?_
                                refine ab_aload_n hX dL_told_257 mm0 ?_
                                refine ab_iload hX dL_told_258 mm3 ?_
                                refine ab_callV1r hX dL_told_260 cg_x ss_L_told_75 (cm_X11_worlds hG hM (hGI.1 (2 * 0) (by decide)) (hGI.1 (2 * 0 + 1) (by decide))) (Nat.le_of_ble_eq_true rfl) ?_
                                refine ab_ladd hX dL_told_263 ?_
                                refine ab_iconst (v := 3) hX dL_told_264 (by decide) ?_
                                refine ab_aload_n hX dL_told_265 mm0 ?_
                                refine ab_iload hX dL_told_266 mm3 ?_
                                refine ab_callV1r hX dL_told_268 cg_x ss_L_told_79 (cm_X11_many hG hM (hGI.1 (2 * 0) (by decide)) (hGI.1 (2 * 0 + 1) (by decide))) (Nat.le_of_ble_eq_true rfl) ?_
                                refine ab_imul hX dL_told_271 ?_
                                refine ab_i2l hX dL_told_272 ?_
                                refine ab_ladd hX dL_told_273 ?_
                                refine ab_iconst (v := 5) hX dL_told_274 (by decide) ?_
                                refine ab_aload_n hX dL_told_275 mm0 ?_
                                refine ab_iload hX dL_told_276 mm3 ?_
                                refine ab_callV1r hX dL_told_278 cg_x ss_L_told_82 (cm_X11_proved hG hM (hGI.1 (2 * 0) (by decide)) (hGI.1 (2 * 0 + 1) (by decide))) (Nat.le_of_ble_eq_true rfl) ?_
                                refine ab_imul hX dL_told_281 ?_
                                refine ab_i2l hX dL_told_282 ?_
                                refine ab_ladd hX dL_told_283 ?_
                                refine ab_bipush (v := 7) hX dL_told_284 (by decide) ?_
                                refine ab_aload_n hX dL_told_286 mm0 ?_
                                refine ab_iload hX dL_told_287 mm3 ?_
                                refine ab_callV1r hX dL_told_289 cg_x ss_L_told_85 (cm_X11_slips hG hM (hGI.1 (2 * 0 + 1) (by decide))) (Nat.le_of_ble_eq_true rfl) ?_
                                refine ab_imul hX dL_told_292 ?_
                                refine ab_i2l hX dL_told_293 ?_
                                refine ab_ladd hX dL_told_294 ?_
                                refine ab_lstore_n hX dL_told_295 rfl (by decide) rfl ?_
                                refine ab_iinc hX dL_told_296 mm3 rfl (by decide) rfl ?_
                                refine ab_goto (tgt := 246) hX dL_told_299 (by decide) ?_
                                exact ab_pm4 mm2 (mmv1 (congrArg Value.long (by rw [acc_s]; rfl))) (mmv3 (congrArg Value.int (by first | exact (nI_1 _).symm | rfl))) (mmv0 (congrArg Value.int (by first | exact (nI_1 _).symm | rfl))) (ih246 (_) (by omega) (i + 1) (by omega) rfl)
                          exact ab_pm4 mm1 (mmv2 (congrArg Value.long (by exact acc_0 _ _))) (mmv3 (congrArg Value.int (by rfl))) (mmv0 (congrArg Value.int (by rfl))) (L246 _ 0 (by omega) rfl)
                        ·
                          have hlt_ := ctL (N := nw) h_4 (by rfl) (by omega) (by omega)
                          refine ab_ldc2 hX dL_told_155 tw_887 ?_
                          refine ab_lload_n hX dL_told_158 mm1 ?_
                          refine ab_lmul hX dL_told_159 ?_
                          refine ab_aload_n hX dL_told_160 mm0 ?_
                          refine ab_iload hX dL_told_161 mm3 ?_
                          refine ab_callV1r hX dL_told_163 cg_x ss_L_told_60 (cm_X11_knows hG hM ) (Nat.le_of_ble_eq_true rfl) ?_
                          refine ab_i2l hX dL_told_166 ?_
                          refine ab_ladd hX dL_told_167 ?_
                          refine ab_iconst (v := 3) hX dL_told_168 (by decide) ?_
                          refine ab_aload_n hX dL_told_169 mm0 ?_
                          refine ab_iload hX dL_told_170 mm3 ?_
                          refine ab_callV1r hX dL_told_172 cg_x ss_L_told_63 (cm_X11_without hG hM (hGI.1 (2 * 0) (by decide)) (hGI.1 (2 * 0 + 1) (by decide))) (Nat.le_of_ble_eq_true rfl) ?_
                          refine ab_imul hX dL_told_175 ?_
                          refine ab_i2l hX dL_told_176 ?_
                          refine ab_ladd hX dL_told_177 ?_
                          refine ab_iconst (v := 5) hX dL_told_178 (by decide) ?_
                          refine ab_aload_n hX dL_told_179 mm0 ?_
                          refine ab_iload hX dL_told_180 mm3 ?_
                          refine ab_iconst (v := 0) hX dL_told_182 (by decide) ?_
                          refine ab_callV2r hX dL_told_183 cg_x ss_L_told_66 (cm_X11_lie hG hM (hGI.1 (2 * 0) (by decide)) (hGI.1 (2 * 0 + 1) (by decide))) (Nat.le_of_ble_eq_true rfl) ?_
                          refine ab_imul hX dL_told_186 ?_
                          refine ab_i2l hX dL_told_187 ?_
                          refine ab_ladd hX dL_told_188 ?_
                          refine ab_bipush (v := 7) hX dL_told_189 (by decide) ?_
                          refine ab_aload_n hX dL_told_191 mm0 ?_
                          refine ab_iload hX dL_told_192 mm3 ?_
                          refine ab_iconst (v := 1) hX dL_told_194 (by decide) ?_
                          refine ab_callV2r hX dL_told_195 cg_x ss_L_told_66 (cm_X11_lie hG hM (hGI.1 (2 * 0) (by decide)) (hGI.1 (2 * 0 + 1) (by decide))) (Nat.le_of_ble_eq_true rfl) ?_
                          refine ab_imul hX dL_told_198 ?_
                          refine ab_i2l hX dL_told_199 ?_
                          refine ab_ladd hX dL_told_200 ?_
                          refine ab_bipush (v := 11) hX dL_told_201 (by decide) ?_
                          refine ab_aload_n hX dL_told_203 mm0 ?_
                          refine ab_iload hX dL_told_204 mm3 ?_
                          refine ab_iconst (v := 2) hX dL_told_206 (by decide) ?_
                          refine ab_callV2r hX dL_told_207 cg_x ss_L_told_66 (cm_X11_lie hG hM (hGI.1 (2 * 0) (by decide)) (hGI.1 (2 * 0 + 1) (by decide))) (Nat.le_of_ble_eq_true rfl) ?_
                          refine ab_imul hX dL_told_210 ?_
                          refine ab_i2l hX dL_told_211 ?_
                          refine ab_ladd hX dL_told_212 ?_
                          refine ab_bipush (v := 13) hX dL_told_213 (by decide) ?_
                          refine ab_aload_n hX dL_told_215 mm0 ?_
                          refine ab_iload hX dL_told_216 mm3 ?_
                          refine ab_callV1r hX dL_told_218 cg_x ss_L_told_69 (cm_X11_certain hG hM (hGI.1 (2 * 0) (by decide)) (hGI.1 (2 * 0 + 1) (by decide))) (Nat.le_of_ble_eq_true rfl) ?_
                          refine ab_imul hX dL_told_221 ?_
                          refine ab_i2l hX dL_told_222 ?_
                          refine ab_ladd hX dL_told_223 ?_
                          refine ab_bipush (v := 17) hX dL_told_224 (by decide) ?_
                          refine ab_aload_n hX dL_told_226 mm0 ?_
                          refine ab_iload hX dL_told_227 mm3 ?_
                          refine ab_iconst (v := 0) hX dL_told_229 (by decide) ?_
                          refine ab_callV2r hX dL_told_230 cg_x ss_L_told_72 (cm_X11_knowsOf hG hM (hGI.1 (2 * 0) (by decide)) (hGI.1 (2 * 0 + 1) (by decide))) (Nat.le_of_ble_eq_true rfl) ?_
                          refine ab_imul hX dL_told_233 ?_
                          refine ab_i2l hX dL_told_234 ?_
                          refine ab_ladd hX dL_told_235 ?_
                          refine ab_lstore_n hX dL_told_236 rfl (by decide) rfl ?_
                          refine ab_iinc hX dL_told_237 mm3 rfl (by decide) rfl ?_
                          refine ab_goto (tgt := 149) hX dL_told_240 (by decide) ?_
                          exact ab_pm4 mm2 (mmv1 (congrArg Value.long (by rw [acc_s]; rfl))) (mmv3 (congrArg Value.int (by first | exact (nI_1 _).symm | rfl))) (mmv0 (congrArg Value.int (by first | exact (nI_1 _).symm | rfl))) (ih149 (_) (by omega) (w + 1) (by omega) rfl)
                    exact ab_pm4 mm2 (mmv3 (congrArg Value.long (by exact acc_0 _ _))) (mmv1 (congrArg Value.int (by rfl))) (mmv0 (congrArg Value.int (by rfl))) (L149 _ 0 (by omega) rfl)
                  ·
                    have hlt_ := ctL (N := (Q (2 * 0 + 1)).1) h_3 (by exact hGI1) (by omega) (by omega)
                    refine ab_iconst (v := 0) hX dL_told_90 (by decide) ?_
                    refine ab_istore hX dL_told_91 (by decide) rfl ?_
                    have L93 : ∀ (k93_ : Nat) (j : Nat) (hj_ : j ≤ 8), k93_ = 8 - j → ab_WA G mL_told X 93 [(0, .ref 0), (1, .long (acc (tC1 c Q k) (acc (tC c Q) (acc (tB c Q) (acc (tA c Q) 7 7) (Q (2 * 0)).1) k) j)), (3, .int (nI k)), (4, .int (nI j))] [] (cH c M D) := by
                      intro k93_
                      induction k93_ using Nat.strongRecOn with
                      | _ k93_ ih93 =>
                        intro j hj_ hk93_
                        refine ab_iload hX dL_told_93 mm3 ?_
                        refine ab_bipush (v := 8) hX dL_told_95 (by decide) ?_
                        refine ab_icmpge (tgt := 121) hX dL_told_97 (by decide) (fun h_7 => ?_) (fun h_7 => ?_)
                        ·
                          have hx_ := ctE (N := 8) h_7 (by rfl) (by omega) (by omega)
                          obtain rfl : 8 = j := by omega
                          refine ab_ldc2 hX dL_told_121 tw_887 ?_
                          refine ab_lload_n hX dL_told_124 mm1 ?_
                          refine ab_lmul hX dL_told_125 ?_
                          refine ab_aload_n hX dL_told_126 mm0 ?_
                          refine ab_iload_n hX dL_told_127 mm2 ?_
                          refine ab_callV1r hX dL_told_128 cg_x ss_L_told_57 (cm_X11_alone hG hM (hGI.1 (2 * 0) (by decide)) (hGI.1 (2 * 0 + 1) (by decide))) (Nat.le_of_ble_eq_true rfl) ?_
                          refine ab_i2l hX dL_told_131 ?_
                          refine ab_ladd hX dL_told_132 ?_
                          refine ab_lstore_n hX dL_told_133 rfl (by decide) rfl ?_
                          refine ab_iinc hX dL_told_134 mm2 rfl (by decide) rfl ?_
                          refine ab_goto (tgt := 81) hX dL_told_137 (by decide) ?_
                          exact ab_pm3 mm2 (mmv1 (congrArg Value.long (by rw [acc_s]; rfl))) (mmv0 (congrArg Value.int (by first | exact (nI_1 _).symm | rfl))) (ih81 (_) (by omega) (k + 1) (by omega) rfl)
                        ·
                          have hlt_ := ctL (N := 8) h_7 (by rfl) (by omega) (by omega)
                          refine ab_ldc2 hX dL_told_100 tw_887 ?_
                          refine ab_lload_n hX dL_told_103 mm1 ?_
                          refine ab_lmul hX dL_told_104 ?_
                          refine ab_aload_n hX dL_told_105 mm0 ?_
                          refine ab_iload_n hX dL_told_106 mm2 ?_
                          refine ab_iload hX dL_told_107 mm3 ?_
                          refine ab_callV2r hX dL_told_109 cg_x ss_L_told_54 (cm_X11_said hG hM (hGI.1 (2 * 0 + 1) (by decide))) (Nat.le_of_ble_eq_true rfl) ?_
                          refine ab_i2l hX dL_told_112 ?_
                          refine ab_ladd hX dL_told_113 ?_
                          refine ab_lstore_n hX dL_told_114 rfl (by decide) rfl ?_
                          refine ab_iinc hX dL_told_115 mm3 rfl (by decide) rfl ?_
                          refine ab_goto (tgt := 93) hX dL_told_118 (by decide) ?_
                          exact ab_pm4 mm2 (mmv1 (congrArg Value.long (by rw [acc_s]; rfl))) (mmv3 (congrArg Value.int (by first | exact (nI_1 _).symm | rfl))) (mmv0 (congrArg Value.int (by first | exact (nI_1 _).symm | rfl))) (ih93 (_) (by omega) (j + 1) (by omega) rfl)
                    exact ab_pm4 mm1 (mmv2 (congrArg Value.long (by exact acc_0 _ _))) (mmv3 (congrArg Value.int (by rfl))) (mmv0 (congrArg Value.int (by rfl))) (L93 _ 0 (by omega) rfl)
              exact ab_pm3 mm1 (mmv2 (congrArg Value.long (by exact acc_0 _ _))) (mmv0 (congrArg Value.int (by rfl))) (L81 _ 0 (by omega) rfl)
            ·
              have hlt_ := ctL (N := (Q (2 * 0)).1) h_2 (by exact hGI0) (by omega) (by omega)
              refine ab_iconst (v := 0) hX dL_told_42 (by decide) ?_
              refine ab_istore hX dL_told_43 (by decide) rfl ?_
              have L45 : ∀ (k45_ : Nat) (j : Nat) (hj_ : j ≤ 6), k45_ = 6 - j → ab_WA G mL_told X 45 [(0, .ref 0), (1, .long (acc (tB1 c Q k) (acc (tB c Q) (acc (tA c Q) 7 7) k) j)), (3, .int (nI k)), (4, .int (nI j))] [] (cH c M D) := by
                intro k45_
                induction k45_ using Nat.strongRecOn with
                | _ k45_ ih45 =>
                  intro j hj_ hk45_
                  refine ab_iload hX dL_told_45 mm3 ?_
                  refine ab_bipush (v := 6) hX dL_told_47 (by decide) ?_
                  refine ab_icmpge (tgt := 73) hX dL_told_49 (by decide) (fun h_8 => ?_) (fun h_8 => ?_)
                  ·
                    have hx_ := ctE (N := 6) h_8 (by rfl) (by omega) (by omega)
                    obtain rfl : 6 = j := by omega
                    refine ab_iinc hX dL_told_73 mm2 rfl (by decide) rfl ?_
                    refine ab_goto (tgt := 33) hX dL_told_76 (by decide) ?_
                    exact ab_pm3 mm1 (mmv2 (congrArg Value.long (by rw [acc_s]; rfl))) (mmv0 (congrArg Value.int (by first | exact (nI_1 _).symm | rfl))) (ih33 (_) (by omega) (k + 1) (by omega) rfl)
                  ·
                    have hlt_ := ctL (N := 6) h_8 (by rfl) (by omega) (by omega)
                    refine ab_ldc2 hX dL_told_52 tw_887 ?_
                    refine ab_lload_n hX dL_told_55 mm1 ?_
                    refine ab_lmul hX dL_told_56 ?_
                    refine ab_aload_n hX dL_told_57 mm0 ?_
                    refine ab_iload_n hX dL_told_58 mm2 ?_
                    refine ab_iload hX dL_told_59 mm3 ?_
                    refine ab_callV2r hX dL_told_61 cg_x ss_L_told_51 (cm_X11_law hG hM (hGI.1 (2 * 0) (by decide))) (Nat.le_of_ble_eq_true rfl) ?_
                    refine ab_i2l hX dL_told_64 ?_
                    refine ab_ladd hX dL_told_65 ?_
                    refine ab_lstore_n hX dL_told_66 rfl (by decide) rfl ?_
                    refine ab_iinc hX dL_told_67 mm3 rfl (by decide) rfl ?_
                    refine ab_goto (tgt := 45) hX dL_told_70 (by decide) ?_
                    exact ab_pm4 mm2 (mmv1 (congrArg Value.long (by rw [acc_s]; rfl))) (mmv3 (congrArg Value.int (by first | exact (nI_1 _).symm | rfl))) (mmv0 (congrArg Value.int (by first | exact (nI_1 _).symm | rfl))) (ih45 (_) (by omega) (j + 1) (by omega) rfl)
              exact ab_pm4 mm1 (mmv2 (congrArg Value.long (by exact acc_0 _ _))) (mmv3 (congrArg Value.int (by rfl))) (mmv0 (congrArg Value.int (by rfl))) (L45 _ 0 (by omega) rfl)
        exact ab_pm3 mm1 (mmv2 (congrArg Value.long (by exact acc_0 _ _))) (mmv0 (congrArg Value.int (by rfl))) (L33 _ 0 (by omega) rfl)
      ·
        have hlt_ := ctL (N := 7) h_1 (by rfl) (by omega) (by omega)
        refine ab_ldc2 hX dL_told_12 tw_887 ?_
        refine ab_lload_n hX dL_told_15 mm1 ?_
        refine ab_lmul hX dL_told_16 ?_
        refine ab_aload_n hX dL_told_17 mm0 ?_
        refine ab_iload_n hX dL_told_18 mm2 ?_
        refine ab_callV1r hX dL_told_19 cg_x ss_L_told_48 (cm_X11_count hG hM (hGI.1 (2 * 0) (by decide)) (hGI.1 (2 * 0 + 1) (by decide))) (Nat.le_of_ble_eq_true rfl) ?_
        refine ab_i2l hX dL_told_22 ?_
        refine ab_ladd hX dL_told_23 ?_
        refine ab_lstore_n hX dL_told_24 rfl (by decide) rfl ?_
        refine ab_iinc hX dL_told_25 mm2 rfl (by decide) rfl ?_
        refine ab_goto (tgt := 6) hX dL_told_28 (by decide) ?_
        exact ab_pm3 mm2 (mmv1 (congrArg Value.long (by rw [acc_s]; rfl))) (mmv0 (congrArg Value.int (by first | exact (nI_1 _).symm | rfl))) (ih6 (_) (by omega) (i + 1) (by omega) rfl)
  exact ab_pm3 mm2 (mmv1 (congrArg Value.long (by exact acc_0 _ _))) (mmv0 (congrArg Value.int (by rfl))) (L6 _ 0 (by omega) rfl)
