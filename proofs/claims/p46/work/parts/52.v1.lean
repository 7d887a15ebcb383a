/-! the law: what was imaged, what is refused -/
theorem ab_set {G : ab_G} {M : ab_M} {X : ab_X} {pc : Nat} {l : List (Nat × Value)} {st st2 : List Value} {h h2 : List ab_E} (e : st = st2) (e2 : h = h2) (k : ab_WA G M X pc l st2 h2) : ab_WA G M X pc l st h := e ▸ e2 ▸ k
theorem hw_no {c : CS} {nw : Nat} (h : c.1 (10 + 0) = nI nw) (h5 : nw ≤ 5) : hwT c 0 (nI nw) = false := by
  unfold hwT
  rw [h, decide_eq_true (Int32.le_refl _), Bool.not_true, Bool.and_false]
theorem sy_no {c : CS} {D : List ab_E} {ns : Nat} {w : Int32} (h : hwT c 0 w = false) : sayR c ns w 1 0 0 = -1 ∧ sayP c D ns w 1 0 0 = (c, D) := by
  unfold sayR sayP
  rw [h]
  exact ⟨rfl, rfl⟩
theorem sh_sh2 {c e : CS} {k g : Nat} (f : sh2 c e) (h : shS c 1 k g) : shS e 1 k g := ⟨(f.1 _ (by decide) (by decide) (by decide)).trans h.1, (congrFun f.2.2 _).trans h.2.1, (f.1 _ (by decide) (by decide) (by decide)).trans h.2.2⟩
theorem v_1 {G : ab_G} {nm : String} {X : ab_X} {L : Nat} {xs : Nat → Int32} (hS : ab_GS L xs G) (hX : ab_Good G (mLW nm) X) {pre : List ab_E} {c0 : CS} {D0 : List ab_E} {Q0 : QT} {nw T m : Nat} {f : Nat → Int32} (hP0 : PI c0 D0 Q0 nw) (hb : LB c0 Q0 nw T f) (hz : SZ m D0) (kk : ∀ (c : CS) (D : List ab_E) (Q : QT), LV c0 Q0 nw T (m + 1) c D Q → ab_WA G (mLW nm) X 127 [(3, .long (toF c0 Q0 nw)), (2, .ref (pre.length + 42)), (1, .ref (pre.length + 0)), (0, .float 1)] [] (LH pre c f D)) : ab_WA G (mLW nm) X 92 [(2, .ref (pre.length + 42)), (1, .ref (pre.length + 0)), (0, .float 1)] [] (LH pre c0 f D0) := by
  have hV := lv_im hP0 hb hz
  refine ab_aload_n hX dL_law_92 mm1 ?_
  refine ab_callS1r hX dL_law_93 ss_L_law_127 (LC0l (pre := pre) hS (fun G' g => cm_L_told g.1 (M := [bC _]) rfl hP0.1 hP0.2.1 hP0.2.2.1)) (Nat.le_of_ble_eq_true rfl) ?_
  refine ab_lstore_n hX dL_law_96 rfl (show 3 + 1 < 15 by decide) rfl ?_
  refine ab_aload_n hX dL_law_97 mm2 ?_
  refine ab_callS1r hX dL_law_98 ss_L_law_127 (LC0l (pre := pre) hS (fun G' g => cm_L_told g.1 (M := [bC _]) rfl hP0.1 hP0.2.1 hP0.2.2.1)) (Nat.le_of_ble_eq_true rfl) ?_
  refine ab_lload_n hX dL_law_101 mm0 ?_
  refine ab_lcmp hX dL_law_102 ?_
  refine ab_ifneC (tgt := 125) hX dL_law_103 (by decide) (fun h_1 => (by exact absurd rfl h_1)) (fun h_1 => ?_)
  refine ab_aload_n hX dL_law_106 mm2 ?_
  refine ab_callV0r hX dL_law_107 LH_x ss_L_law_120 (LC0i (pre := pre) hS (fun G' g => cm_X11_image g.1 (M := [bC _]) rfl hP0.1)) (Nat.le_of_ble_eq_true rfl) ?_
  refine ab_aload_n hX dL_law_110 mm1 ?_
  refine ab_iconst (v := 2) hX dL_law_111 (by decide) ?_
  refine ab_iald (i := 2) hX dL_law_112 LH_b rfl (by decide) (by decide) ?_
  refine ab_icmpne (tgt := 125) hX dL_law_113 (by decide) (fun h_2 => (by exact absurd hb.2.2.1.symm h_2)) (fun h_2 => ?_)
  refine ab_aload_n hX dL_law_116 mm2 ?_
  refine ab_callS1r hX dL_law_117 ss_L_law_127 (LC0l (pre := pre) hS (fun G' g => cm_L_told g.1 (M := [bC _]) rfl hV.1.1 hV.1.2.1 hV.1.2.2.1)) (Nat.le_of_ble_eq_true rfl) ?_
  rw [lv_sum hV hP0]
  refine ab_lload_n hX dL_law_120 mm0 ?_
  refine ab_lcmp hX dL_law_121 ?_
  refine ab_ifeqC (tgt := 127) hX dL_law_122 (by decide) (fun h_3 => ?_) (fun h_3 => (by exact absurd rfl h_3))
  exact ab_pm4 mm0 mm1 mm2 mm3 (kk _ _ _ hV)
theorem v_2 {G : ab_G} {nm : String} {X : ab_X} {L : Nat} {xs : Nat → Int32} (hS : ab_GS L xs G) (hX : ab_Good G (mLW nm) X) {pre : List ab_E} {c0 : CS} {D0 : List ab_E} {Q0 : QT} {nw T m : Nat} {f : Nat → Int32} (hP0 : PI c0 D0 Q0 nw) {c : CS} {D : List ab_E} {Q : QT} (hb : LB c0 Q0 nw T f) (hV : LV c0 Q0 nw T m c D Q) (kk : ∀ (c : CS), LV c0 Q0 nw T m c D Q → shS c 1 3 0 → ab_WA G (mLW nm) X 230 [(3, .long (toF c0 Q0 nw)), (2, .ref (pre.length + 42)), (1, .ref (pre.length + 0)), (0, .float 1)] [] (LH pre c f D)) : ab_WA G (mLW nm) X 127 [(3, .long (toF c0 Q0 nw)), (2, .ref (pre.length + 42)), (1, .ref (pre.length + 0)), (0, .float 1)] [] (LH pre c f D) := by
  have hV1 := lv_hs (f := 0) hV (k := 3) (by decide)
  refine ab_aload_n hX dL_law_127 mm2 ?_
  refine ab_bipush (v := 64) hX dL_law_128 (by decide) ?_
  refine ab_callV1r hX dL_law_130 LH_x ss_L_law_17 (LC1i (pre := pre) hS (fun G' g => cm_X11_truth g.1 (M := [bC _]) rfl )) (Nat.le_of_ble_eq_true rfl) ?_
  refine ab_set (st2 := [.int (-1)]) (h2 := LH pre c f D) rfl rfl ?_
  refine ab_iconst (v := (-1)) hX dL_law_133 (by decide) ?_
  refine ab_icmpne (tgt := 228) hX dL_law_134 (by decide) (fun h_1 => (by exact absurd rfl h_1)) (fun h_1 => ?_)
  refine ab_aload_n hX dL_law_137 mm2 ?_
  refine ab_bipush (v := 64) hX dL_law_138 (by decide) ?_
  refine ab_callV1r hX dL_law_140 LH_x ss_L_law_23 (LC1i (pre := pre) hS (fun G' g => cm_X11_witness g.1 (M := [bC _]) rfl hV.1.2.1 hV.1.2.2.1)) (Nat.le_of_ble_eq_true rfl) ?_
  refine ab_set (st2 := [.int (-1)]) (h2 := LH pre c f D) rfl rfl ?_
  refine ab_iconst (v := (-1)) hX dL_law_143 (by decide) ?_
  refine ab_icmpne (tgt := 228) hX dL_law_144 (by decide) (fun h_2 => (by exact absurd rfl h_2)) (fun h_2 => ?_)
  refine ab_aload_n hX dL_law_147 mm2 ?_
  refine ab_iconst (v := 1) hX dL_law_148 (by decide) ?_
  refine ab_iconst (v := 1) hX dL_law_149 (by decide) ?_
  refine ab_iconst (v := 3) hX dL_law_150 (by decide) ?_
  refine ab_iconst (v := 0) hX dL_law_151 (by decide) ?_
  refine ab_callV4r hX dL_law_152 LH_x ss_L_law_33 (LC4i (pre := pre) hS (fun G' g => cm_X11_keep g.1 (M := [bC _]) rfl )) (Nat.le_of_ble_eq_true rfl) ?_
  refine ab_set (st2 := [.int 0]) (h2 := LH pre (hsP c 1 3 0) f D) rfl rfl ?_
  refine ab_ifne (tgt := 228) hX dL_law_155 (by decide) (fun h_3 => (by exact absurd (show (0 : Int32) = 0 by decide) h_3)) (fun h_3 => ?_)
  refine ab_aload_n hX dL_law_158 mm2 ?_
  refine ab_iconst (v := 1) hX dL_law_159 (by decide) ?_
  refine ab_bipush (v := 6) hX dL_law_160 (by decide) ?_
  refine ab_iconst (v := 0) hX dL_law_162 (by decide) ?_
  refine ab_callV3r hX dL_law_163 LH_x ss_L_law_37 (LC3i (pre := pre) hS (fun G' g => cm_X11_rules g.1 (M := [bC _]) rfl hV1.1.2.2.2.2.2.2.2.1 hV1.1.1)) (Nat.le_of_ble_eq_true rfl) ?_
  refine ab_set (st2 := [.int (-1)]) (h2 := LH pre (hsP c 1 3 0) f D) rfl rfl ?_
  refine ab_iconst (v := (-1)) hX dL_law_166 (by decide) ?_
  refine ab_icmpne (tgt := 228) hX dL_law_167 (by decide) (fun h_4 => (by exact absurd rfl h_4)) (fun h_4 => ?_)
  refine ab_aload_n hX dL_law_170 mm2 ?_
  refine ab_aload_n hX dL_law_171 mm1 ?_
  refine ab_iconst (v := 1) hX dL_law_172 (by decide) ?_
  refine ab_iald (i := 1) hX dL_law_173 LH_b rfl (by decide) (by decide) ?_
  refine ab_iconst (v := 1) hX dL_law_174 (by decide) ?_
  refine ab_iconst (v := 0) hX dL_law_175 (by decide) ?_
  refine ab_iconst (v := 0) hX dL_law_176 (by decide) ?_
  rw [hb.2.1]
  refine ab_callV4r hX dL_law_177 LH_x ss_L_law_41 (LC4i (pre := pre) hS (fun G' g => cm_X11_says g.1 (M := [bC _]) rfl hV1.1.2.2.2.2.2.2.2.1 hV1.1.1)) (Nat.le_of_ble_eq_true rfl) ?_
  rw [(sy_no (D := D) (hw_no hV1.1.2.1 hV1.1.2.2.1)).1, (sy_no (hw_no hV1.1.2.1 hV1.1.2.2.1)).2]
  refine ab_set (st2 := [.int (-1)]) (h2 := LH pre (hsP c 1 3 0) f D) rfl rfl ?_
  refine ab_iconst (v := (-1)) hX dL_law_180 (by decide) ?_
  refine ab_icmpne (tgt := 228) hX dL_law_181 (by decide) (fun h_5 => (by exact absurd rfl h_5)) (fun h_5 => ?_)
  refine ab_aload_n hX dL_law_184 mm2 ?_
  refine ab_bipush (v := 8) hX dL_law_185 (by decide) ?_
  refine ab_iconst (v := 0) hX dL_law_187 (by decide) ?_
  refine ab_iconst (v := 0) hX dL_law_188 (by decide) ?_
  refine ab_iconst (v := 0) hX dL_law_189 (by decide) ?_
  refine ab_callV4r hX dL_law_190 LH_x ss_L_law_33 (LC4i (pre := pre) hS (fun G' g => cm_X11_keep g.1 (M := [bC _]) rfl )) (Nat.le_of_ble_eq_true rfl) ?_
  refine ab_set (st2 := [.int (-1)]) (h2 := LH pre (hsP c 1 3 0) f D) rfl rfl ?_
  refine ab_iconst (v := (-1)) hX dL_law_193 (by decide) ?_
  refine ab_icmpne (tgt := 228) hX dL_law_194 (by decide) (fun h_6 => (by exact absurd rfl h_6)) (fun h_6 => ?_)
  refine ab_aload_n hX dL_law_197 mm2 ?_
  refine ab_iconst (v := 0) hX dL_law_198 (by decide) ?_
  refine ab_iconst (v := 3) hX dL_law_199 (by decide) ?_
  refine ab_iconst (v := 0) hX dL_law_200 (by decide) ?_
  refine ab_callV3r hX dL_law_201 LH_x ss_L_law_131 (LC3i (pre := pre) hS (fun G' g => cm_X11_row g.1 (M := [bC _]) rfl )) (Nat.le_of_ble_eq_true rfl) ?_
  refine ab_set (st2 := [.int (-1)]) (h2 := LH pre (hsP c 1 3 0) f D) rfl rfl ?_
  refine ab_iconst (v := (-1)) hX dL_law_204 (by decide) ?_
  refine ab_icmpne (tgt := 228) hX dL_law_205 (by decide) (fun h_7 => (by exact absurd rfl h_7)) (fun h_7 => ?_)
  refine ab_aload_n hX dL_law_208 mm2 ?_
  refine ab_iconst (v := 0) hX dL_law_209 (by decide) ?_
  refine ab_iconst (v := 0) hX dL_law_210 (by decide) ?_
  refine ab_iconst (v := 0) hX dL_law_211 (by decide) ?_
  refine ab_callV3r hX dL_law_212 LH_x ss_L_law_113 (LC3i (pre := pre) hS (fun G' g => cm_X11_seeds g.1 (M := [bC _]) rfl (hV1.1.1.1 (2 * 0) (by decide)) hV1.1.2.1 hV1.1.2.2.1)) (Nat.le_of_ble_eq_true rfl) ?_
  refine ab_set (st2 := [.int (-1)]) (h2 := LH pre (hsP c 1 3 0) f D) rfl rfl ?_
  refine ab_iconst (v := (-1)) hX dL_law_215 (by decide) ?_
  refine ab_icmpne (tgt := 228) hX dL_law_216 (by decide) (fun h_8 => (by exact absurd rfl h_8)) (fun h_8 => ?_)
  refine ab_aload_n hX dL_law_219 mm2 ?_
  refine ab_callS1r hX dL_law_220 ss_L_law_127 (LC0l (pre := pre) hS (fun G' g => cm_L_told g.1 (M := [bC _]) rfl hV1.1.1 hV1.1.2.1 hV1.1.2.2.1)) (Nat.le_of_ble_eq_true rfl) ?_
  rw [lv_sum hV1 hP0]
  refine ab_lload_n hX dL_law_223 mm0 ?_
  refine ab_lcmp hX dL_law_224 ?_
  refine ab_ifeqC (tgt := 230) hX dL_law_225 (by decide) (fun h_9 => ?_) (fun h_9 => (by exact absurd rfl h_9))
  exact ab_pm4 mm0 mm1 mm2 mm3 (kk _ hV1 hs_S)
theorem v_3 {G : ab_G} {nm : String} {X : ab_X} {L : Nat} {xs : Nat → Int32} (hS : ab_GS L xs G) (hX : ab_Good G (mLW nm) X) {pre : List ab_E} {c0 : CS} {D0 : List ab_E} {Q0 : QT} {nw T m : Nat} {f : Nat → Int32} (hP0 : PI c0 D0 Q0 nw) {c : CS} {D : List ab_E} {Q : QT} (hV : LV c0 Q0 nw T m c D Q) (hs : shS c 1 3 0) (kk : ∀ (c : CS), LV c0 Q0 nw T m c D Q → shS c 1 3 0 → RX c → ab_WA G (mLW nm) X 284 [(3, .long (toF c0 Q0 nw)), (2, .ref (pre.length + 42)), (1, .ref (pre.length + 0)), (0, .float 1)] [] (LH pre c f D)) : ab_WA G (mLW nm) X 230 [(3, .long (toF c0 Q0 nw)), (2, .ref (pre.length + 42)), (1, .ref (pre.length + 0)), (0, .float 1)] [] (LH pre c f D) := by
  obtain ⟨c1, e1⟩ : ∃ x, x = rowP c 2 0 2 := ⟨_, rfl⟩
  have hr := hr_e (c := c)
  rw [← e1] at hr
  have hV1 := lv_sh2 hV hr.1 (fun _ => ⟨2, by decide, hr.2.2.2⟩)
  obtain ⟨c2, e2⟩ : ∃ x, x = putP c1 2 0 116 := ⟨_, rfl⟩
  have a1 := pu_e (c := c1) hr.2 (i := 0) (by decide) (v := 116) rfl
  rw [show putP c1 2 (nI 0) 116 = c2 from e2.symm] at a1
  have hV2 := lv_sh2 hV1 a1.2.1 (fun _ => ⟨2, by decide, a1.2.2.1.2.2⟩)
  obtain ⟨c3, e3⟩ : ∃ x, x = putP c2 2 1 57 := ⟨_, rfl⟩
  have a2 := pu_e (c := c2) a1.2.2.1 (i := 1) (by decide) (v := 57) rfl
  rw [show putP c2 2 (nI 1) 57 = c3 from e3.symm] at a2
  have hV3 := lv_sh2 hV2 a2.2.1 (fun _ => ⟨2, by decide, a2.2.2.1.2.2⟩)
  have h0 : c3.2.1 12 0 = 116 := (a2.2.2.2.2 0 (by decide)).trans a1.2.2.2.1
  obtain ⟨t1, t2⟩ := tl_2 (D := D) (Q := Q) a2.2.2.1 h0 a2.2.2.2.1
  refine ab_aload_n hX dL_law_230 mm2 ?_
  refine ab_iconst (v := 2) hX dL_law_231 (by decide) ?_
  refine ab_iconst (v := 0) hX dL_law_232 (by decide) ?_
  refine ab_iconst (v := 2) hX dL_law_233 (by decide) ?_
  refine ab_callV3r hX dL_law_234 LH_x ss_L_law_131 (LC3i (pre := pre) hS (fun G' g => cm_X11_row g.1 (M := [bC _]) rfl )) (Nat.le_of_ble_eq_true rfl) ?_
  rw [show roM 2 0 2 = 0 from rfl, ← e1]
  refine ab_ifne (tgt := 282) hX dL_law_237 (by decide) (fun h_1 => (by exact absurd (show (0 : Int32) = 0 by decide) h_1)) (fun h_1 => ?_)
  refine ab_aload_n hX dL_law_240 mm2 ?_
  refine ab_iconst (v := 2) hX dL_law_241 (by decide) ?_
  refine ab_iconst (v := 0) hX dL_law_242 (by decide) ?_
  refine ab_bipush (v := 116) hX dL_law_243 (by decide) ?_
  refine ab_callV3r hX dL_law_245 LH_x ss_L_law_134 (LC3i (pre := pre) hS (fun G' g => cm_X11_put g.1 (M := [bC _]) rfl )) (Nat.le_of_ble_eq_true rfl) ?_
  rw [show putR c1 2 0 = 0 from a1.1, ← e2]
  refine ab_ifne (tgt := 282) hX dL_law_248 (by decide) (fun h_2 => (by exact absurd (show (0 : Int32) = 0 by decide) h_2)) (fun h_2 => ?_)
  refine ab_aload_n hX dL_law_251 mm2 ?_
  refine ab_iconst (v := 2) hX dL_law_252 (by decide) ?_
  refine ab_iconst (v := 1) hX dL_law_253 (by decide) ?_
  refine ab_bipush (v := 57) hX dL_law_254 (by decide) ?_
  refine ab_callV3r hX dL_law_256 LH_x ss_L_law_134 (LC3i (pre := pre) hS (fun G' g => cm_X11_put g.1 (M := [bC _]) rfl )) (Nat.le_of_ble_eq_true rfl) ?_
  rw [show putR c2 2 1 = 0 from a2.1, ← e3]
  refine ab_ifne (tgt := 282) hX dL_law_259 (by decide) (fun h_3 => (by exact absurd (show (0 : Int32) = 0 by decide) h_3)) (fun h_3 => ?_)
  refine ab_aload_n hX dL_law_262 mm2 ?_
  refine ab_iconst (v := 2) hX dL_law_263 (by decide) ?_
  refine ab_callV1r hX dL_law_264 LH_x ss_L_law_137 (LC1i (pre := pre) hS (fun G' g => cm_X11_trial g.1 (M := [bC _]) rfl hV3.1.1 hV3.1.2.2.2.2.2.2.2.2 hV3.1.2.1 hV3.1.2.2.1)) (Nat.le_of_ble_eq_true rfl) ?_
  rw [t1, t2]
  refine ab_hp (show _ = LH pre c3 f D from rfl) ?_
  refine ab_sipush (v := (-1002)) hX dL_law_267 (by decide) ?_
  refine ab_icmpne (tgt := 282) hX dL_law_270 (by decide) (fun h_4 => (by exact absurd rfl h_4)) (fun h_4 => ?_)
  refine ab_aload_n hX dL_law_273 mm2 ?_
  refine ab_callS1r hX dL_law_274 ss_L_law_127 (LC0l (pre := pre) hS (fun G' g => cm_L_told g.1 (M := [bC _]) rfl hV3.1.1 hV3.1.2.1 hV3.1.2.2.1)) (Nat.le_of_ble_eq_true rfl) ?_
  rw [lv_sum hV3 hP0]
  refine ab_lload_n hX dL_law_277 mm0 ?_
  refine ab_lcmp hX dL_law_278 ?_
  refine ab_ifeqC (tgt := 284) hX dL_law_279 (by decide) (fun h_5 => ?_) (fun h_5 => (by exact absurd rfl h_5))
  exact ab_pm4 mm0 mm1 mm2 mm3 (kk _ hV3 (sh_sh2 a2.2.1 (sh_sh2 a1.2.1 (sh_sh2 hr.1 hs))) ⟨a2.2.2.1, a2.2.2.2.1⟩)
