/-! the law's world, walked -/
theorem ab_stk {G : ab_G} {M : ab_M} {X : ab_X} {pc : Nat} {l : List (Nat × Value)} {st st2 : List Value} {h : List ab_E} (e : st = st2) (k : ab_WA G M X pc l st2 h) : ab_WA G M X pc l st h := e ▸ k
theorem wlB_0 (L : Nat) (xs : Nat → Int32) : ¬ wlB L xs = 0 := by unfold wlB; split <;> decide
theorem wl_A {G : ab_G} (hG : ab_GG G) {X : ab_X} (hX : ab_Good G mL_world X) {L : Nat} {xs : Nat → Int32} (hsc : va_X (G.2.2.1 1) L xs G.2.2.2.2.1 G.2.2.2.2.1.heap ∧ G.2.2.1 1 < G.2.1) (hL : L ≤ 260) {c : CS} {D : List ab_E} (kk : ab_WA G mL_world X 62 [(5, .int (nI 0)), (4, .int (nI (wlN L xs))), (3, .int (atF L xs 0)), (2, .ref 42), (1, .float 1), (0, .ref 0)] [] (cH (w0S L xs c D).1 [bC (w0S L xs c D).2.2] (w0S L xs c D).2.1)) : ab_WA G mL_world X 0 [(0, .ref 0), (1, .float 1), (2, .ref 42)] [] (cH c [bC (fun _ => 0)] D) := by
  refine ab_aload_nS hX dL_world_0 mm1 ?_
  refine ab_iconst (v := 0) hX dL_world_1 (by decide) ?_
  refine ab_callS2r hX dL_world_2 ss_L_world_7 (cm_L_at (k := 0) hG hsc hL (by omega)) (Nat.le_of_ble_eq_true rfl) ?_
  refine ab_istore_n hX dL_world_5 rfl (by decide) rfl ?_
  refine ab_aload_n hX dL_world_6 mm3 ?_
  refine ab_iconst (v := 3) hX dL_world_7 (by decide) ?_
  refine ab_iload_n hX dL_world_8 mm0 ?_
  refine ab_bipush (v := 64) hX dL_world_9 (by decide) ?_
  refine ab_callS2r hX dL_world_11 ss_L_world_13 (cm_L_some hG (by decide)) (Nat.le_of_ble_eq_true rfl) ?_
  refine ab_iast (i := 3) hX dL_world_14 cM_b rfl (by decide) (by decide) cM_s ?_
  refine ab_aload_n hX dL_world_15 mm1 ?_
  refine ab_aload_n hX dL_world_16 mm3 ?_
  refine ab_iconst (v := 3) hX dL_world_17 (by decide) ?_
  refine ab_iald (i := 3) hX dL_world_18 cM_b rfl (by decide) (by decide) ?_
  rw [pk_us]
  refine ab_callV1r hX dL_world_19 cg_x ss_L_world_17 (cm_X11_truth hG (M := [bC _]) rfl) (Nat.le_of_ble_eq_true rfl) ?_
  refine ab_pop hX dL_world_22 rfl ?_
  refine ab_iload_n hX dL_world_23 mm0 ?_
  refine ab_bipush (v := 6) hX dL_world_24 (by decide) ?_
  refine ab_ishr hX dL_world_26 ?_
  refine ab_iload_n hX dL_world_27 mm0 ?_
  refine ab_bipush (v := 20) hX dL_world_28 (by decide) ?_
  refine ab_ishr hX dL_world_30 ?_
  refine ab_iconst (v := 1) hX dL_world_31 (by decide) ?_
  refine ab_iand hX dL_world_32 ?_
  have J42 : ab_WA G mL_world X 42 [(3, .int (atF L xs 0)), (0, .ref 0), (1, .float 1), (2, .ref 42)] [.int (wlB L xs), .int (atF L xs 0 >>> ((6 : Int32) &&& 31))] (cH (trtP c (someI (atF L xs 0) 64)) [bC (upd (fun _ => 0) 3 (someI (atF L xs 0) 64))] D) := by
    refine ab_callS2r hX dL_world_42 ss_L_world_13 (cm_L_some hG (wlB_0 L xs)) (Nat.le_of_ble_eq_true rfl) ?_
    rw [(wl_r L xs).2]
    refine ab_istore hX dL_world_45 (by decide) rfl ?_
    refine ab_aload_n hX dL_world_47 mm4 ?_
    refine ab_iconst (v := 1) hX dL_world_48 (by decide) ?_
    refine ab_iload_n hX dL_world_49 mm1 ?_
    refine ab_bipush (v := 9) hX dL_world_50 (by decide) ?_
    refine ab_ishr hX dL_world_52 ?_
    refine ab_bipush (v := 6) hX dL_world_53 (by decide) ?_
    refine ab_callS2r hX dL_world_55 ss_L_world_13 (cm_L_some hG (by decide)) (Nat.le_of_ble_eq_true rfl) ?_
    rw [(wn_r L xs).2]
    refine ab_iast (i := 1) hX dL_world_58 cM_b rfl (by decide) (by decide) cM_s ?_
    refine ab_iconst (v := 0) hX dL_world_59 (by decide) ?_
    refine ab_istore hX dL_world_60 (by decide) rfl ?_
    exact ab_pm6 mm0 mm1 mm2 mm5 mm4 mm3 kk
  refine ab_ifne (tgt := 40) hX dL_world_33 (by decide) (fun h_1 => ?_) (fun h_1 => ?_)
  ·
    refine ab_bipush (v := 7) hX dL_world_40 (by decide) ?_
    exact ab_stk (congrArg (fun z : Int32 => [Value.int z, Value.int (atF L xs 0 >>> ((6 : Int32) &&& 31))]) (if_neg h_1).symm) J42
  ·
    refine ab_iconst (v := 3) hX dL_world_36 (by decide) ?_
    refine ab_goto (tgt := 42) hX dL_world_37 (by decide) ?_
    exact ab_stk (congrArg (fun z : Int32 => [Value.int z, Value.int (atF L xs 0 >>> ((6 : Int32) &&& 31))]) (if_pos h_1).symm) J42
theorem wl_B {G : ab_G} (hG : ab_GG G) {X : ab_X} (hX : ab_Good G mL_world X) {L : Nat} {xs : Nat → Int32} (hsc : va_X (G.2.2.1 1) L xs G.2.2.2.2.1 G.2.2.2.2.1.heap ∧ G.2.2.1 1 < G.2.1) (hL : L ≤ 260) {p : WS} {w NW : Nat} (hb1 : p.2.2 1 = nI NW) (hN : NW ≤ 5) (hwN : w < NW) (hw : p.1.1 (10 + 0) = nI w) (hw5 : w ≤ 5) (kk : ab_WA G mL_world X 62 [(5, .int (nI (w + 1))), (4, .int (nI (wlN L xs))), (3, .int (atF L xs 0)), (2, .ref 42), (1, .float 1), (0, .ref 0)] [] (cH (w1G L xs w p).1 [bC (w1G L xs w p).2.2] (w1G L xs w p).2.1)) : ab_WA G mL_world X 62 [(5, .int (nI w)), (4, .int (nI (wlN L xs))), (3, .int (atF L xs 0)), (2, .ref 42), (1, .float 1), (0, .ref 0)] [] (cH p.1 [bC p.2.2] p.2.1) := by
  refine ab_iload hX dL_world_62 mm0 ?_
  refine ab_aload_n hX dL_world_64 mm3 ?_
  refine ab_iconst (v := 1) hX dL_world_65 (by decide) ?_
  refine ab_iald (i := 1) hX dL_world_66 cM_b rfl (by decide) (by decide) ?_
  refine ab_icmpge (tgt := 112) hX dL_world_67 (by decide) (fun h_1 => (by rw [hb1] at h_1; have := (nI_leI (by omega) (by omega)).mp h_1; omega)) (fun h_1 => ?_)
  refine ab_aload_nS hX dL_world_70 mm4 ?_
  refine ab_iconst (v := 1) hX dL_world_71 (by decide) ?_
  refine ab_iload hX dL_world_72 mm0 ?_
  refine ab_iadd hX dL_world_74 ?_
  rw [show (1 : Int32) + nI w = nI (1 + w) from nI_add 1 w]
  refine ab_callS2r hX dL_world_75 ss_L_world_7 (cm_L_at (k := 1 + w) hG hsc hL (by omega)) (Nat.le_of_ble_eq_true rfl) ?_
  refine ab_istore hX dL_world_78 (by decide) rfl ?_
  refine ab_aload_n hX dL_world_80 mm4 ?_
  refine ab_bipush (v := 10) hX dL_world_81 (by decide) ?_
  refine ab_iload hX dL_world_83 mm1 ?_
  refine ab_iadd hX dL_world_85 ?_
  refine ab_iload hX dL_world_86 mm0 ?_
  refine ab_bipush (v := 64) hX dL_world_88 (by decide) ?_
  refine ab_callS2r hX dL_world_90 ss_L_world_13 (cm_L_some hG (by decide)) (Nat.le_of_ble_eq_true rfl) ?_
  refine ab_iast (i := (10 + w)) hX dL_world_93 cM_b (nI_add 10 w) (by omega) (by decide) cM_s ?_
  refine ab_aload_n hX dL_world_94 mm6 ?_
  refine ab_aload_n hX dL_world_95 mm4 ?_
  refine ab_bipush (v := 10) hX dL_world_96 (by decide) ?_
  refine ab_iload hX dL_world_98 mm1 ?_
  refine ab_iadd hX dL_world_100 ?_
  refine ab_iald (i := (10 + w)) hX dL_world_101 cM_b (nI_add 10 w) (by omega) (by decide) ?_
  rw [pk_us]
  refine ab_callV1r hX dL_world_102 cg_x ss_L_world_23 (cm_X11_witness hG (M := [bC _]) rfl hw hw5) (Nat.le_of_ble_eq_true rfl) ?_
  refine ab_pop hX dL_world_105 rfl ?_
  refine ab_iinc hX dL_world_106 mm1 rfl (by decide) rfl ?_
  refine ab_goto (tgt := 62) hX dL_world_109 (by decide) ?_
  exact ab_pm6 (mmv0 (congrArg Value.int (by exact (nI_1 _).symm))) mm2 mm3 mm4 mm5 mm6 kk
theorem wl_Be {G : ab_G} (hG : ab_GG G) {X : ab_X} (hX : ab_Good G mL_world X) {L : Nat} {xs : Nat → Int32} {p : WS} {NW : Nat} (hb1 : p.2.2 1 = nI NW) (kk : ab_WA G mL_world X 115 [(5, .int (nI 0)), (4, .int (nI (wlN L xs))), (3, .int (atF L xs 0)), (2, .ref 42), (1, .float 1), (0, .ref 0)] [] (cH p.1 [bC p.2.2] p.2.1)) : ab_WA G mL_world X 62 [(5, .int (nI NW)), (4, .int (nI (wlN L xs))), (3, .int (atF L xs 0)), (2, .ref 42), (1, .float 1), (0, .ref 0)] [] (cH p.1 [bC p.2.2] p.2.1) := by
  refine ab_iload hX dL_world_62 mm0 ?_
  refine ab_aload_n hX dL_world_64 mm3 ?_
  refine ab_iconst (v := 1) hX dL_world_65 (by decide) ?_
  refine ab_iald (i := 1) hX dL_world_66 cM_b rfl (by decide) (by decide) ?_
  refine ab_icmpge (tgt := 112) hX dL_world_67 (by decide) (fun h_1 => ?_) (fun h_1 => (by exact absurd (by rw [hb1]; exact Int32.le_refl _) h_1))
  refine ab_iconst (v := 0) hX dL_world_112 (by decide) ?_
  refine ab_istore hX dL_world_113 (by decide) rfl ?_
  exact ab_pm6 mm0 mm1 mm2 mm3 mm4 mm5 kk
theorem wl_C {G : ab_G} (hG : ab_GG G) {X : ab_X} (hX : ab_Good G mL_world X) {L : Nat} {xs : Nat → Int32} (hsc : va_X (G.2.2.1 1) L xs G.2.2.2.2.1 G.2.2.2.2.1.heap ∧ G.2.2.1 1 < G.2.1) (hL : L ≤ 260) {p : WS} {k : Nat} (hk : k < wlN L xs) (hk6 : k < 6) (hix : 4 + p.2.2 0 = nI (4 + tn (p.2.2 0))) (hz : tn (p.2.2 0) < 6) {Q : QT} {nw : Nat} (hPK : PI (w2K (atF L xs (6 + k)) p) p.2.1 Q nw) (hQ0 : (Q (2 * 0)).1 = tn (p.2.2 0)) (kk : ab_WA G mL_world X 115 [(5, .int (nI (k + 1))), (4, .int (nI (wlN L xs))), (3, .int (atF L xs 0)), (2, .ref 42), (1, .float 1), (0, .ref 0)] [] (cH (w2G L xs k p).1 [bC (w2G L xs k p).2.2] (w2G L xs k p).2.1)) : ab_WA G mL_world X 115 [(5, .int (nI k)), (4, .int (nI (wlN L xs))), (3, .int (atF L xs 0)), (2, .ref 42), (1, .float 1), (0, .ref 0)] [] (cH p.1 [bC p.2.2] p.2.1) := by
  have hwl := (wl_r L xs).1
  refine ab_iload hX dL_world_115 mm0 ?_
  refine ab_iload hX dL_world_117 mm1 ?_
  refine ab_icmpge (tgt := 245) hX dL_world_119 (by decide) (fun h_1 => (by have := (nI_leI (by omega) (by omega)).mp h_1; omega)) (fun h_1 => ?_)
  refine ab_aload_nS hX dL_world_122 mm4 ?_
  refine ab_bipush (v := 6) hX dL_world_123 (by decide) ?_
  refine ab_iload hX dL_world_125 mm0 ?_
  refine ab_iadd hX dL_world_127 ?_
  rw [show (6 : Int32) + nI k = nI (6 + k) from nI_add 6 k]
  refine ab_callS2r hX dL_world_128 ss_L_world_7 (cm_L_at (k := 6 + k) hG hsc hL (by omega)) (Nat.le_of_ble_eq_true rfl) ?_
  refine ab_istore hX dL_world_131 (by decide) rfl ?_
  refine ab_aload_n hX dL_world_133 mm4 ?_
  refine ab_iconst (v := 4) hX dL_world_134 (by decide) ?_
  refine ab_aload_n hX dL_world_135 mm4 ?_
  refine ab_iconst (v := 0) hX dL_world_136 (by decide) ?_
  refine ab_iald (i := 0) hX dL_world_137 cM_b rfl (by decide) (by decide) ?_
  refine ab_iadd hX dL_world_138 ?_
  refine ab_iload hX dL_world_139 mm0 ?_
  refine ab_callS1r hX dL_world_141 ss_L_world_26 (cm_L_saying hG) (Nat.le_of_ble_eq_true rfl) ?_
  refine ab_iast (i := (4 + tn (p.2.2 0))) hX dL_world_144 cM_b hix (by omega) (by decide) cM_s ?_
  obtain ⟨f1, hf1⟩ : ∃ f, f = w2B (atF L xs (6 + k)) p := ⟨_, rfl⟩
  have hf0 : f1 0 = p.2.2 0 := by rw [hf1]; exact pk_un (by omega)
  have hf3 : f1 3 = p.2.2 3 := by rw [hf1]; exact pk_un (by omega)
  have hfz : f1 (4 + tn (p.2.2 0)) = sayV (atF L xs (6 + k)) := by rw [hf1]; exact pk_us
  refine ab_hp (show _ = cH p.1 [bC f1] p.2.1 by rw [hf1]; rfl) ?_
  refine ab_aload_n hX dL_world_145 mm4 ?_
  refine ab_iconst (v := 4) hX dL_world_146 (by decide) ?_
  refine ab_aload_n hX dL_world_147 mm4 ?_
  refine ab_iconst (v := 0) hX dL_world_148 (by decide) ?_
  refine ab_iald (i := 0) hX dL_world_149 cM_b rfl (by decide) (by decide) ?_
  refine ab_iadd hX dL_world_150 ?_
  refine ab_iald (i := (4 + tn (p.2.2 0))) hX dL_world_151 cM_b (by rw [hf0]; exact hix) (by omega) (by decide) ?_
  refine ab_aload_n hX dL_world_152 mm4 ?_
  refine ab_iconst (v := 3) hX dL_world_153 (by decide) ?_
  refine ab_iald (i := 3) hX dL_world_154 cM_b rfl (by decide) (by decide) ?_
  rw [hfz, hf3]
  refine ab_callS2r hX dL_world_155 ss_L_world_29 (cm_L_holds hG) (Nat.le_of_ble_eq_true rfl) ?_
  have J172 : w2V (atF L xs (6 + k)) p = ((w2R (atF L xs (6 + k)) p).1, (w2R (atF L xs (6 + k)) p).2, upd (w2B (atF L xs (6 + k)) p) 0 (p.2.2 0 + 1)) → ab_WA G mL_world X 172 [(6, .int (atF L xs (6 + k))), (5, .int (nI k)), (4, .int (nI (wlN L xs))), (3, .int (atF L xs 0)), (2, .ref 42), (1, .float 1), (0, .ref 0)] [] (cH p.1 [bC f1] p.2.1) := by
    intro hE
    refine ab_aload_n hX dL_world_172 mm6 ?_
    refine ab_iconst (v := 0) hX dL_world_173 (by decide) ?_
    refine ab_iconst (v := 1) hX dL_world_174 (by decide) ?_
    refine ab_aload_n hX dL_world_175 mm4 ?_
    refine ab_iconst (v := 4) hX dL_world_176 (by decide) ?_
    refine ab_aload_n hX dL_world_177 mm4 ?_
    refine ab_iconst (v := 0) hX dL_world_178 (by decide) ?_
    refine ab_iald (i := 0) hX dL_world_179 cM_b rfl (by decide) (by decide) ?_
    refine ab_iadd hX dL_world_180 ?_
    refine ab_iald (i := (4 + tn (p.2.2 0))) hX dL_world_181 cM_b (by rw [hf0]; exact hix) (by omega) (by decide) ?_
    rw [hfz]
    refine ab_sipush (v := 1000) hX dL_world_182 (by decide) ?_
    refine ab_idiv hX dL_world_185 (by decide) ?_
    refine ab_aload_n hX dL_world_186 mm4 ?_
    refine ab_iconst (v := 4) hX dL_world_187 (by decide) ?_
    refine ab_aload_n hX dL_world_188 mm4 ?_
    refine ab_iconst (v := 0) hX dL_world_189 (by decide) ?_
    refine ab_iald (i := 0) hX dL_world_190 cM_b rfl (by decide) (by decide) ?_
    refine ab_iadd hX dL_world_191 ?_
    refine ab_iald (i := (4 + tn (p.2.2 0))) hX dL_world_192 cM_b (by rw [hf0]; exact hix) (by omega) (by decide) ?_
    rw [hfz]
    refine ab_bipush (v := 100) hX dL_world_193 (by decide) ?_
    refine ab_idiv hX dL_world_195 (by decide) ?_
    refine ab_bipush (v := 10) hX dL_world_196 (by decide) ?_
    refine ab_irem hX dL_world_198 (by decide) ?_
    refine ab_callV4r hX dL_world_199 cg_x ss_L_world_33 (cm_X11_keep hG (M := [bC _]) rfl) (Nat.le_of_ble_eq_true rfl) ?_
    refine ab_pop hX dL_world_202 rfl ?_
    refine ab_aload_n hX dL_world_203 mm6 ?_
    refine ab_iconst (v := 0) hX dL_world_204 (by decide) ?_
    refine ab_aload_n hX dL_world_205 mm4 ?_
    refine ab_iconst (v := 4) hX dL_world_206 (by decide) ?_
    refine ab_aload_n hX dL_world_207 mm4 ?_
    refine ab_iconst (v := 0) hX dL_world_208 (by decide) ?_
    refine ab_iald (i := 0) hX dL_world_209 cM_b rfl (by decide) (by decide) ?_
    refine ab_iadd hX dL_world_210 ?_
    refine ab_iald (i := (4 + tn (p.2.2 0))) hX dL_world_211 cM_b (by rw [hf0]; exact hix) (by omega) (by decide) ?_
    rw [hfz]
    refine ab_bipush (v := 10) hX dL_world_212 (by decide) ?_
    refine ab_idiv hX dL_world_214 (by decide) ?_
    refine ab_bipush (v := 10) hX dL_world_215 (by decide) ?_
    refine ab_irem hX dL_world_217 (by decide) ?_
    refine ab_aload_n hX dL_world_218 mm4 ?_
    refine ab_iconst (v := 4) hX dL_world_219 (by decide) ?_
    refine ab_aload_n hX dL_world_220 mm4 ?_
    refine ab_iconst (v := 0) hX dL_world_221 (by decide) ?_
    refine ab_iald (i := 0) hX dL_world_222 cM_b rfl (by decide) (by decide) ?_
    refine ab_iadd hX dL_world_223 ?_
    refine ab_iald (i := (4 + tn (p.2.2 0))) hX dL_world_224 cM_b (by rw [hf0]; exact hix) (by omega) (by decide) ?_
    rw [hfz]
    refine ab_bipush (v := 10) hX dL_world_225 (by decide) ?_
    refine ab_irem hX dL_world_227 (by decide) ?_
    refine ab_callV3r hX dL_world_228 cg_x ss_L_world_37 (cm_X11_rules hG (M := [bC _]) rfl hPK.2.2.2.2.2.2.2.1 hPK.1) (Nat.le_of_ble_eq_true rfl) ?_
    rw [hQ0]
    refine ab_pop hX dL_world_231 rfl ?_
    refine ab_aload_n hX dL_world_232 mm4 ?_
    refine ab_iconst (v := 0) hX dL_world_233 (by decide) ?_
    refine ab_dup2 hX dL_world_234 rfl rfl ?_
    refine ab_iald (i := 0) hX dL_world_235 cM_b rfl (by decide) (by decide) ?_
    refine ab_iconst (v := 1) hX dL_world_236 (by decide) ?_
    rw [hf0]
    refine ab_iadd hX dL_world_237 ?_
    refine ab_iast (i := 0) hX dL_world_238 cM_b rfl (by decide) (by decide) cM_s ?_
    refine ab_iinc hX dL_world_239 mm1 rfl (by decide) rfl ?_
    refine ab_goto (tgt := 115) hX dL_world_242 (by decide) ?_
    exact ab_pm6 (mmv0 (congrArg Value.int (by exact (nI_1 _).symm))) mm2 mm3 mm4 mm5 mm6 (ab_hp (show cH (w2R (atF L xs (6 + k)) p).1 [bC (upd f1 0 (p.2.2 0 + 1))] (w2R (atF L xs (6 + k)) p).2 = _ by rw [hf1, show w2G L xs k p = _ from hE]; try rfl) kk)
  refine ab_ifneB (tgt := 172) hX dL_world_158 (by decide) (fun h_1 => ?_) (fun h_1 => ?_)
  · exact J172 (by unfold w2V; rw [if_neg (by rw [h_1]; exact Bool.noConfusion)])
  ·
    refine ab_iload hX dL_world_161 mm0 ?_
    refine ab_bipush (v := 7) hX dL_world_163 (by decide) ?_
    refine ab_iand hX dL_world_165 ?_
    refine ab_ifle (tgt := 172) hX dL_world_166 (by decide) (fun h_2 => ?_) (fun h_2 => ?_)
    · exact J172 (by unfold w2V; rw [if_pos h_1, if_neg (fun q => absurd h_2 (fa_of_lt q).2.1)])
    ·
      refine ab_goto (tgt := 239) hX dL_world_169 (by decide) ?_
      have hE : w2V (atF L xs (6 + k)) p = (p.1, p.2.1, w2B (atF L xs (6 + k)) p) := by unfold w2V; rw [if_pos h_1, if_pos (Int32.not_le.mp h_2)]
      refine ab_iinc hX dL_world_239 mm1 rfl (by decide) rfl ?_
      refine ab_goto (tgt := 115) hX dL_world_242 (by decide) ?_
      exact ab_pm6 (mmv0 (congrArg Value.int (by exact (nI_1 _).symm))) mm2 mm3 mm4 mm5 mm6 (ab_hp (by rw [hf1, show w2G L xs k p = _ from hE]; try rfl) kk)
theorem wl_Ce {G : ab_G} (hG : ab_GG G) {X : ab_X} (hX : ab_Good G mL_world X) {L : Nat} {xs : Nat → Int32} {p : WS} (hb1 : p.2.2 1 = nI (wnN L xs)) (kk : ab_WA G mL_world X 269 [(6, .int (nI 0)), (5, .int (nI (wsN L xs))), (3, .int (atF L xs 0)), (2, .ref 42), (1, .float 1), (0, .ref 0)] [] (cH p.1 [bC p.2.2] p.2.1)) : ab_WA G mL_world X 115 [(5, .int (nI (wlN L xs))), (4, .int (nI (wlN L xs))), (3, .int (atF L xs 0)), (2, .ref 42), (1, .float 1), (0, .ref 0)] [] (cH p.1 [bC p.2.2] p.2.1) := by
  refine ab_iload hX dL_world_115 mm0 ?_
  refine ab_iload hX dL_world_117 mm1 ?_
  refine ab_icmpge (tgt := 245) hX dL_world_119 (by decide) (fun h_1 => ?_) (fun h_1 => (by exact absurd (Int32.le_refl _) h_1))
  refine ab_aload_n hX dL_world_245 mm3 ?_
  refine ab_iconst (v := 1) hX dL_world_246 (by decide) ?_
  refine ab_iald (i := 1) hX dL_world_247 cM_b rfl (by decide) (by decide) ?_
  have J264 : ab_WA G mL_world X 264 [(5, .int (nI (wlN L xs))), (4, .int (nI (wlN L xs))), (3, .int (atF L xs 0)), (2, .ref 42), (1, .float 1), (0, .ref 0)] [.int (nI (wsN L xs))] (cH p.1 [bC p.2.2] p.2.1) := by
    refine ab_istore hX dL_world_264 (by decide) rfl ?_
    refine ab_iconst (v := 0) hX dL_world_266 (by decide) ?_
    refine ab_istore hX dL_world_267 (by decide) rfl ?_
    exact ab_pm6 mm0 mm1 mm3 mm4 mm5 mm6 kk
  refine ab_ifne (tgt := 255) hX dL_world_248 (by decide) (fun h_1 => ?_) (fun h_1 => ?_)
  ·
    have hn : ¬ wnN L xs = 0 := fun q => h_1 (by rw [hb1, q]; rfl)
    refine ab_iload_n hX dL_world_255 mm2 ?_
    refine ab_bipush (v := 12) hX dL_world_256 (by decide) ?_
    refine ab_ishr hX dL_world_258 ?_
    refine ab_bipush (v := 11) hX dL_world_259 (by decide) ?_
    refine ab_callS2r hX dL_world_261 ss_L_world_13 (cm_L_some hG (by decide)) (Nat.le_of_ble_eq_true rfl) ?_
    rw [(ws_r L xs).2.2 hn]
    exact J264
  ·
    have hn : wnN L xs = 0 := (nI_eq (b := 0) (by have := (wn_r L xs).1; omega) (by decide)).mp (hb1.symm.trans h_1)
    refine ab_iconst (v := 0) hX dL_world_251 (by decide) ?_
    refine ab_goto (tgt := 264) hX dL_world_252 (by decide) ?_
    exact ab_stk (congrArg (fun z : Nat => [Value.int (nI z)]) ((ws_r L xs).2.1 hn).symm) J264
theorem wl_D {G : ab_G} (hG : ab_GG G) {X : ab_X} (hX : ab_Good G mL_world X) {L : Nat} {xs : Nat → Int32} (hsc : va_X (G.2.2.1 1) L xs G.2.2.2.2.1 G.2.2.2.2.1.heap ∧ G.2.2.1 1 < G.2.1) (hL : L ≤ 260) {p : WS} {k : Nat} (hk : k < wsN L xs) (hk6 : k < 10) (hix : 15 + p.2.2 2 = nI (15 + tn (p.2.2 2))) (hix2 : 25 + p.2.2 2 = nI (25 + tn (p.2.2 2))) (hz : tn (p.2.2 2) < 10) (hNW : ¬ p.2.2 1 = 0) {Q : QT} {nw : Nat} (hPK : PI (w2K (atF L xs (12 + k)) p) p.2.1 Q nw) (hQ1 : (Q (2 * 0 + 1)).1 = tn (p.2.2 2)) (kk : ab_WA G mL_world X 269 [(6, .int (nI (k + 1))), (5, .int (nI (wsN L xs))), (3, .int (atF L xs 0)), (2, .ref 42), (1, .float 1), (0, .ref 0)] [] (cH (w3G L xs k p).1 [bC (w3G L xs k p).2.2] (w3G L xs k p).2.1)) : ab_WA G mL_world X 269 [(6, .int (nI k)), (5, .int (nI (wsN L xs))), (3, .int (atF L xs 0)), (2, .ref 42), (1, .float 1), (0, .ref 0)] [] (cH p.1 [bC p.2.2] p.2.1) := by
  have hws := (ws_r L xs).1
  refine ab_iload hX dL_world_269 mm0 ?_
  refine ab_iload hX dL_world_271 mm1 ?_
  refine ab_icmpge (tgt := 431) hX dL_world_273 (by decide) (fun h_1 => (by have := (nI_leI (by omega) (by omega)).mp h_1; omega)) (fun h_1 => ?_)
  refine ab_aload_nS hX dL_world_276 mm4 ?_
  refine ab_bipush (v := 12) hX dL_world_277 (by decide) ?_
  refine ab_iload hX dL_world_279 mm0 ?_
  refine ab_iadd hX dL_world_281 ?_
  rw [show (12 : Int32) + nI k = nI (12 + k) from nI_add 12 k]
  refine ab_callS2r hX dL_world_282 ss_L_world_7 (cm_L_at (k := 12 + k) hG hsc hL (by omega)) (Nat.le_of_ble_eq_true rfl) ?_
  refine ab_istore hX dL_world_285 (by decide) rfl ?_
  refine ab_aload_n hX dL_world_287 mm4 ?_
  refine ab_bipush (v := 15) hX dL_world_288 (by decide) ?_
  refine ab_aload_n hX dL_world_290 mm4 ?_
  refine ab_iconst (v := 2) hX dL_world_291 (by decide) ?_
  refine ab_iald (i := 2) hX dL_world_292 cM_b rfl (by decide) (by decide) ?_
  refine ab_iadd hX dL_world_293 ?_
  refine ab_iload hX dL_world_294 mm0 ?_
  refine ab_callS1r hX dL_world_296 ss_L_world_26 (cm_L_saying hG) (Nat.le_of_ble_eq_true rfl) ?_
  refine ab_iast (i := (15 + tn (p.2.2 2))) hX dL_world_299 cM_b hix (by omega) (by decide) cM_s ?_
  obtain ⟨f1, hf1⟩ : ∃ f, f = w3B (atF L xs (12 + k)) p := ⟨_, rfl⟩
  have hf1_ : f1 1 = p.2.2 1 := by rw [hf1]; exact pk_un (by omega)
  have hf2 : f1 2 = p.2.2 2 := by rw [hf1]; exact pk_un (by omega)
  have hf3 : f1 3 = p.2.2 3 := by rw [hf1]; exact pk_un (by omega)
  have hfz : f1 (15 + tn (p.2.2 2)) = sayV (atF L xs (12 + k)) := by rw [hf1]; exact pk_us
  refine ab_hp (show _ = cH p.1 [bC f1] p.2.1 by rw [hf1]; rfl) ?_
  refine ab_aload_n hX dL_world_300 mm4 ?_
  refine ab_bipush (v := 15) hX dL_world_301 (by decide) ?_
  refine ab_aload_n hX dL_world_303 mm4 ?_
  refine ab_iconst (v := 2) hX dL_world_304 (by decide) ?_
  refine ab_iald (i := 2) hX dL_world_305 cM_b rfl (by decide) (by decide) ?_
  refine ab_iadd hX dL_world_306 ?_
  refine ab_iald (i := (15 + tn (p.2.2 2))) hX dL_world_307 cM_b (by rw [hf2]; exact hix) (by omega) (by decide) ?_
  refine ab_aload_n hX dL_world_308 mm4 ?_
  refine ab_iconst (v := 3) hX dL_world_309 (by decide) ?_
  refine ab_iald (i := 3) hX dL_world_310 cM_b rfl (by decide) (by decide) ?_
  rw [hfz, hf3]
  refine ab_callS2r hX dL_world_311 ss_L_world_29 (cm_L_holds hG) (Nat.le_of_ble_eq_true rfl) ?_
  have J327 : w3V (atF L xs (12 + k)) p = ((w3R (atF L xs (12 + k)) p).1, (w3R (atF L xs (12 + k)) p).2, w3C (atF L xs (12 + k)) p) → ab_WA G mL_world X 327 [(7, .int (atF L xs (12 + k))), (6, .int (nI k)), (5, .int (nI (wsN L xs))), (3, .int (atF L xs 0)), (2, .ref 42), (1, .float 1), (0, .ref 0)] [] (cH p.1 [bC f1] p.2.1) := by
    intro hE
    refine ab_aload_n hX dL_world_327 mm4 ?_
    refine ab_bipush (v := 25) hX dL_world_328 (by decide) ?_
    refine ab_aload_n hX dL_world_330 mm4 ?_
    refine ab_iconst (v := 2) hX dL_world_331 (by decide) ?_
    refine ab_iald (i := 2) hX dL_world_332 cM_b rfl (by decide) (by decide) ?_
    refine ab_iadd hX dL_world_333 ?_
    refine ab_iload hX dL_world_334 mm0 ?_
    refine ab_bipush (v := 17) hX dL_world_336 (by decide) ?_
    refine ab_ishr hX dL_world_338 ?_
    refine ab_aload_n hX dL_world_339 mm4 ?_
    refine ab_iconst (v := 1) hX dL_world_340 (by decide) ?_
    refine ab_iald (i := 1) hX dL_world_341 cM_b rfl (by decide) (by decide) ?_
    rw [hf1_]
    refine ab_callS2r hX dL_world_342 ss_L_world_13 (cm_L_some hG hNW) (Nat.le_of_ble_eq_true rfl) ?_
    refine ab_iast (i := (25 + tn (p.2.2 2))) hX dL_world_345 cM_b (by rw [hf2]; exact hix2) (by omega) (by decide) cM_s ?_
    obtain ⟨f2, hfg⟩ : ∃ f, f = upd f1 (25 + tn (p.2.2 2)) (w3W (atF L xs (12 + k)) p) := ⟨_, rfl⟩
    have hg2 : f2 2 = p.2.2 2 := by rw [hfg]; exact (pk_un (by omega)).trans hf2
    have hgz : f2 (15 + tn (p.2.2 2)) = sayV (atF L xs (12 + k)) := by rw [hfg]; exact (pk_un (by omega)).trans hfz
    have hgw : f2 (25 + tn (p.2.2 2)) = w3W (atF L xs (12 + k)) p := by rw [hfg]; exact pk_us
    refine ab_hp (show _ = cH p.1 [bC f2] p.2.1 by rw [hfg]; rfl) ?_
    refine ab_aload_n hX dL_world_346 mm6 ?_
    refine ab_iconst (v := 0) hX dL_world_347 (by decide) ?_
    refine ab_iconst (v := 1) hX dL_world_348 (by decide) ?_
    refine ab_aload_n hX dL_world_349 mm4 ?_
    refine ab_bipush (v := 15) hX dL_world_350 (by decide) ?_
    refine ab_aload_n hX dL_world_352 mm4 ?_
    refine ab_iconst (v := 2) hX dL_world_353 (by decide) ?_
    refine ab_iald (i := 2) hX dL_world_354 cM_b rfl (by decide) (by decide) ?_
    refine ab_iadd hX dL_world_355 ?_
    refine ab_iald (i := (15 + tn (p.2.2 2))) hX dL_world_356 cM_b (by rw [hg2]; exact hix) (by omega) (by decide) ?_
    rw [hgz]
    refine ab_sipush (v := 1000) hX dL_world_357 (by decide) ?_
    refine ab_idiv hX dL_world_360 (by decide) ?_
    refine ab_aload_n hX dL_world_361 mm4 ?_
    refine ab_bipush (v := 15) hX dL_world_362 (by decide) ?_
    refine ab_aload_n hX dL_world_364 mm4 ?_
    refine ab_iconst (v := 2) hX dL_world_365 (by decide) ?_
    refine ab_iald (i := 2) hX dL_world_366 cM_b rfl (by decide) (by decide) ?_
    refine ab_iadd hX dL_world_367 ?_
    refine ab_iald (i := (15 + tn (p.2.2 2))) hX dL_world_368 cM_b (by rw [hg2]; exact hix) (by omega) (by decide) ?_
    rw [hgz]
    refine ab_bipush (v := 100) hX dL_world_369 (by decide) ?_
    refine ab_idiv hX dL_world_371 (by decide) ?_
    refine ab_bipush (v := 10) hX dL_world_372 (by decide) ?_
    refine ab_irem hX dL_world_374 (by decide) ?_
    refine ab_callV4r hX dL_world_375 cg_x ss_L_world_33 (cm_X11_keep hG (M := [bC _]) rfl) (Nat.le_of_ble_eq_true rfl) ?_
    refine ab_pop hX dL_world_378 rfl ?_
    refine ab_aload_n hX dL_world_379 mm6 ?_
    refine ab_aload_n hX dL_world_380 mm4 ?_
    refine ab_bipush (v := 25) hX dL_world_381 (by decide) ?_
    refine ab_aload_n hX dL_world_383 mm4 ?_
    refine ab_iconst (v := 2) hX dL_world_384 (by decide) ?_
    refine ab_iald (i := 2) hX dL_world_385 cM_b rfl (by decide) (by decide) ?_
    refine ab_iadd hX dL_world_386 ?_
    refine ab_iald (i := (25 + tn (p.2.2 2))) hX dL_world_387 cM_b (by rw [hg2]; exact hix2) (by omega) (by decide) ?_
    rw [hgw]
    refine ab_iconst (v := 0) hX dL_world_388 (by decide) ?_
    refine ab_aload_n hX dL_world_389 mm4 ?_
    refine ab_bipush (v := 15) hX dL_world_390 (by decide) ?_
    refine ab_aload_n hX dL_world_392 mm4 ?_
    refine ab_iconst (v := 2) hX dL_world_393 (by decide) ?_
    refine ab_iald (i := 2) hX dL_world_394 cM_b rfl (by decide) (by decide) ?_
    refine ab_iadd hX dL_world_395 ?_
    refine ab_iald (i := (15 + tn (p.2.2 2))) hX dL_world_396 cM_b (by rw [hg2]; exact hix) (by omega) (by decide) ?_
    rw [hgz]
    refine ab_bipush (v := 10) hX dL_world_397 (by decide) ?_
    refine ab_idiv hX dL_world_399 (by decide) ?_
    refine ab_bipush (v := 10) hX dL_world_400 (by decide) ?_
    refine ab_irem hX dL_world_402 (by decide) ?_
    refine ab_aload_n hX dL_world_403 mm4 ?_
    refine ab_bipush (v := 15) hX dL_world_404 (by decide) ?_
    refine ab_aload_n hX dL_world_406 mm4 ?_
    refine ab_iconst (v := 2) hX dL_world_407 (by decide) ?_
    refine ab_iald (i := 2) hX dL_world_408 cM_b rfl (by decide) (by decide) ?_
    refine ab_iadd hX dL_world_409 ?_
    refine ab_iald (i := (15 + tn (p.2.2 2))) hX dL_world_410 cM_b (by rw [hg2]; exact hix) (by omega) (by decide) ?_
    rw [hgz]
    refine ab_bipush (v := 10) hX dL_world_411 (by decide) ?_
    refine ab_irem hX dL_world_413 (by decide) ?_
    refine ab_callV4r hX dL_world_414 cg_x ss_L_world_41 (cm_X11_says hG (M := [bC _]) rfl hPK.2.2.2.2.2.2.2.1 hPK.1) (Nat.le_of_ble_eq_true rfl) ?_
    rw [hQ1]
    refine ab_pop hX dL_world_417 rfl ?_
    refine ab_aload_n hX dL_world_418 mm4 ?_
    refine ab_iconst (v := 2) hX dL_world_419 (by decide) ?_
    refine ab_dup2 hX dL_world_420 rfl rfl ?_
    refine ab_iald (i := 2) hX dL_world_421 cM_b rfl (by decide) (by decide) ?_
    refine ab_iconst (v := 1) hX dL_world_422 (by decide) ?_
    rw [hg2]
    refine ab_iadd hX dL_world_423 ?_
    refine ab_iast (i := 2) hX dL_world_424 cM_b rfl (by decide) (by decide) cM_s ?_
    refine ab_iinc hX dL_world_425 mm1 rfl (by decide) rfl ?_
    refine ab_goto (tgt := 269) hX dL_world_428 (by decide) ?_
    exact ab_pm6 (mmv0 (congrArg Value.int (by exact (nI_1 _).symm))) mm2 mm3 mm4 mm5 mm6 (ab_hp (show cH (w3R (atF L xs (12 + k)) p).1 [bC (upd f2 2 (p.2.2 2 + 1))] (w3R (atF L xs (12 + k)) p).2 = _ by rw [hfg, hf1, show w3G L xs k p = _ from hE]; try rfl) kk)
  refine ab_ifeqB (tgt := 327) hX dL_world_314 (by decide) (fun h_1 => ?_) (fun h_1 => ?_)
  · exact J327 (by unfold w3V; rw [if_pos h_1])
  ·
    refine ab_iload hX dL_world_317 mm0 ?_
    refine ab_iconst (v := 3) hX dL_world_319 (by decide) ?_
    refine ab_iand hX dL_world_320 ?_
    refine ab_ifle (tgt := 327) hX dL_world_321 (by decide) (fun h_2 => ?_) (fun h_2 => ?_)
    · exact J327 (by unfold w3V; rw [if_neg (by rw [h_1]; exact Bool.noConfusion), if_neg (fun q => absurd h_2 (fa_of_lt q).2.1)])
    ·
      refine ab_goto (tgt := 425) hX dL_world_324 (by decide) ?_
      have hE : w3V (atF L xs (12 + k)) p = (p.1, p.2.1, w3B (atF L xs (12 + k)) p) := by unfold w3V; rw [if_neg (by rw [h_1]; exact Bool.noConfusion), if_pos (Int32.not_le.mp h_2)]
      refine ab_iinc hX dL_world_425 mm1 rfl (by decide) rfl ?_
      refine ab_goto (tgt := 269) hX dL_world_428 (by decide) ?_
      exact ab_pm6 (mmv0 (congrArg Value.int (by exact (nI_1 _).symm))) mm2 mm3 mm4 mm5 mm6 (ab_hp (by rw [hf1, show w3G L xs k p = _ from hE]; try rfl) kk)
theorem wl_De {G : ab_G} (hG : ab_GG G) {X : ab_X} (hX : ab_Good G mL_world X) {L : Nat} {xs : Nat → Int32} {p : WS} {h0 : List ab_E} (hF : ab_Fin G mL_world X none h0 (cH p.1 [bC p.2.2] p.2.1)) : ab_WA G mL_world X 269 [(6, .int (nI (wsN L xs))), (5, .int (nI (wsN L xs))), (3, .int (atF L xs 0)), (2, .ref 42), (1, .float 1), (0, .ref 0)] [] (cH p.1 [bC p.2.2] p.2.1) := by
  refine ab_iload hX dL_world_269 mm0 ?_
  refine ab_iload hX dL_world_271 mm1 ?_
  refine ab_icmpge (tgt := 431) hX dL_world_273 (by decide) (fun h_1 => ?_) (fun h_1 => (by exact absurd (Int32.le_refl _) h_1))
  exact ab_vreturn hX hF dL_world_431 rfl rfl rfl
/-! the loops of the world -/
section
variable {G : ab_G} {X : ab_X} {L : Nat} {xs : Nat → Int32}
theorem wl_1 (hG : ab_GG G) (hX : ab_Good G mL_world X) (hsc : va_X (G.2.2.1 1) L xs G.2.2.2.2.1 G.2.2.2.2.1.heap ∧ G.2.2.1 1 < G.2.1) (hL : L ≤ 260) {p0 : WS} (hI : ∀ w, w ≤ wnN L xs → WI (wnN L xs) w 0 0 (acc (w1G L xs) p0 w)) (kk : ab_WA G mL_world X 62 [(5, .int (nI (wnN L xs))), (4, .int (nI (wlN L xs))), (3, .int (atF L xs 0)), (2, .ref 42), (1, .float 1), (0, .ref 0)] [] (cH (acc (w1G L xs) p0 (wnN L xs)).1 [bC (acc (w1G L xs) p0 (wnN L xs)).2.2] (acc (w1G L xs) p0 (wnN L xs)).2.1)) :
    ∀ n w, w + n = wnN L xs → ab_WA G mL_world X 62 [(5, .int (nI w)), (4, .int (nI (wlN L xs))), (3, .int (atF L xs 0)), (2, .ref 42), (1, .float 1), (0, .ref 0)] [] (cH (acc (w1G L xs) p0 w).1 [bC (acc (w1G L xs) p0 w).2.2] (acc (w1G L xs) p0 w).2.1) := by
  intro n
  induction n with
  | zero => intro w hw; obtain rfl : w = wnN L xs := by omega
            exact kk
  | succ n ih =>
    intro w hw
    have hN := (wn_r L xs).1
    obtain ⟨Q, h1, h2, h3, h4, h5, h6, h7, h8, h9, h10⟩ := hI w (by omega)
    exact wl_B hG hX hsc hL h3 (by omega) (by omega) h1.2.1 (by omega) (ih (w + 1) (by omega))
theorem w2K_e {v : Int32} {p : WS} {Q : QT} {nw : Nat} (h : PI p.1 p.2.1 Q nw) : PI (w2K v p) p.2.1 Q nw := by
  obtain ⟨k, f, a, b, hk8, hf, ha, hb, e1, e2, -⟩ := say_k v
  have eK : w2K v p = hsP p.1 0 k (nI f) := by unfold w2K; rw [e1, e2]; exact (kp_e (d := 0) (by decide) hk8 hf).1
  rw [eK]
  exact PI_kp h (by decide) hk8
theorem ix_e {x : Int32} {n m : Nat} (h : x = nI n) (hn : n < 1000) : nI m + x = nI (m + tn x) := by
  rw [h, tn8 hn]
  exact nI_add m n
theorem wl_2 (hG : ab_GG G) (hX : ab_Good G mL_world X) (hsc : va_X (G.2.2.1 1) L xs G.2.2.2.2.1 G.2.2.2.2.1.heap ∧ G.2.2.1 1 < G.2.1) (hL : L ≤ 260) {p0 : WS} (hI : ∀ k, k ≤ wlN L xs → WI (wnN L xs) (wnN L xs) k 0 (acc (w2G L xs) p0 k)) (kk : ab_WA G mL_world X 115 [(5, .int (nI (wlN L xs))), (4, .int (nI (wlN L xs))), (3, .int (atF L xs 0)), (2, .ref 42), (1, .float 1), (0, .ref 0)] [] (cH (acc (w2G L xs) p0 (wlN L xs)).1 [bC (acc (w2G L xs) p0 (wlN L xs)).2.2] (acc (w2G L xs) p0 (wlN L xs)).2.1)) :
    ∀ n k, k + n = wlN L xs → ab_WA G mL_world X 115 [(5, .int (nI k)), (4, .int (nI (wlN L xs))), (3, .int (atF L xs 0)), (2, .ref 42), (1, .float 1), (0, .ref 0)] [] (cH (acc (w2G L xs) p0 k).1 [bC (acc (w2G L xs) p0 k).2.2] (acc (w2G L xs) p0 k).2.1) := by
  intro n
  induction n with
  | zero => intro k hk; obtain rfl : k = wlN L xs := by omega
            exact kk
  | succ n ih =>
    intro k hk
    have hN := (wl_r L xs).1
    obtain ⟨Q, h1, h2, h3, h4, h5, h6, h7, h8, h9, h10⟩ := hI k (by omega)
    have hz : tn ((acc (w2G L xs) p0 k).2.2 0) = (Q (2 * 0)).1 := by rw [h2]; exact tn8 (by omega)
    exact wl_C hG hX hsc hL (by omega) (by omega) (ix_e h2 (by omega)) (by omega) (w2K_e h1) hz.symm (ih (k + 1) (by omega))
theorem wl_3 (hG : ab_GG G) (hX : ab_Good G mL_world X) (hsc : va_X (G.2.2.1 1) L xs G.2.2.2.2.1 G.2.2.2.2.1.heap ∧ G.2.2.1 1 < G.2.1) (hL : L ≤ 260) {p0 : WS} (hI : ∀ k, k ≤ wsN L xs → WI (wnN L xs) (wnN L xs) (wlN L xs) k (acc (w3G L xs) p0 k)) (kk : ab_WA G mL_world X 269 [(6, .int (nI (wsN L xs))), (5, .int (nI (wsN L xs))), (3, .int (atF L xs 0)), (2, .ref 42), (1, .float 1), (0, .ref 0)] [] (cH (acc (w3G L xs) p0 (wsN L xs)).1 [bC (acc (w3G L xs) p0 (wsN L xs)).2.2] (acc (w3G L xs) p0 (wsN L xs)).2.1)) :
    ∀ n k, k + n = wsN L xs → ab_WA G mL_world X 269 [(6, .int (nI k)), (5, .int (nI (wsN L xs))), (3, .int (atF L xs 0)), (2, .ref 42), (1, .float 1), (0, .ref 0)] [] (cH (acc (w3G L xs) p0 k).1 [bC (acc (w3G L xs) p0 k).2.2] (acc (w3G L xs) p0 k).2.1) := by
  intro n
  induction n with
  | zero => intro k hk; obtain rfl : k = wsN L xs := by omega
            exact kk
  | succ n ih =>
    intro k hk
    have hN := (ws_r L xs).1
    have hN0 : ¬ wnN L xs = 0 := fun q => by have := (ws_r L xs).2.1 q; omega
    obtain ⟨Q, h1, h2, h3, h4, h5, h6, h7, h8, h9, h10⟩ := hI k (by omega)
    have hz : tn ((acc (w3G L xs) p0 k).2.2 2) = (Q (2 * 0 + 1)).1 := by rw [h4]; exact tn8 (by omega)
    have hw5 := (wn_r L xs).1
    exact wl_D hG hX hsc hL (by omega) (by omega) (ix_e h4 (by omega)) (ix_e h4 (by omega)) (by omega) (fun q => hN0 ((nI_eq (by omega) (by decide)).mp (h3.symm.trans (q.trans (show (0 : Int32) = nI 0 from rfl))))) (w2K_e h1) hz.symm (ih (k + 1) (by omega))
theorem wl_1x (hG : ab_GG G) (hX : ab_Good G mL_world X) (hsc : va_X (G.2.2.1 1) L xs G.2.2.2.2.1 G.2.2.2.2.1.heap ∧ G.2.2.1 1 < G.2.1) (hL : L ≤ 260) {p0 p1 : WS} (hI : ∀ w, w ≤ wnN L xs → WI (wnN L xs) w 0 0 (acc (w1G L xs) p0 w)) (e1 : p1 = acc (w1G L xs) p0 (wnN L xs)) (kk : ab_WA G mL_world X 62 [(5, .int (nI (wnN L xs))), (4, .int (nI (wlN L xs))), (3, .int (atF L xs 0)), (2, .ref 42), (1, .float 1), (0, .ref 0)] [] (cH p1.1 [bC p1.2.2] p1.2.1)) : ab_WA G mL_world X 62 [(5, .int (nI 0)), (4, .int (nI (wlN L xs))), (3, .int (atF L xs 0)), (2, .ref 42), (1, .float 1), (0, .ref 0)] [] (cH p0.1 [bC p0.2.2] p0.2.1) := by
  subst e1
  have z := wl_1 hG hX hsc hL hI kk (wnN L xs) 0 (by omega)
  rw [acc_0] at z
  exact z
theorem wl_2x (hG : ab_GG G) (hX : ab_Good G mL_world X) (hsc : va_X (G.2.2.1 1) L xs G.2.2.2.2.1 G.2.2.2.2.1.heap ∧ G.2.2.1 1 < G.2.1) (hL : L ≤ 260) {p0 p1 : WS} (hI : ∀ w, w ≤ wlN L xs → WI (wnN L xs) (wnN L xs) w 0 (acc (w2G L xs) p0 w)) (e1 : p1 = acc (w2G L xs) p0 (wlN L xs)) (kk : ab_WA G mL_world X 115 [(5, .int (nI (wlN L xs))), (4, .int (nI (wlN L xs))), (3, .int (atF L xs 0)), (2, .ref 42), (1, .float 1), (0, .ref 0)] [] (cH p1.1 [bC p1.2.2] p1.2.1)) : ab_WA G mL_world X 115 [(5, .int (nI 0)), (4, .int (nI (wlN L xs))), (3, .int (atF L xs 0)), (2, .ref 42), (1, .float 1), (0, .ref 0)] [] (cH p0.1 [bC p0.2.2] p0.2.1) := by
  subst e1
  have z := wl_2 hG hX hsc hL hI kk (wlN L xs) 0 (by omega)
  rw [acc_0] at z
  exact z
theorem wl_3x (hG : ab_GG G) (hX : ab_Good G mL_world X) (hsc : va_X (G.2.2.1 1) L xs G.2.2.2.2.1 G.2.2.2.2.1.heap ∧ G.2.2.1 1 < G.2.1) (hL : L ≤ 260) {p0 p1 : WS} (hI : ∀ w, w ≤ wsN L xs → WI (wnN L xs) (wnN L xs) (wlN L xs) w (acc (w3G L xs) p0 w)) (e1 : p1 = acc (w3G L xs) p0 (wsN L xs)) (kk : ab_WA G mL_world X 269 [(6, .int (nI (wsN L xs))), (5, .int (nI (wsN L xs))), (3, .int (atF L xs 0)), (2, .ref 42), (1, .float 1), (0, .ref 0)] [] (cH p1.1 [bC p1.2.2] p1.2.1)) : ab_WA G mL_world X 269 [(6, .int (nI 0)), (5, .int (nI (wsN L xs))), (3, .int (atF L xs 0)), (2, .ref 42), (1, .float 1), (0, .ref 0)] [] (cH p0.1 [bC p0.2.2] p0.2.1) := by
  subst e1
  have z := wl_3 hG hX hsc hL hI kk (wsN L xs) 0 (by omega)
  rw [acc_0] at z
  exact z
end
theorem cB_len {c e : CS} {f g : Nat → Int32} {D : List ab_E} : (cH c [bC f] []).length ≤ (cH e [bC g] D).length := by
  rw [cH_len, cH_len]
  show 42 + (1 + 0) ≤ 42 + (1 + D.length)
  omega
theorem cB_sz {c e : CS} {f g : Nat → Int32} {D : List ab_E} : ab_sz (cH c [bC f] []) ≤ ab_sz (cH e [bC g] D) := by
  have e1 : ∀ (c : CS) (f : Nat → Int32) (D : List ab_E), ab_sz (cH c [bC f] D) = ab_sz (cC c) + (35 + ab_sz D) := fun c f D => by
    unfold cH ab_sz
    rw [List.map_append, List.map_append, List.sum_append, List.sum_append]
    rfl
  rw [e1, e1, show ab_sz (cC e) = ab_sz (cC c) from rfl]
  show ab_sz (cC c) + (35 + 0) ≤ _
  omega
theorem cm_L_world {G : ab_G} (hG : ab_GG G) {L : Nat} {xs : Nat → Int32} (hsc : va_X (G.2.2.1 1) L xs G.2.2.2.2.1 G.2.2.2.2.1.heap ∧ G.2.2.1 1 < G.2.1) (hL : L ≤ 260) {c : CS} {Q : QT} (h : PI c [] Q 0) (h0 : (Q (2 * 0)).1 = 0) (h1 : (Q (2 * 0 + 1)).1 = 0) :
    ab_CM G mL_world [.ref 0, .float 1, .ref 42] (cH c [bC (fun _ => 0)] []) none (cH (w3S L xs c []).1 [bC (w3S L xs c []).2.2] (w3S L xs c []).2.1) := by
  have i1 := W1a (L := L) (xs := xs) h h0 h1 rfl
  have i2 := W2a (L := L) (xs := xs) h h0 h1 rfl
  have i3 := W3a (L := L) (xs := xs) h h0 h1 rfl
  obtain ⟨-, -, -, b1, -⟩ := i1 _ (Nat.le_refl _)
  obtain ⟨-, -, -, b2, -⟩ := i2 _ (Nat.le_refl _)
  have b1' : (w1S L xs c []).2.2 1 = nI (wnN L xs) := by unfold w1S; exact b1
  have b2' : (w2S L xs c []).2.2 1 = nI (wnN L xs) := by unfold w2S; exact b2
  refine ab_meth (l0 := [(0, .ref 0), (1, .float 1), (2, .ref 42)]) hG (by decide +kernel) rfl (Nat.le_of_ble_eq_true rfl) cB_len cB_sz (fun X hX hF => ?_)
  refine wl_A hG hX hsc hL (wl_1x hG hX hsc hL i1 (p1 := w1S L xs c []) (by unfold w1S; rfl) (wl_Be hG hX b1' ?_))
  refine wl_2x hG hX hsc hL i2 (p1 := w2S L xs c []) (by unfold w2S; rfl) (wl_Ce hG hX b2' ?_)
  exact wl_3x hG hX hsc hL i3 (p1 := w3S L xs c []) (by unfold w3S; rfl) (wl_De hG hX hF)
