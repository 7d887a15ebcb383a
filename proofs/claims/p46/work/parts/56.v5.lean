/-! the law: sayings up to ten; the end -/
def LK (c0 : CS) (Q0 : QT) (nw T m k : Nat) (c : CS) (D : List ab_E) (Q : QT) : Prop := PI c D Q nw ∧ c.1 (20 + 0) = nI T ∧ KP c Q (Q0 (2 * 0)) (Q0 (2 * 0 + 1)) nw (nI T) (c0.2.1 0) ∧ (Q (2 * 0 + 1)).1 = (Q0 (2 * 0 + 1)).1 + k ∧ RX c ∧ (∃ k1 g, k1 < 8 ∧ g < 10 ∧ shS c 1 k1 g) ∧ (Q (2 * 0)).1 = (Q0 (2 * 0)).1 ∧ SZ (m + k) D
def LX (c0 : CS) (Q0 : QT) (nw T nv m : Nat) (c : CS) (D : List ab_E) (Q : QT) : Prop := PI c D Q nv ∧ KP c Q (Q0 (2 * 0)) (Q0 (2 * 0 + 1)) nw (nI T) (c0.2.1 0) ∧ RX c ∧ (∃ k1 g, k1 < 8 ∧ g < 10 ∧ shS c 1 k1 g) ∧ SZ m D
theorem km5 : ∀ k, k < 11 → (23 : Int32) + (nI k - nI k / 5 * 5) = nI (23 + k % 5) := by decide
theorem lk_0 {c0 c : CS} {D : List ab_E} {Q0 Q : QT} {nw T m : Nat} {f : Nat → Int32} (hb0 : LB c0 Q0 nw T f) (hV : LV c0 Q0 nw T m c D Q) (hs : ∃ k, k < 8 ∧ shS c 1 k 0) (hx : RX c) : LK c0 Q0 nw T m 0 c D Q := by
  obtain ⟨k, k1, k2⟩ := hs
  exact ⟨hV.1, hV.2.1.1.trans hb0.2.2.2.2.2.1, hV.2.2.1, by rw [hV.2.1.2.2.2]; rfl, hx, ⟨k, 0, k1, by decide, k2⟩, by rw [hV.2.1.2.2.1], hV.2.2.2⟩
theorem v_10a {G : ab_G} {nm : String} {X : ab_X} {L : Nat} {xs : Nat → Int32} (hS : ab_GS L xs G) (hX : ab_Good G (mLW nm) X) {pre : List ab_E} {c0 : CS} {D0 : List ab_E} {Q0 : QT} {nw T m : Nat} {f : Nat → Int32} (hP0 : PI c0 D0 Q0 nw) {c : CS} {D : List ab_E} {Q : QT} (hb0 : LB c0 Q0 nw T f) (hP : PI c D Q nw) (kk :  ab_WA G (mLW nm) X 1029 [(13, .int (nI 0)), (12, .int (nI ((Q0 (2 * 0 + 1)).1 + 0))), (11, .int (lbc (lfT (Q (2 * 0)).2 (Q (2 * 0)).1 (Q (2 * 0 + 1)).2 (Q (2 * 0 + 1)).1))), (3, .long (toF c0 Q0 nw)), (2, .ref (pre.length + 42)), (1, .ref (pre.length + 0)), (0, .float 1)] [] (LH pre c f D)) : ab_WA G (mLW nm) X 1014 [(3, .long (toF c0 Q0 nw)), (2, .ref (pre.length + 42)), (1, .ref (pre.length + 0)), (0, .float 1)] [] (LH pre c f D) := by
  have hb0_ := hb0.1
  have hb1 := hb0.2.1
  have hb2 := hb0.2.2.1
  have hb3 := hb0.2.2.2.1
  have hT6 := hb0.2.2.2.2.1
  have h5 := hP0.2.2.1
  have hn0 := (hP0.1.1 (2 * 0 + 1) (by decide)).2.1
  refine ab_aload_n hX dL_law_1014 mm2 ?_
  refine ab_iconst (v := 1) hX dL_law_1015 (by decide) ?_
  refine ab_callV1r hX dL_law_1016 LH_x ss_L_law_79 (LC1i (pre := pre) hS (fun G' g => cm_X11_many g.1 (M := [bC _]) rfl (hP.1.1 (2 * 0) (by decide)) (hP.1.1 (2 * 0 + 1) (by decide)))) (Nat.le_of_ble_eq_true rfl) ?_
  rw [many_1]
  refine ab_istore hX dL_law_1019 (show 11 < 15 by decide) rfl ?_
  refine ab_aload_n hX dL_law_1021 mm2 ?_
  refine ab_iconst (v := 2) hX dL_law_1022 (by decide) ?_
  refine ab_iald (i := 2) hX dL_law_1023 LH_b rfl (by decide) (by decide) ?_
  rw [hb2]
  refine ab_istore hX dL_law_1024 (show 12 < 15 by decide) rfl ?_
  refine ab_iconst (v := 0) hX dL_law_1026 (by decide) ?_
  refine ab_istore hX dL_law_1027 (show 13 < 15 by decide) rfl ?_
  exact ab_pm7 mm0 mm1 mm2 mm3 mm4 mm5 mm6 kk
theorem v_10s {G : ab_G} {nm : String} {X : ab_X} {L : Nat} {xs : Nat → Int32} (hS : ab_GS L xs G) (hX : ab_Good G (mLW nm) X) {pre : List ab_E} {c0 : CS} {D0 : List ab_E} {Q0 : QT} {nw T m : Nat} {f : Nat → Int32} (hP0 : PI c0 D0 Q0 nw) {c : CS} {D : List ab_E} {Q : QT} {k : Nat} (hL : L ≤ 260) (hb0 : LB c0 Q0 nw T f) (hK : LK c0 Q0 nw T m k c D Q) (hk : k < 10 - (Q0 (2 * 0 + 1)).1) (h0 : 0 < nw) (kk : ∀ (c : CS) (D : List ab_E) (Q : QT), LK c0 Q0 nw T m (k + 1) c D Q → ab_WA G (mLW nm) X 1029 [(13, .int (nI (k + 1))), (12, .int (nI ((Q0 (2 * 0 + 1)).1 + (k + 1)))), (11, .int (lbc (lfT (Q (2 * 0)).2 (Q (2 * 0)).1 (Q (2 * 0 + 1)).2 (Q (2 * 0 + 1)).1))), (3, .long (toF c0 Q0 nw)), (2, .ref (pre.length + 42)), (1, .ref (pre.length + 0)), (0, .float 1)] [] (LH pre c f D)) : ab_WA G (mLW nm) X 1029 [(13, .int (nI k)), (12, .int (nI ((Q0 (2 * 0 + 1)).1 + k))), (11, .int (lbc (lfT (Q (2 * 0)).2 (Q (2 * 0)).1 (Q (2 * 0 + 1)).2 (Q (2 * 0 + 1)).1))), (3, .long (toF c0 Q0 nw)), (2, .ref (pre.length + 42)), (1, .ref (pre.length + 0)), (0, .float 1)] [] (LH pre c f D) := by
  have hb0_ := hb0.1
  have hb1 := hb0.2.1
  have hb2 := hb0.2.2.1
  have hb3 := hb0.2.2.2.1
  have hT6 := hb0.2.2.2.2.1
  have h5 := hP0.2.2.1
  have hn0 := (hP0.1.1 (2 * 0 + 1) (by decide)).2.1
  obtain ⟨hP, hT, hK, hns, hx, hs, hnl, hz⟩ := hK
  obtain ⟨k1, g, a, b, hk8, hg, ha, hbb, e1, e2, e3, e4, e5⟩ := say_k (atF L xs (23 + k % 5) >>> (nI k &&& 31))
  have hP1 := PI_kp (f := nI g) hP (d := 1) (by decide) hk8
  have hs1 : shS (hsP c 1 k1 (nI g)) 1 k1 g := hs_S
  obtain ⟨c2, D2, Q2, y1, y2, p2, y3, y4, y5, y6, y7, yq, y10⟩ := sy_f hP1 hz h0 hk8 hg hs1 ha hbb (by omega)
  have hF2 : lfT (Q2 (2 * 0)).2 (Q2 (2 * 0)).1 (Q2 (2 * 0 + 1)).2 (Q2 (2 * 0 + 1)).1 = (lfT (Q (2 * 0)).2 (Q (2 * 0)).1 (Q (2 * 0 + 1)).2 (Q (2 * 0 + 1)).1) &&& (wY (nI 0, k1, g, a, b) ^^^ (-1)) := by rw [y4, y5]; exact lf_s (by omega) y6 y7
  have hT2 : c2.1 (20 + 0) = nI T := (y3.1 _ (Or.inl (by decide))).trans ((hs_1 (by decide) (by decide)).trans hT)
  have hho : hoV (sayV (atF L xs (23 + k % 5) >>> (nI k &&& 31))) (nI T) = wb (wY (nI 0, k1, g, a, b)) T := e5 T hT6
  have hK2 : LK c0 Q0 nw T m (k + 1) c2 D2 Q2 := ⟨p2, hT2, KP_fs (KP_hs hK) y3 (yq _ (by decide)) (yq _ (by decide)), by rw [y5]; omega, RX_fs (RX_hs hx) y3, ⟨k1, g, hk8, hg, shS_fs y3 hs1⟩, by rw [y4]; exact hnl, y10⟩
  refine ab_iload hX dL_law_1029 mm0 ?_
  refine ab_bipush (v := 10) hX dL_law_1031 (by decide) ?_
  refine ab_aload_n hX dL_law_1033 mm4 ?_
  refine ab_iconst (v := 2) hX dL_law_1034 (by decide) ?_
  refine ab_iald (i := 2) hX dL_law_1035 LH_b rfl (by decide) (by decide) ?_
  refine ab_isub hX dL_law_1036 ?_
  rw [hb2, show (10 : Int32) - nI (Q0 (2 * 0 + 1)).1 = nI (10 - (Q0 (2 * 0 + 1)).1) from nI_sub (a := 10) hn0 (by decide)]
  refine ab_icmpge (tgt := 1172) hX dL_law_1037 (by decide) (fun h_1 => (by have := (nI_leI (by omega) (by omega)).mp h_1; omega)) (fun h_1 => ?_)
  refine ab_aload_n hX dL_law_1040 mm4 ?_
  refine ab_iconst (v := 1) hX dL_law_1041 (by decide) ?_
  refine ab_iald (i := 1) hX dL_law_1042 LH_b rfl (by decide) (by decide) ?_
  refine ab_ifle (tgt := 1172) hX dL_law_1043 (by decide) (fun h_2 => (by rw [hb1] at h_2; have := (nI_leI (b := 0) (by omega) (by omega)).mp h_2; omega)) (fun h_2 => ?_)
  refine ab_aload_nS hX dL_law_1046 mm6 ?_
  refine ab_bipush (v := 23) hX dL_law_1047 (by decide) ?_
  refine ab_iload hX dL_law_1049 mm0 ?_
  refine ab_iconst (v := 5) hX dL_law_1051 (by decide) ?_
  refine ab_irem hX dL_law_1052 (by decide) ?_
  refine ab_iadd hX dL_law_1053 ?_
  rw [km5 k (by omega)]
  refine ab_callS2r hX dL_law_1054 ss_L_law_7 (cm_L_at (k := 23 + k % 5) hS.1 hS.2 hL (by omega)) (Nat.le_of_ble_eq_true rfl) ?_
  refine ab_iload hX dL_law_1057 mm0 ?_
  refine ab_ishr hX dL_law_1059 ?_
  refine ab_callS1r hX dL_law_1060 ss_L_law_26 (cm_L_saying hS.1) (Nat.le_of_ble_eq_true rfl) ?_
  refine ab_istore hX dL_law_1063 (show 14 < 15 by decide) rfl ?_
  refine ab_aload_n hX dL_law_1065 mm6 ?_
  refine ab_iconst (v := 1) hX dL_law_1066 (by decide) ?_
  refine ab_iconst (v := 1) hX dL_law_1067 (by decide) ?_
  refine ab_iload hX dL_law_1068 mm0 ?_
  refine ab_sipush (v := 1000) hX dL_law_1070 (by decide) ?_
  refine ab_idiv hX dL_law_1073 (by decide) ?_
  refine ab_iload hX dL_law_1074 mm0 ?_
  refine ab_bipush (v := 100) hX dL_law_1076 (by decide) ?_
  refine ab_idiv hX dL_law_1078 (by decide) ?_
  refine ab_bipush (v := 10) hX dL_law_1079 (by decide) ?_
  refine ab_irem hX dL_law_1081 (by decide) ?_
  rw [show sayV (atF L xs (23 + k % 5) >>> (nI k &&& 31)) / 1000 = nI k1 from e1, show sayV (atF L xs (23 + k % 5) >>> (nI k &&& 31)) / 100 - sayV (atF L xs (23 + k % 5) >>> (nI k &&& 31)) / 100 / 10 * 10 = nI g from e2]
  refine ab_callV4r hX dL_law_1082 LH_x ss_L_law_33 (LC4i (pre := pre) hS (fun G' g => cm_X11_keep g.1 (M := [bC _]) rfl )) (Nat.le_of_ble_eq_true rfl) ?_
  rw [show kepR 1 1 (nI k1) (nI g) = 0 from (kp_e (c := c) (d := 1) (by decide) hk8 hg).2, show kepP c 1 1 (nI k1) (nI g) = hsP c 1 k1 (nI g) from (kp_e (d := 1) (by decide) hk8 hg).1]
  refine ab_ifne (tgt := 1125) hX dL_law_1085 (by decide) (fun h_3 => (by exact absurd (show (0 : Int32) = 0 by decide) h_3)) (fun h_3 => ?_)
  refine ab_aload_n hX dL_law_1088 mm6 ?_
  refine ab_iconst (v := 0) hX dL_law_1089 (by decide) ?_
  refine ab_iconst (v := 1) hX dL_law_1090 (by decide) ?_
  refine ab_iload hX dL_law_1091 mm0 ?_
  refine ab_bipush (v := 10) hX dL_law_1093 (by decide) ?_
  refine ab_idiv hX dL_law_1095 (by decide) ?_
  refine ab_bipush (v := 10) hX dL_law_1096 (by decide) ?_
  refine ab_irem hX dL_law_1098 (by decide) ?_
  refine ab_iload hX dL_law_1099 mm0 ?_
  refine ab_bipush (v := 10) hX dL_law_1101 (by decide) ?_
  refine ab_irem hX dL_law_1103 (by decide) ?_
  rw [show sayV (atF L xs (23 + k % 5) >>> (nI k &&& 31)) / 10 - sayV (atF L xs (23 + k % 5) >>> (nI k &&& 31)) / 10 / 10 * 10 = nI a from e3, show sayV (atF L xs (23 + k % 5) >>> (nI k &&& 31)) - sayV (atF L xs (23 + k % 5) >>> (nI k &&& 31)) / 10 * 10 = nI b from e4]
  refine ab_callV4r hX dL_law_1104 LH_x ss_L_law_41 (LC4i (pre := pre) hS (fun G' g => cm_X11_says g.1 (M := [bC _]) rfl hP1.2.2.2.2.2.2.2.1 hP1.1)) (Nat.le_of_ble_eq_true rfl) ?_
  rw [show sayR (hsP c 1 k1 (nI g)) (Q (2 * 0 + 1)).1 0 1 (nI a) (nI b) = nI (Q (2 * 0 + 1)).1 from y2, show sayP (hsP c 1 k1 (nI g)) D (Q (2 * 0 + 1)).1 0 1 (nI a) (nI b) = (c2, D2) from y1]
  refine ab_hp (show _ = LH pre c2 f D2 from rfl) ?_
  refine ab_iload hX dL_law_1107 mm2 ?_
  refine ab_iinc hX dL_law_1109 mm2 rfl (show 12 < 15 by decide) rfl ?_
  refine ab_icmpne (tgt := 1125) hX dL_law_1112 (by decide) (fun h_4 => (by exact absurd (congrArg nI hns) h_4)) (fun h_4 => ?_)
  refine ab_aload_n hX dL_law_1115 mm6 ?_
  refine ab_iconst (v := 1) hX dL_law_1116 (by decide) ?_
  refine ab_callV1r hX dL_law_1117 LH_x ss_L_law_79 (LC1i (pre := pre) hS (fun G' g => cm_X11_many g.1 (M := [bC _]) rfl (p2.1.1 (2 * 0) (by decide)) (p2.1.1 (2 * 0 + 1) (by decide)))) (Nat.le_of_ble_eq_true rfl) ?_
  rw [many_1, hF2]
  refine ab_iload hX dL_law_1120 mm3 ?_
  refine ab_icmple (tgt := 1127) hX dL_law_1122 (by decide) (fun h_5 => ?_) (fun h_5 => (by exact absurd (lbc_and _ _) h_5))
  refine ab_iload hX dL_law_1127 mm1 ?_
  refine ab_aload_n hX dL_law_1129 mm5 ?_
  refine ab_iconst (v := 3) hX dL_law_1130 (by decide) ?_
  refine ab_iald (i := 3) hX dL_law_1131 LH_b rfl (by decide) (by decide) ?_
  rw [hb3]
  refine ab_callS2r hX dL_law_1132 ss_L_law_29 (cm_L_holds hS.1) (Nat.le_of_ble_eq_true rfl) ?_
  rw [hho]
  refine ab_aload_n hX dL_law_1135 mm6 ?_
  refine ab_iload hX dL_law_1136 mm0 ?_
  refine ab_iconst (v := 1) hX dL_law_1138 (by decide) ?_
  refine ab_isub hX dL_law_1139 ?_
  refine ab_bipush (v := 7) hX dL_law_1140 (by decide) ?_
  rw [show nI ((Q0 (2 * 0 + 1)).1 + k) + Int32.ofInt 1 - 1 = nI (Q (2 * 0 + 1)).1 from ((congrArg (fun z : Int32 => z - 1) (nI_1 ((Q0 (2 * 0 + 1)).1 + k))).trans (nI_pred _)).trans (congrArg nI hns.symm)]
  refine ab_callV2r hX dL_law_1142 LH_x ss_L_law_54 (LC2i (pre := pre) hS (fun G' g => cm_X11_said g.1 (M := [bC _]) rfl (p2.1.1 (2 * 0 + 1) (by decide)))) (Nat.le_of_ble_eq_true rfl) ?_
  rw [sd_7 (ns := (Q (2 * 0 + 1)).1 + 1) (by rw [← y5]; exact (p2.1.1 (2 * 0 + 1) (by decide)).1) (by omega) (by omega) hT2 hT6, y7]
  refine ab_iconst (v := 1) hX dL_law_1145 (by decide) ?_
  have J1159 : ab_WA G (mLW nm) X 1159 [(14, .int (sayV (atF L xs (23 + k % 5) >>> (nI k &&& 31)))), (13, .int (nI k)), (12, .int (nI ((Q0 (2 * 0 + 1)).1 + k + 1))), (11, .int (lbc (lfT (Q (2 * 0)).2 (Q (2 * 0)).1 (Q (2 * 0 + 1)).2 (Q (2 * 0 + 1)).1))), (3, .long (toF c0 Q0 nw)), (2, .ref (pre.length + 42)), (1, .ref (pre.length + 0)), (0, .float 1)] [] (LH pre c2 f D2) := by
    refine ab_aload_n hX dL_law_1159 mm6 ?_
    refine ab_iconst (v := 1) hX dL_law_1160 (by decide) ?_
    refine ab_callV1r hX dL_law_1161 LH_x ss_L_law_79 (LC1i (pre := pre) hS (fun G' g => cm_X11_many g.1 (M := [bC _]) rfl (p2.1.1 (2 * 0) (by decide)) (p2.1.1 (2 * 0 + 1) (by decide)))) (Nat.le_of_ble_eq_true rfl) ?_
    rw [many_1]
    refine ab_istore hX dL_law_1164 (show 11 < 15 by decide) rfl ?_
    refine ab_iinc hX dL_law_1166 mm2 rfl (show 13 < 15 by decide) rfl ?_
    refine ab_goto (tgt := 1029) hX dL_law_1169 (by decide) ?_
    exact ab_pm7 (mmv0 (congrArg Value.int (by exact (nI_1 _).symm))) mm3 mm1 mm4 mm5 mm6 mm7 (kk _ _ _ hK2)
  refine ab_icmpne (tgt := 1153) hX dL_law_1146 (by decide) (fun h_6 => ?_) (fun h_6 => ?_)
  ·
    refine ab_iconst (v := 0) hX dL_law_1153 (by decide) ?_
    refine ab_icmpeq (tgt := 1159) hX dL_law_1154 (by decide) (fun h_7 => ?_) (fun h_7 => (by first | exact absurd (by assumption) h_7 | exact absurd (bi_n1 (by assumption)) h_7))
    exact ab_pm8 mm1 mm2 (mmv0 (congrArg Value.int (by exact (nI_1 _).symm))) mm3 mm4 mm5 mm6 mm7 J1159
  ·
    refine ab_iconst (v := 1) hX dL_law_1149 (by decide) ?_
    refine ab_goto (tgt := 1154) hX dL_law_1150 (by decide) ?_
    refine ab_icmpeq (tgt := 1159) hX dL_law_1154 (by decide) (fun h_8 => ?_) (fun h_8 => (by first | exact absurd (by assumption) h_8 | exact absurd (bi_n1 (by assumption)) h_8))
    exact ab_pm8 mm1 mm2 (mmv0 (congrArg Value.int (by exact (nI_1 _).symm))) mm3 mm4 mm5 mm6 mm7 J1159
theorem v_10e {G : ab_G} {nm : String} {X : ab_X} {L : Nat} {xs : Nat → Int32} (hS : ab_GS L xs G) (hX : ab_Good G (mLW nm) X) {pre : List ab_E} {c0 : CS} {D0 : List ab_E} {Q0 : QT} {nw T m : Nat} {f : Nat → Int32} (hP0 : PI c0 D0 Q0 nw) {c : CS} {D : List ab_E} {Q : QT} (hb0 : LB c0 Q0 nw T f) (kk :  ab_WA G (mLW nm) X 1172 [(3, .long (toF c0 Q0 nw)), (2, .ref (pre.length + 42)), (1, .ref (pre.length + 0)), (0, .float 1)] [] (LH pre c f D)) : ab_WA G (mLW nm) X 1029 [(13, .int (nI (10 - (Q0 (2 * 0 + 1)).1))), (12, .int (nI ((Q0 (2 * 0 + 1)).1 + (10 - (Q0 (2 * 0 + 1)).1)))), (11, .int (lbc (lfT (Q (2 * 0)).2 (Q (2 * 0)).1 (Q (2 * 0 + 1)).2 (Q (2 * 0 + 1)).1))), (3, .long (toF c0 Q0 nw)), (2, .ref (pre.length + 42)), (1, .ref (pre.length + 0)), (0, .float 1)] [] (LH pre c f D) := by
  have hb0_ := hb0.1
  have hb1 := hb0.2.1
  have hb2 := hb0.2.2.1
  have hb3 := hb0.2.2.2.1
  have hT6 := hb0.2.2.2.2.1
  have h5 := hP0.2.2.1
  have hn0 := (hP0.1.1 (2 * 0 + 1) (by decide)).2.1
  refine ab_iload hX dL_law_1029 mm0 ?_
  refine ab_bipush (v := 10) hX dL_law_1031 (by decide) ?_
  refine ab_aload_n hX dL_law_1033 mm4 ?_
  refine ab_iconst (v := 2) hX dL_law_1034 (by decide) ?_
  refine ab_iald (i := 2) hX dL_law_1035 LH_b rfl (by decide) (by decide) ?_
  refine ab_isub hX dL_law_1036 ?_
  rw [hb2, show (10 : Int32) - nI (Q0 (2 * 0 + 1)).1 = nI (10 - (Q0 (2 * 0 + 1)).1) from nI_sub (a := 10) hn0 (by decide)]
  refine ab_icmpge (tgt := 1172) hX dL_law_1037 (by decide) (fun h_1 => ?_) (fun h_1 => (by exact absurd (Int32.le_refl _) h_1))
  exact ab_pm4 mm3 mm4 mm5 mm6 kk
theorem v_10w {G : ab_G} {nm : String} {X : ab_X} {L : Nat} {xs : Nat → Int32} (hS : ab_GS L xs G) (hX : ab_Good G (mLW nm) X) {pre : List ab_E} {c0 : CS} {D0 : List ab_E} {Q0 : QT} {nw T m : Nat} {f : Nat → Int32} (hP0 : PI c0 D0 Q0 nw) {c : CS} {D : List ab_E} {Q : QT} (h0 : nw = 0) (hb0 : LB c0 Q0 nw T f) (kk :  ab_WA G (mLW nm) X 1172 [(3, .long (toF c0 Q0 nw)), (2, .ref (pre.length + 42)), (1, .ref (pre.length + 0)), (0, .float 1)] [] (LH pre c f D)) : ab_WA G (mLW nm) X 1029 [(13, .int (nI 0)), (12, .int (nI ((Q0 (2 * 0 + 1)).1 + 0))), (11, .int (lbc (lfT (Q (2 * 0)).2 (Q (2 * 0)).1 (Q (2 * 0 + 1)).2 (Q (2 * 0 + 1)).1))), (3, .long (toF c0 Q0 nw)), (2, .ref (pre.length + 42)), (1, .ref (pre.length + 0)), (0, .float 1)] [] (LH pre c f D) := by
  have hb0_ := hb0.1
  have hb1 := hb0.2.1
  have hb2 := hb0.2.2.1
  have hb3 := hb0.2.2.2.1
  have hT6 := hb0.2.2.2.2.1
  have h5 := hP0.2.2.1
  have hn0 := (hP0.1.1 (2 * 0 + 1) (by decide)).2.1
  refine ab_iload hX dL_law_1029 mm0 ?_
  refine ab_bipush (v := 10) hX dL_law_1031 (by decide) ?_
  refine ab_aload_n hX dL_law_1033 mm4 ?_
  refine ab_iconst (v := 2) hX dL_law_1034 (by decide) ?_
  refine ab_iald (i := 2) hX dL_law_1035 LH_b rfl (by decide) (by decide) ?_
  refine ab_isub hX dL_law_1036 ?_
  rw [hb2, show (10 : Int32) - nI (Q0 (2 * 0 + 1)).1 = nI (10 - (Q0 (2 * 0 + 1)).1) from nI_sub (a := 10) hn0 (by decide)]
  refine ab_icmpge (tgt := 1172) hX dL_law_1037 (by decide) (fun h_1 => ?_) (fun h_1 => ?_)
  ·
    exact ab_pm4 mm3 mm4 mm5 mm6 kk
  ·
    refine ab_aload_n hX dL_law_1040 mm4 ?_
    refine ab_iconst (v := 1) hX dL_law_1041 (by decide) ?_
    refine ab_iald (i := 1) hX dL_law_1042 LH_b rfl (by decide) (by decide) ?_
    refine ab_ifle (tgt := 1172) hX dL_law_1043 (by decide) (fun h_2 => ?_) (fun h_2 => (by exact absurd (by rw [hb1, h0]; exact Int32.le_refl _) h_2))
    exact ab_pm4 mm3 mm4 mm5 mm6 kk
theorem v_11 {G : ab_G} {nm : String} {X : ab_X} {L : Nat} {xs : Nat → Int32} (hS : ab_GS L xs G) (hX : ab_Good G (mLW nm) X) {pre : List ab_E} {c0 : CS} {D0 : List ab_E} {Q0 : QT} {nw T m : Nat} {f : Nat → Int32} (hP0 : PI c0 D0 Q0 nw) {c : CS} {D : List ab_E} {Q : QT} (hb0 : LB c0 Q0 nw T f) (hX0 : LX c0 Q0 nw T nw m c D Q) (hn : nw = 0 ∨ (Q (2 * 0 + 1)).1 = 10) (kk : ∀ (D : List ab_E), LX c0 Q0 nw T nw (m + 1) c D Q → ab_WA G (mLW nm) X 1193 [(3, .long (toF c0 Q0 nw)), (2, .ref (pre.length + 42)), (1, .ref (pre.length + 0)), (0, .float 1)] [] (LH pre c f D)) : ab_WA G (mLW nm) X 1172 [(3, .long (toF c0 Q0 nw)), (2, .ref (pre.length + 42)), (1, .ref (pre.length + 0)), (0, .float 1)] [] (LH pre c f D) := by
  have hb0_ := hb0.1
  have hb1 := hb0.2.1
  have hb2 := hb0.2.2.1
  have hb3 := hb0.2.2.2.1
  have hT6 := hb0.2.2.2.2.1
  have h5 := hP0.2.2.1
  have hn0 := (hP0.1.1 (2 * 0 + 1) (by decide)).2.1
  obtain ⟨hP, hK, hx, ⟨k1, g, hk8, hg, hs⟩, hz⟩ := hX0
  refine ab_aload_n hX dL_law_1172 mm1 ?_
  refine ab_iconst (v := 1) hX dL_law_1173 (by decide) ?_
  refine ab_iald (i := 1) hX dL_law_1174 LH_b rfl (by decide) (by decide) ?_
  refine ab_ifle (tgt := 1193) hX dL_law_1175 (by decide) (fun h_1 => ?_) (fun h_1 => ?_)
  ·
    have hw0 : nw = 0 := by
      rw [hb1] at h_1
      have := (nI_leI (b := 0) (by omega) (by decide)).mp h_1
      omega
    exact ab_pm4 mm0 mm1 mm2 mm3 (kk D ⟨hP, hK, hx, ⟨k1, g, hk8, hg, hs⟩, SZ_le hz (by omega)⟩)
  ·
    have h0 : 0 < nw := by
      rcases Nat.eq_zero_or_pos nw with q | q
      · exact absurd (by rw [hb1, q]; exact Int32.le_refl _) h_1
      · exact q
    have h10 : (Q (2 * 0 + 1)).1 = 10 := hn.resolve_left (by omega)
    obtain ⟨t1, t2, t3⟩ := sa_10 hP h0 (d := 1) (by decide) hk8 hs (a := 0) (b := 0) (by decide) (by decide) h10
    have hz2 := SZ_up hz (up_say hP.1 (ns := (Q (2 * 0 + 1)).1) (w := nI 0) (d := nI 1) (a := nI 0) (b := nI 0))
    refine ab_aload_n hX dL_law_1178 mm2 ?_
    refine ab_iconst (v := 0) hX dL_law_1179 (by decide) ?_
    refine ab_iconst (v := 1) hX dL_law_1180 (by decide) ?_
    refine ab_iconst (v := 0) hX dL_law_1181 (by decide) ?_
    refine ab_iconst (v := 0) hX dL_law_1182 (by decide) ?_
    refine ab_callV4r hX dL_law_1183 LH_x ss_L_law_41 (LC4i (pre := pre) hS (fun G' g => cm_X11_says g.1 (M := [bC _]) rfl hP.2.2.2.2.2.2.2.1 hP.1)) (Nat.le_of_ble_eq_true rfl) ?_
    rw [show sayR c (Q (2 * 0 + 1)).1 0 1 0 0 = -2 from t1]
    refine ab_hp (show _ = LH pre c f (sayP c D (Q (2 * 0 + 1)).1 0 1 0 0).2 from congrArg (fun z => LH pre z f (sayP c D (Q (2 * 0 + 1)).1 0 1 0 0).2) t2) ?_
    refine ab_bipush (v := (-2)) hX dL_law_1186 (by decide) ?_
    refine ab_icmpeq (tgt := 1193) hX dL_law_1188 (by decide) (fun h_2 => ?_) (fun h_2 => (by exact absurd rfl h_2))
    exact ab_pm4 mm0 mm1 mm2 mm3 (kk _ ⟨t3, hK, hx, ⟨k1, g, hk8, hg, hs⟩, hz2⟩)
theorem v_12 {G : ab_G} {nm : String} {X : ab_X} {L : Nat} {xs : Nat → Int32} (hS : ab_GS L xs G) (hX : ab_Good G (mLW nm) X) {pre : List ab_E} {c0 : CS} {D0 : List ab_E} {Q0 : QT} {nw T m : Nat} {f : Nat → Int32} (hP0 : PI c0 D0 Q0 nw) {c : CS} {D : List ab_E} {Q : QT} (hb0 : LB c0 Q0 nw T f) (hX0 : LX c0 Q0 nw T nw m c D Q) (hnl : (Q (2 * 0)).1 = (Q0 (2 * 0)).1) (kk : ∀ (c : CS) (D : List ab_E) (Q : QT), LX c0 Q0 nw T nw (m + 1) c D Q → ab_WA G (mLW nm) X 1227 [(3, .long (toF c0 Q0 nw)), (2, .ref (pre.length + 42)), (1, .ref (pre.length + 0)), (0, .float 1)] [] (LH pre c f D)) : ab_WA G (mLW nm) X 1193 [(3, .long (toF c0 Q0 nw)), (2, .ref (pre.length + 42)), (1, .ref (pre.length + 0)), (0, .float 1)] [] (LH pre c f D) := by
  have hb0_ := hb0.1
  have hb1 := hb0.2.1
  have hb2 := hb0.2.2.1
  have hb3 := hb0.2.2.2.1
  have hT6 := hb0.2.2.2.2.1
  have h5 := hP0.2.2.1
  have hn0 := (hP0.1.1 (2 * 0 + 1) (by decide)).2.1
  obtain ⟨hP, hK, hx, ⟨k1, g, hk8, hg, hs⟩, hz⟩ := hX0
  have hT63 : 63 - T < 64 := by omega
  obtain ⟨a1, a2, a3, a4, a5⟩ := tr_e hP hT63
  obtain ⟨c1, e1⟩ : ∃ x, x = trtP c (nI (63 - T)) := ⟨_, rfl⟩
  rw [← e1] at a2 a3 a4 a5
  have hK1 := KP_c hK (a4 _ (by decide)) (a4 _ (by decide)) (a4 _ (by decide)) (by rw [a5])
  have hx1 : RX c1 := RX_c hx (fun k h1 _ _ => a4 k (by omega)) (by rw [a5])
  have hs1 : shS c1 1 k1 g := ⟨(a4 _ (by decide)).trans hs.1, by rw [a5]; exact hs.2.1, (a4 _ (by decide)).trans hs.2.2⟩
  have hl6_ := hP0.2.2.2.1
  refine ab_aload_n hX dL_law_1193 mm2 ?_
  refine ab_bipush (v := 63) hX dL_law_1194 (by decide) ?_
  refine ab_aload_n hX dL_law_1196 mm1 ?_
  refine ab_iconst (v := 3) hX dL_law_1197 (by decide) ?_
  refine ab_iald (i := 3) hX dL_law_1198 LH_b rfl (by decide) (by decide) ?_
  refine ab_isub hX dL_law_1199 ?_
  rw [hb3, show (63 : Int32) - nI T = nI (63 - T) from nI_sub (a := 63) (by omega) (by decide)]
  refine ab_hp (show _ = LH pre c f D from rfl) ?_
  refine ab_callV1r hX dL_law_1200 LH_x ss_L_law_17 (LC1i (pre := pre) hS (fun G' g => cm_X11_truth g.1 (M := [bC _]) rfl )) (Nat.le_of_ble_eq_true rfl) ?_
  rw [← e1]
  refine ab_pop hX dL_law_1203 rfl ?_
  refine ab_aload_n hX dL_law_1204 mm1 ?_
  refine ab_iconst (v := 0) hX dL_law_1205 (by decide) ?_
  refine ab_iald (i := 0) hX dL_law_1206 LH_b rfl (by decide) (by decide) ?_
  refine ab_bipush (v := 6) hX dL_law_1207 (by decide) ?_
  refine ab_icmpge (tgt := 1227) hX dL_law_1209 (by decide) (fun h_1 => ?_) (fun h_1 => ?_)
  ·
    exact ab_pm4 mm0 mm1 mm2 mm3 (kk c1 D Q ⟨a2, hK1, hx1, ⟨k1, g, hk8, hg, hs1⟩, SZ_le hz (by omega)⟩)
  ·
    have hl6 : (Q (2 * 0)).1 < 6 := by
      rw [hnl]
      exact Nat.not_le.mp (fun q => h_1 (by rw [hb0_]; exact (nI_leI (a := 6) (by decide) (by omega)).mpr q))
    obtain ⟨r1, r2, r3⟩ := ru_e a2 (d := 1) (by decide) hk8 hg hs1 (a := 0) (b := 0) (by decide) (by decide) hl6
    have hz2 := SZ_up hz (up_rul a2.1 (nl := (Q (2 * 0)).1) (d := nI 1) (a := nI 0) (b := nI 0))
    obtain ⟨c2, D2, e2⟩ : ∃ c2 D2, rulP c1 D (Q (2 * 0)).1 (nI 1) (nI 0) (nI 0) = (c2, D2) := ⟨_, _, rfl⟩
    rw [e2] at r2 r3 hz2
    refine ab_aload_n hX dL_law_1212 mm2 ?_
    refine ab_iconst (v := 1) hX dL_law_1213 (by decide) ?_
    refine ab_iconst (v := 0) hX dL_law_1214 (by decide) ?_
    refine ab_iconst (v := 0) hX dL_law_1215 (by decide) ?_
    refine ab_callV3r hX dL_law_1216 LH_x ss_L_law_37 (LC3i (pre := pre) hS (fun G' g => cm_X11_rules g.1 (M := [bC _]) rfl a2.2.2.2.2.2.2.2.1 a2.1)) (Nat.le_of_ble_eq_true rfl) ?_
    rw [show rulR c1 (Q (2 * 0)).1 1 0 0 = nI (Q0 (2 * 0)).1 from r1.trans (congrArg nI hnl)]
    refine ab_hp (show _ = LH pre c2 f D2 by rw [show rulP c1 D (Q (2 * 0)).1 1 0 0 = (c2, D2) from e2]) ?_
    refine ab_aload_n hX dL_law_1219 mm1 ?_
    refine ab_iconst (v := 0) hX dL_law_1220 (by decide) ?_
    refine ab_iald (i := 0) hX dL_law_1221 LH_b rfl (by decide) (by decide) ?_
    refine ab_icmpeq (tgt := 1227) hX dL_law_1222 (by decide) (fun h_2 => ?_) (fun h_2 => (by exact absurd hb0_.symm h_2))
    exact ab_pm4 mm0 mm1 mm2 mm3 (kk _ _ _ ⟨r3, KP_fs hK1 r2 (gQ_n (by decide)) (gQ_n (by decide)), RX_fs hx1 r2, ⟨k1, g, hk8, hg, shS_fs r2 hs1⟩, hz2⟩)
theorem v_13 {G : ab_G} {nm : String} {X : ab_X} {L : Nat} {xs : Nat → Int32} (hS : ab_GS L xs G) (hX : ab_Good G (mLW nm) X) {pre : List ab_E} {c0 : CS} {D0 : List ab_E} {Q0 : QT} {nw T m : Nat} {f : Nat → Int32} (hP0 : PI c0 D0 Q0 nw) {c : CS} {D : List ab_E} {Q : QT} (hb0 : LB c0 Q0 nw T f) (hP : PI c D Q nw) (hK : KP c Q (Q0 (2 * 0)) (Q0 (2 * 0 + 1)) nw (nI T) (c0.2.1 0)) (hx : RX c) (kk : ∀ (c : CS) (nv : Nat), PI c D Q nv → KP c Q (Q0 (2 * 0)) (Q0 (2 * 0 + 1)) nw (nI T) (c0.2.1 0) → RX c → ab_WA G (mLW nm) X 1248 [(3, .long (toF c0 Q0 nw)), (2, .ref (pre.length + 42)), (1, .ref (pre.length + 0)), (0, .float 1)] [] (LH pre c f D)) : ab_WA G (mLW nm) X 1227 [(3, .long (toF c0 Q0 nw)), (2, .ref (pre.length + 42)), (1, .ref (pre.length + 0)), (0, .float 1)] [] (LH pre c f D) := by
  have hb0_ := hb0.1
  have hb1 := hb0.2.1
  have hb2 := hb0.2.2.1
  have hb3 := hb0.2.2.2.1
  have hT6 := hb0.2.2.2.2.1
  have h5 := hP0.2.2.1
  have hn0 := (hP0.1.1 (2 * 0 + 1) (by decide)).2.1
  refine ab_aload_n hX dL_law_1227 mm1 ?_
  refine ab_iconst (v := 1) hX dL_law_1228 (by decide) ?_
  refine ab_iald (i := 1) hX dL_law_1229 LH_b rfl (by decide) (by decide) ?_
  refine ab_iconst (v := 5) hX dL_law_1230 (by decide) ?_
  refine ab_icmpge (tgt := 1248) hX dL_law_1231 (by decide) (fun h_1 => ?_) (fun h_1 => ?_)
  ·
    exact ab_pm4 mm0 mm1 mm2 mm3 (kk c nw hP hK hx)
  ·
    have hn5 : nw < 5 := Nat.not_le.mp (fun q => h_1 (by rw [hb1]; exact (nI_leI (a := 5) (by decide) (by omega)).mpr q))
    obtain ⟨w1, w2, w3, w4, w5, w6, w7⟩ := wt_e hP (b := 21) (by decide) hn5
    obtain ⟨c1, e1⟩ : ∃ x, x = wtnP c (nI 21) := ⟨_, rfl⟩
    rw [← e1] at w2 w3 w4 w5 w6 w7
    have hK1 := KP_c hK (w5 _ (by decide)) (w5 _ (by decide)) (w5 _ (by decide)) (w6 1 (by decide))
    have hx1 : RX c1 := RX_c hx (fun k h1 _ _ => w5 k (by omega)) (w6 12 (by decide))
    refine ab_aload_n hX dL_law_1234 mm2 ?_
    refine ab_bipush (v := 21) hX dL_law_1235 (by decide) ?_
    refine ab_callV1r hX dL_law_1237 LH_x ss_L_law_23 (LC1i (pre := pre) hS (fun G' g => cm_X11_witness g.1 (M := [bC _]) rfl hP.2.1 hP.2.2.1)) (Nat.le_of_ble_eq_true rfl) ?_
    rw [show wtnR c 21 = nI nw from w1]
    refine ab_hp (show _ = LH pre c1 f D from congrArg (fun z => LH pre z f D) e1.symm) ?_
    refine ab_aload_n hX dL_law_1240 mm1 ?_
    refine ab_iconst (v := 1) hX dL_law_1241 (by decide) ?_
    refine ab_iald (i := 1) hX dL_law_1242 LH_b rfl (by decide) (by decide) ?_
    refine ab_icmpeq (tgt := 1248) hX dL_law_1243 (by decide) (fun h_2 => ?_) (fun h_2 => (by exact absurd hb1.symm h_2))
    exact ab_pm4 mm0 mm1 mm2 mm3 (kk c1 (nw + 1) w2 hK1 hx1)
theorem v_14 {G : ab_G} {nm : String} {X : ab_X} {L : Nat} {xs : Nat → Int32} (hS : ab_GS L xs G) (hX : ab_Good G (mLW nm) X) {pre : List ab_E} {c0 : CS} {D0 : List ab_E} {Q0 : QT} {nw T m : Nat} {f : Nat → Int32} (hP0 : PI c0 D0 Q0 nw) {c : CS} {D : List ab_E} {Q : QT} {nv : Nat} (hb0 : LB c0 Q0 nw T f) (hP : PI c D Q nv) (hK : KP c Q (Q0 (2 * 0)) (Q0 (2 * 0 + 1)) nw (nI T) (c0.2.1 0)) (hx : RX c) (hz : SZ m D) (hm : m ≤ 80) (hp1 : pre.length ≤ 500) (hp2_ : ab_sz pre ≤ 50000) (fin : ∀ (l : List (Nat × Value)) (h : List ab_E), h.length ≤ 10000 → ab_sz h ≤ 200000 → ab_WA G (mLW nm) X 1301 l [] h) : ab_WA G (mLW nm) X 1248 [(3, .long (toF c0 Q0 nw)), (2, .ref (pre.length + 42)), (1, .ref (pre.length + 0)), (0, .float 1)] [] (LH pre c f D) := by
  have hb0_ := hb0.1
  have hb1 := hb0.2.1
  have hb2 := hb0.2.2.1
  have hb3 := hb0.2.2.2.1
  have hT6 := hb0.2.2.2.2.1
  have h5 := hP0.2.2.1
  have hn0 := (hP0.1.1 (2 * 0 + 1) (by decide)).2.1
  have g3 := hP0.2.2.2.1
  have g4 : ∃ t, t < 64 ∧ nI T = nI t := ⟨T, hT6, rfl⟩
  have g5 := hP0.2.2.2.2.2.1
  have g6 := hP0.2.2.2.2.2.2.1
  have r1 := re_e hP hK h5 g3 g4 g5 g6
  have z1 := up_rst hP.1
  obtain ⟨c1, D1, e1⟩ : ∃ c1 D1, rstP c D Q = (c1, D1) := ⟨_, _, rfl⟩
  rw [e1] at r1 z1
  obtain ⟨a1, a2, a3, a4, a5, a6, a7, a8, a9, a10⟩ := r1
  have hS1 : SameT c0 Q0 c1 (beQ 0 1 Q) := ⟨a6.trans hb0.2.2.2.2.2.1.symm, a7, a3, a4⟩
  have hx1 : RX c1 := RX_c hx (fun k h1 _ _ => a8 k (by omega)) (a10 12 (by decide))
  have hel : (nuA c1 2 1).toInt64 = 57 := by
    rw [show nuA c1 2 1 = c1.2.1 12 1 from nu2 hx1.1 (i := 1) (by decide), hx1.2]
    rfl
  have r2 := re_e a2 a5 h5 g3 g4 g5 g6
  have z2 := up_rst a2.1
  obtain ⟨c2, D2, e2⟩ : ∃ c2 D2, rstP c1 D1 (beQ 0 1 Q) = (c2, D2) := ⟨_, _, rfl⟩
  rw [e2] at r2 z2
  obtain ⟨b1, b2, b3, b4, b5, b6, b7, -⟩ := r2
  have hS2 : SameT c0 Q0 c2 (beQ 0 1 (beQ 0 1 Q)) := ⟨b6.trans hb0.2.2.2.2.2.1.symm, b7, b3, b4⟩
  have hz2 := SZ_up (SZ_up hz z1) z2
  have hfl : (LH pre c2 f D2).length ≤ 10000 := by
    rw [LH_len]
    have q1 : D2.length ≤ 100 * (m + 1 + 1) := hz2.1
    have q2 : 100 * (m + 1 + 1) ≤ 9000 := by omega
    omega
  have hfz : ab_sz (LH pre c2 f D2) ≤ 200000 := by
    rw [LH_sz, szC]
    have q1 : ab_sz D2 ≤ 1000 * (m + 1 + 1) := hz2.2
    have q2 : 1000 * (m + 1 + 1) ≤ 90000 := by omega
    have q3 := szC2
    omega
  refine ab_aload_n hX dL_law_1248 mm2 ?_
  refine ab_callV0r hX dL_law_1249 LH_x ss_L_law_117 (LC0i (pre := pre) hS (fun G' g => cm_X11_restore g.1 (M := [bC _]) rfl hP.1)) (Nat.le_of_ble_eq_true rfl) ?_
  rw [a1]
  refine ab_hp (show _ = LH pre c1 f D1 by rw [e1]) ?_
  refine ab_aload_n hX dL_law_1252 mm1 ?_
  refine ab_iconst (v := 2) hX dL_law_1253 (by decide) ?_
  refine ab_iald (i := 2) hX dL_law_1254 LH_b rfl (by decide) (by decide) ?_
  refine ab_icmpne (tgt := 1280) hX dL_law_1255 (by decide) (fun h_1 => (by exact absurd hb2.symm h_1)) (fun h_1 => ?_)
  refine ab_aload_n hX dL_law_1258 mm2 ?_
  refine ab_callS1r hX dL_law_1259 ss_L_law_127 (LC0l (pre := pre) hS (fun G' g => cm_L_told g.1 (M := [bC _]) rfl a2.1 a2.2.1 a2.2.2.1)) (Nat.le_of_ble_eq_true rfl) ?_
  rw [toF_e a2 hP0 hS1]
  refine ab_lload_n hX dL_law_1262 mm0 ?_
  refine ab_lcmp hX dL_law_1263 ?_
  refine ab_ifneC (tgt := 1280) hX dL_law_1264 (by decide) (fun h_2 => (by exact absurd rfl h_2)) (fun h_2 => ?_)
  refine ab_aload_n hX dL_law_1267 mm2 ?_
  refine ab_iconst (v := 2) hX dL_law_1268 (by decide) ?_
  refine ab_iconst (v := 1) hX dL_law_1269 (by decide) ?_
  refine ab_callV2r hX dL_law_1270 LH_x ss_L_law_154 (LC2l (pre := pre) hS (fun G' g => el_ok g.1 (M := [bC _]) rfl (j := 2) (i := 1) (by decide) (if_pos hx1.1.1) (hp2 hx1.1 (i := 1) (by decide)))) (Nat.le_of_ble_eq_true rfl) ?_
  rw [hel]
  refine ab_ldc2 hX dL_law_1273 tw_925 ?_
  refine ab_lcmp hX dL_law_1276 ?_
  refine ab_ifeqC (tgt := 1282) hX dL_law_1277 (by decide) (fun h_3 => ?_) (fun h_3 => (by exact absurd rfl h_3))
  refine ab_aload_n hX dL_law_1282 mm2 ?_
  refine ab_callV0r hX dL_law_1283 LH_x ss_L_law_117 (LC0i (pre := pre) hS (fun G' g => cm_X11_restore g.1 (M := [bC _]) rfl a2.1)) (Nat.le_of_ble_eq_true rfl) ?_
  rw [b1]
  refine ab_hp (show _ = LH pre c2 f D2 by rw [e2]) ?_
  refine ab_aload_n hX dL_law_1286 mm1 ?_
  refine ab_iconst (v := 2) hX dL_law_1287 (by decide) ?_
  refine ab_iald (i := 2) hX dL_law_1288 LH_b rfl (by decide) (by decide) ?_
  refine ab_icmpne (tgt := 1305) hX dL_law_1289 (by decide) (fun h_4 => (by exact absurd hb2.symm h_4)) (fun h_4 => ?_)
  refine ab_aload_n hX dL_law_1292 mm2 ?_
  refine ab_callS1r hX dL_law_1293 ss_L_law_127 (LC0l (pre := pre) hS (fun G' g => cm_L_told g.1 (M := [bC _]) rfl b2.1 b2.2.1 b2.2.2.1)) (Nat.le_of_ble_eq_true rfl) ?_
  rw [toF_e b2 hP0 hS2]
  refine ab_lload_n hX dL_law_1296 mm0 ?_
  refine ab_lcmp hX dL_law_1297 ?_
  refine ab_ifneC (tgt := 1305) hX dL_law_1298 (by decide) (fun h_5 => (by exact absurd rfl h_5)) (fun h_5 => ?_)
  exact fin _ _ hfl hfz
