/-! the law: the lie that leaves most is told, and taken back -/
theorem tl_e {c : CS} {lf : Int64} {k a b : Nat} (hs : shS c 1 k 0) (hk : k < 8) (ha : a < 6) (hb : b < 6) : tellsC c lf 1 (nI a) (nI b) = lbc (lf &&& wS k 0 (nI a) (nI b)) := by
  have e : tn 1 = 1 := rfl
  unfold tellsC
  rw [if_pos (by decide), if_pos (inB6n a ha), if_pos (inB6n b hb), e, if_pos (rf_S hs), shW, sk_S hs hk, hs.2.2]
  rfl
theorem sy_f {c : CS} {D : List ab_E} {Q : QT} {nw m w k g a b : Nat} (h : PI c D Q nw) (hz : SZ m D) (hw : w < nw) (hk : k < 8) (hg : g < 10) (hs : shS c 1 k g) (ha : a < 6) (hb : b < 6) (hn : (Q (2 * 0 + 1)).1 < 10) :
    ∃ c2 D2 Q2, sayP c D (Q (2 * 0 + 1)).1 (nI w) 1 (nI a) (nI b) = (c2, D2) ∧ sayR c (Q (2 * 0 + 1)).1 (nI w) 1 (nI a) (nI b) = nI (Q (2 * 0 + 1)).1 ∧ PI c2 D2 Q2 nw ∧ frS c c2 ∧ Q2 (2 * 0) = Q (2 * 0) ∧ (Q2 (2 * 0 + 1)).1 = (Q (2 * 0 + 1)).1 + 1 ∧ (∀ i, i < (Q (2 * 0 + 1)).1 → (Q2 (2 * 0 + 1)).2 i = (Q (2 * 0 + 1)).2 i) ∧ (Q2 (2 * 0 + 1)).2 (Q (2 * 0 + 1)).1 = (nI w, k, g, a, b) ∧ (∀ l, l ≠ 2 * 0 + 1 → Q2 l = Q l) ∧ SZ (m + 1) D2 := by
  obtain ⟨r1, r2, r3⟩ := sa_e h hw (d := 1) (by decide) hk hg hs ha hb hn
  have hu := up_say h.1 (ns := (Q (2 * 0 + 1)).1) (w := nI w) (d := nI 1) (a := nI a) (b := nI b)
  refine ⟨_, _, _, rfl, r1, r3, r2, gQ_n (by decide), gQ_1, fun i hi => ?_, ?_, fun l hl => gQ_n hl, SZ_up hz hu⟩
  · rw [gQ_2, if_neg (by omega)]
  · rw [gQ_2, if_pos rfl]
theorem sd_7 {c : CS} {qs : Nat → SY} {ns k T : Nat} (h : c.1 (30 + (2 * 0 + 1)) = nI ns) (hn : ns ≤ 10) (hk : k < ns) (hT : c.1 (20 + 0) = nI T) (hT6 : T < 64) : saidC c qs (nI k) 7 = bi (wb (wY (qs k)) T) := by
  have e : ∀ n, n ≤ 10 → ∀ k, k < n → iw (nI k) 0 (nI n - 1) = true := by decide
  unfold saidC
  rw [h, if_pos (e ns hn k hk), if_pos (by decide), if_pos rfl, hT, hwB_w _ hT6, tn8 (by omega)]
theorem v_9 {G : ab_G} {nm : String} {X : ab_X} {L : Nat} {xs : Nat → Int32} (hS : ab_GS L xs G) (hX : ab_Good G (mLW nm) X) {pre : List ab_E} {c0 : CS} {D0 : List ab_E} {Q0 : QT} {nw T m : Nat} {f : Nat → Int32} (hP0 : PI c0 D0 Q0 nw) {c : CS} {D : List ab_E} {Q : QT} (hL : L ≤ 260) (hb0 : LB c0 Q0 nw T f) (hV : LV c0 Q0 nw T m c D Q) (hs : ∃ k, k < 8 ∧ shS c 1 k 0) (hx : RX c) (kk : ∀ (c : CS) (D : List ab_E), LV c0 Q0 nw T (m + 1 + 1) c D Q → (∃ k, k < 8 ∧ shS c 1 k 0) → RX c → ab_WA G (mLW nm) X 1014 [(3, .long (toF c0 Q0 nw)), (2, .ref (pre.length + 42)), (1, .ref (pre.length + 0)), (0, .float 1)] [] (LH pre c f D)) : ab_WA G (mLW nm) X 829 [(9, .int (bi (wb (lfT (Q (2 * 0)).2 (Q (2 * 0)).1 (Q (2 * 0 + 1)).2 (Q (2 * 0 + 1)).1) T))), (7, .long (lfT (Q (2 * 0)).2 (Q (2 * 0)).1 (Q (2 * 0 + 1)).2 (Q (2 * 0 + 1)).1)), (5, .long (mbT (Q (2 * 0)).2 (Q (2 * 0)).1)), (3, .long (toF c0 Q0 nw)), (2, .ref (pre.length + 42)), (1, .ref (pre.length + 0)), (0, .float 1)] [] (LH pre c f D) := by
  have hP := hV.1
  have hb := LB_s hb0 hV.2.1 hP.2.2.1
  have hb1 := hb.2.1
  have hb2 := hb.2.2.1
  have hb3 := hb.2.2.2.1
  have hT := hb.2.2.2.2.2.1
  have hT6 := hb.2.2.2.2.1
  have hn := (hP.1.1 (2 * 0 + 1) (by decide)).2.1
  have h5 := hP.2.2.1
  have hw10 := hP.2.1
  refine ab_aload_n hX dL_law_829 mm4 ?_
  refine ab_iconst (v := 1) hX dL_law_830 (by decide) ?_
  refine ab_iald (i := 1) hX dL_law_831 LH_b rfl (by decide) (by decide) ?_
  refine ab_ifle (tgt := 1014) hX dL_law_832 (by decide) (fun h_1 => ?_) (fun h_1 => ?_)
  ·
    exact ab_pm4 mm3 mm4 mm5 mm6 (kk c D ⟨hV.1, hV.2.1, hV.2.2.1, SZ_le hV.2.2.2 (by omega)⟩ hs hx)
  ·
    have h0 : 0 < nw := by
      rcases Nat.eq_zero_or_pos nw with q | q
      · exact absurd (by rw [hb1, q]; exact Int32.le_refl _) h_1
      · exact q
    obtain ⟨w, hw, ew⟩ := so_r (atF L xs 22) (m := nw) h0 (by omega)
    have hnw : ¬ nI nw = 0 := fun q => by have := (nI_eq (b := 0) (by omega) (by decide)).mp q; omega
    refine ab_aload_n hX dL_law_835 mm4 ?_
    refine ab_iconst (v := 2) hX dL_law_836 (by decide) ?_
    refine ab_iald (i := 2) hX dL_law_837 LH_b rfl (by decide) (by decide) ?_
    refine ab_bipush (v := 10) hX dL_law_838 (by decide) ?_
    refine ab_icmpge (tgt := 1014) hX dL_law_840 (by decide) (fun h_2 => ?_) (fun h_2 => ?_)
    ·
      exact ab_pm4 mm3 mm4 mm5 mm6 (kk c D ⟨hV.1, hV.2.1, hV.2.2.1, SZ_le hV.2.2.2 (by omega)⟩ hs hx)
    ·
      have hn10 : (Q (2 * 0 + 1)).1 < 10 := Nat.not_le.mp (fun q => h_2 (by rw [hb2]; exact (nI_leI (a := 10) (by decide) (by omega)).mpr q))
      refine ab_aload_nS hX dL_law_843 mm6 ?_
      refine ab_bipush (v := 22) hX dL_law_844 (by decide) ?_
      refine ab_callS2r hX dL_law_846 ss_L_law_7 (cm_L_at (k := 22) hS.1 hS.2 hL (by omega)) (Nat.le_of_ble_eq_true rfl) ?_
      refine ab_aload_n hX dL_law_849 mm4 ?_
      refine ab_iconst (v := 1) hX dL_law_850 (by decide) ?_
      refine ab_iald (i := 1) hX dL_law_851 LH_b rfl (by decide) (by decide) ?_
      rw [hb1]
      refine ab_callS2r hX dL_law_852 ss_L_law_13 (cm_L_some hS.1 hnw) (Nat.le_of_ble_eq_true rfl) ?_
      rw [ew]
      refine ab_istore hX dL_law_855 (show 11 < 15 by decide) rfl ?_
      refine ab_aload_n hX dL_law_857 mm6 ?_
      refine ab_iload hX dL_law_858 mm0 ?_
      refine ab_iconst (v := 1) hX dL_law_860 (by decide) ?_
      refine ab_callV2r hX dL_law_861 LH_x ss_L_law_66 (LC2i (pre := pre) hS (fun G' g => cm_X11_lie g.1 (M := [bC _]) rfl (hP.1.1 (2 * 0) (by decide)) (hP.1.1 (2 * 0 + 1) (by decide)))) (Nat.le_of_ble_eq_true rfl) ?_
      rw [lie_1 hw10 h5 hw]
      refine ab_istore hX dL_law_864 (show 12 < 15 by decide) rfl ?_
      refine ab_aload_n hX dL_law_866 mm7 ?_
      refine ab_iload hX dL_law_867 mm1 ?_
      refine ab_iconst (v := 2) hX dL_law_869 (by decide) ?_
      refine ab_callV2r hX dL_law_870 LH_x ss_L_law_66 (LC2i (pre := pre) hS (fun G' g => cm_X11_lie g.1 (M := [bC _]) rfl (hP.1.1 (2 * 0) (by decide)) (hP.1.1 (2 * 0 + 1) (by decide)))) (Nat.le_of_ble_eq_true rfl) ?_
      rw [lie_2 hw10 h5 hw]
      refine ab_istore hX dL_law_873 (show 13 < 15 by decide) rfl ?_
      refine ab_iload hX dL_law_875 mm1 ?_
      refine ab_iflt (tgt := 1014) hX dL_law_877 (by decide) (fun h_3 => ?_) (fun h_3 => ?_)
      ·
        exact ab_pm4 mm6 mm7 mm8 mm9 (kk c D ⟨hV.1, hV.2.1, hV.2.2.1, SZ_le hV.2.2.2 (by omega)⟩ hs hx)
      ·
        obtain ⟨i, hi, i1, i2, i3⟩ := ft_best _ _ _ h_3
        rw [i2, i3]
        obtain ⟨-, -, d1, d2, d3, d4, d5⟩ := cd_lie i hi
        have hk8 : i / 36 < 8 := by omega
        have hV1 := lv_hs (f := 0) hV (k := i / 36) hk8
        have hs1 : shS (hsP c 1 (i / 36) 0) 1 (i / 36) 0 := hs_S (f := 0)
        obtain ⟨c2, D2, Q2, y1, y2, p2, y3, y4, y5, y6, y7, yq, y10⟩ := sy_f hV1.1 hV1.2.2.2 hw hk8 (by decide) hs1 (a := i / 6 % 6) (b := i % 6) (by omega) (by omega) hn10
        have hwc : wcC i = wY (nI w, i / 36, 0, i / 6 % 6, i % 6) := wc_y hi (nI w)
        have hF2 : lfT (Q2 (2 * 0)).2 (Q2 (2 * 0)).1 (Q2 (2 * 0 + 1)).2 (Q2 (2 * 0 + 1)).1 = (lfT (Q (2 * 0)).2 (Q (2 * 0)).1 (Q (2 * 0 + 1)).2 (Q (2 * 0 + 1)).1) &&& (wcC i ^^^ (-1)) := by rw [y4, y5, hwc]; exact lf_s hn10 y6 y7
        have hif : hwB (wY (nI w, i / 36, 0, i / 6 % 6, i % 6)) (nI T) = false := by rw [← hwc, ← hT]; exact il_f i1
        have hifw : wb (wY (nI w, i / 36, 0, i / 6 % 6, i % 6)) T = false := by rw [← hwB_w _ hT6]; exact hif
        have hT2 : c2.1 (20 + 0) = nI T := (y3.1 _ (Or.inl (by decide))).trans ((hs_1 (by decide) (by decide)).trans hT)
        have hS2 : toT (Q2 (2 * 0 + 1)).2 (Q2 (2 * 0 + 1)).1 (nI T) = toT (Q (2 * 0 + 1)).2 (Q (2 * 0 + 1)).1 (nI T) := by rw [y5]; exact to_s y6 y7 hif
        obtain ⟨u1, u2, u3⟩ := un_e p2 y5
        obtain ⟨c3, D3, e3⟩ : ∃ c3 D3, unsP c2 D2 (Q2 (2 * 0 + 1)).1 = (c3, D3) := ⟨_, _, rfl⟩
        have hz3 := SZ_up y10 (up_uns p2.1)
        rw [e3] at u2 u3 hz3
        have p3 : PI c3 D3 Q nw := PI_q u3 (fun l hl => by
          by_cases q1 : l = 2 * 0 + 1
          · subst q1
            rw [upQ_eq]
            exact ⟨rfl, fun j hj => (y6 j hj).symm⟩
          · rw [upQ_ne q1]
            rw [yq l q1]
            exact ⟨rfl, fun _ _ => rfl⟩)
        have hfs : frS (hsP c 1 (i / 36) 0) c3 := fs_tr y3 u2
        have hV3 : LV c0 Q0 nw T (m + 1 + 1) c3 D3 Q := ⟨p3, SameT_fs hV1.2.1 hfs rfl rfl, KP_fs hV1.2.2.1 hfs rfl rfl, hz3⟩
        refine ab_aload_n hX dL_law_880 mm8 ?_
        refine ab_iconst (v := 1) hX dL_law_881 (by decide) ?_
        refine ab_iconst (v := 1) hX dL_law_882 (by decide) ?_
        refine ab_iload hX dL_law_883 mm1 ?_
        refine ab_bipush (v := 100) hX dL_law_885 (by decide) ?_
        refine ab_idiv hX dL_law_887 (by decide) ?_
        refine ab_iconst (v := 0) hX dL_law_888 (by decide) ?_
        rw [d1]
        refine ab_callV4r hX dL_law_889 LH_x ss_L_law_33 (LC4i (pre := pre) hS (fun G' g => cm_X11_keep g.1 (M := [bC _]) rfl )) (Nat.le_of_ble_eq_true rfl) ?_
        rw [show kepR 1 1 (nI (i / 36)) 0 = 0 from (kp_e (c := c) (d := 1) (f := 0) (by decide) hk8 (by decide)).2, show kepP c 1 1 (nI (i / 36)) 0 = hsP c 1 (i / 36) 0 from (kp_e (d := 1) (f := 0) (by decide) hk8 (by decide)).1]
        refine ab_ifne (tgt := 924) hX dL_law_892 (by decide) (fun h_4 => (by exact absurd (show (0 : Int32) = 0 by decide) h_4)) (fun h_4 => ?_)
        refine ab_aload_n hX dL_law_895 mm8 ?_
        refine ab_iconst (v := 1) hX dL_law_896 (by decide) ?_
        refine ab_iload hX dL_law_897 mm1 ?_
        refine ab_bipush (v := 10) hX dL_law_899 (by decide) ?_
        refine ab_idiv hX dL_law_901 (by decide) ?_
        refine ab_bipush (v := 10) hX dL_law_902 (by decide) ?_
        refine ab_irem hX dL_law_904 (by decide) ?_
        refine ab_iload hX dL_law_905 mm1 ?_
        refine ab_bipush (v := 10) hX dL_law_907 (by decide) ?_
        refine ab_irem hX dL_law_909 (by decide) ?_
        rw [show cdL i / 10 - cdL i / 10 / 10 * 10 = nI (i / 6 % 6) from d2, show cdL i - cdL i / 10 * 10 = nI (i % 6) from d3]
        refine ab_callV3r hX dL_law_910 LH_x ss_L_law_148 (LC3i (pre := pre) hS (fun G' g => cm_X11_tells g.1 (M := [bC _]) rfl (hV1.1.1.1 (2 * 0) (by decide)) (hV1.1.1.1 (2 * 0 + 1) (by decide)) hV1.1.2.2.2.2.2.2.2.1)) (Nat.le_of_ble_eq_true rfl) ?_
        rw [tl_e hs1 hk8 (by omega) (by omega), show wS (i / 36) 0 (nI (i / 6 % 6)) (nI (i % 6)) = wcC i by unfold wcC; rw [d4, d5]]
        refine ab_aload_n hX dL_law_913 mm8 ?_
        refine ab_iconst (v := 1) hX dL_law_914 (by decide) ?_
        refine ab_callV1r hX dL_law_915 LH_x ss_L_law_79 (LC1i (pre := pre) hS (fun G' g => cm_X11_many g.1 (M := [bC _]) rfl (hV1.1.1.1 (2 * 0) (by decide)) (hV1.1.1.1 (2 * 0 + 1) (by decide)))) (Nat.le_of_ble_eq_true rfl) ?_
        rw [many_1]
        refine ab_iload hX dL_law_918 mm0 ?_
        refine ab_isub hX dL_law_920 ?_
        refine ab_icmpeq (tgt := 926) hX dL_law_921 (by decide) (fun h_5 => ?_) (fun h_5 => (by exact absurd (lbc_split _ _) h_5))
        refine ab_aload_n hX dL_law_926 mm8 ?_
        refine ab_iconst (v := 0) hX dL_law_927 (by decide) ?_
        refine ab_callV1r hX dL_law_928 LH_x ss_L_law_85 (LC1i (pre := pre) hS (fun G' g => cm_X11_slips g.1 (M := [bC _]) rfl (hV1.1.1.1 (2 * 0 + 1) (by decide)))) (Nat.le_of_ble_eq_true rfl) ?_
        rw [slip_0, show (hsP c 1 (i / 36) 0).1 (20 + 0) = nI T from hV1.2.1.1.trans hb0.2.2.2.2.2.1]
        refine ab_istore hX dL_law_931 (show 14 < 15 by decide) rfl ?_
        refine ab_aload_n hX dL_law_933 mm9 ?_
        refine ab_iload hX dL_law_934 mm3 ?_
        refine ab_iconst (v := 1) hX dL_law_936 (by decide) ?_
        refine ab_iload hX dL_law_937 mm2 ?_
        refine ab_bipush (v := 10) hX dL_law_939 (by decide) ?_
        refine ab_idiv hX dL_law_941 (by decide) ?_
        refine ab_bipush (v := 10) hX dL_law_942 (by decide) ?_
        refine ab_irem hX dL_law_944 (by decide) ?_
        refine ab_iload hX dL_law_945 mm2 ?_
        refine ab_bipush (v := 10) hX dL_law_947 (by decide) ?_
        refine ab_irem hX dL_law_949 (by decide) ?_
        rw [show cdL i / 10 - cdL i / 10 / 10 * 10 = nI (i / 6 % 6) from d2, show cdL i - cdL i / 10 * 10 = nI (i % 6) from d3]
        refine ab_callV4r hX dL_law_950 LH_x ss_L_law_41 (LC4i (pre := pre) hS (fun G' g => cm_X11_says g.1 (M := [bC _]) rfl hV1.1.2.2.2.2.2.2.2.1 hV1.1.1)) (Nat.le_of_ble_eq_true rfl) ?_
        rw [y2, y1]
        refine ab_hp (show _ = LH pre c2 f D2 from rfl) ?_
        refine ab_aload_n hX dL_law_953 mm8 ?_
        refine ab_iconst (v := 2) hX dL_law_954 (by decide) ?_
        refine ab_iald (i := 2) hX dL_law_955 LH_b rfl (by decide) (by decide) ?_
        refine ab_icmpne (tgt := 991) hX dL_law_956 (by decide) (fun h_6 => (by exact absurd hb2.symm h_6)) (fun h_6 => ?_)
        refine ab_aload_n hX dL_law_959 mm9 ?_
        refine ab_iconst (v := 1) hX dL_law_960 (by decide) ?_
        refine ab_callV1r hX dL_law_961 LH_x ss_L_law_79 (LC1i (pre := pre) hS (fun G' g => cm_X11_many g.1 (M := [bC _]) rfl (p2.1.1 (2 * 0) (by decide)) (p2.1.1 (2 * 0 + 1) (by decide)))) (Nat.le_of_ble_eq_true rfl) ?_
        rw [many_1, hF2]
        refine ab_iload hX dL_law_964 mm1 ?_
        refine ab_icmpne (tgt := 991) hX dL_law_966 (by decide) (fun h_7 => (by exact absurd rfl h_7)) (fun h_7 => ?_)
        refine ab_aload_n hX dL_law_969 mm9 ?_
        refine ab_iconst (v := 0) hX dL_law_970 (by decide) ?_
        refine ab_callV1r hX dL_law_971 LH_x ss_L_law_85 (LC1i (pre := pre) hS (fun G' g => cm_X11_slips g.1 (M := [bC _]) rfl (p2.1.1 (2 * 0 + 1) (by decide)))) (Nat.le_of_ble_eq_true rfl) ?_
        rw [slip_0, hT2, hS2]
        refine ab_iload hX dL_law_974 mm0 ?_
        refine ab_icmpne (tgt := 991) hX dL_law_976 (by decide) (fun h_8 => (by exact absurd rfl h_8)) (fun h_8 => ?_)
        refine ab_aload_n hX dL_law_979 mm9 ?_
        refine ab_aload_n hX dL_law_980 mm8 ?_
        refine ab_iconst (v := 2) hX dL_law_981 (by decide) ?_
        refine ab_iald (i := 2) hX dL_law_982 LH_b rfl (by decide) (by decide) ?_
        refine ab_bipush (v := 7) hX dL_law_983 (by decide) ?_
        rw [hb2]
        refine ab_callV2r hX dL_law_985 LH_x ss_L_law_54 (LC2i (pre := pre) hS (fun G' g => cm_X11_said g.1 (M := [bC _]) rfl (p2.1.1 (2 * 0 + 1) (by decide)))) (Nat.le_of_ble_eq_true rfl) ?_
        rw [sd_7 (ns := (Q (2 * 0 + 1)).1 + 1) (by rw [← y5]; exact (p2.1.1 (2 * 0 + 1) (by decide)).1) (by omega) (by omega) hT2 hT6, y7, hifw]
        refine ab_ifeq (tgt := 993) hX dL_law_988 (by decide) (fun h_9 => ?_) (fun h_9 => (by exact absurd rfl h_9))
        refine ab_aload_n hX dL_law_993 mm9 ?_
        refine ab_callV0r hX dL_law_994 LH_x ss_L_law_151 (LC0i (pre := pre) hS (fun G' g => cm_X11_unsays g.1 (M := [bC _]) rfl p2.1)) (Nat.le_of_ble_eq_true rfl) ?_
        rw [u1, e3]
        refine ab_hp (show _ = LH pre c3 f D3 from rfl) ?_
        refine ab_aload_n hX dL_law_997 mm8 ?_
        refine ab_iconst (v := 2) hX dL_law_998 (by decide) ?_
        refine ab_iald (i := 2) hX dL_law_999 LH_b rfl (by decide) (by decide) ?_
        refine ab_icmpne (tgt := 1012) hX dL_law_1000 (by decide) (fun h_10 => (by exact absurd hb2.symm h_10)) (fun h_10 => ?_)
        refine ab_aload_n hX dL_law_1003 mm9 ?_
        refine ab_callS1r hX dL_law_1004 ss_L_law_127 (LC0l (pre := pre) hS (fun G' g => cm_L_told g.1 (M := [bC _]) rfl hV3.1.1 hV3.1.2.1 hV3.1.2.2.1)) (Nat.le_of_ble_eq_true rfl) ?_
        rw [lv_sum hV3 hP0]
        refine ab_lload_n hX dL_law_1007 mm7 ?_
        refine ab_lcmp hX dL_law_1008 ?_
        refine ab_ifeqC (tgt := 1014) hX dL_law_1009 (by decide) (fun h_11 => ?_) (fun h_11 => (by exact absurd rfl h_11))
        exact ab_pm4 mm7 mm8 mm9 mm10 (kk c3 D3 hV3 ⟨i / 36, hk8, shS_fs hfs hs1⟩ (RX_fs (RX_hs hx) hfs))
