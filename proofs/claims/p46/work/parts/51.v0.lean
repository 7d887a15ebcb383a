/-! the law's first objects -/
abbrev mLW (nm : String) : ab_M := (⟨RL, nm, "([I)Z"⟩, cL_law, 15, some .boolean, 13, 492)
theorem ns_L_law_18 {nm : String} : ab_ns (mLW nm) 18 12 [.null, .null, .null, .null, .null, .int 0, .null, .null] := ⟨_, _, _, tyX11, rfl, zf_X11, tyX11_ok, tw_47, tw_48, tw_19, fun G j hj => by
  obtain rfl | rfl | rfl | rfl | rfl | rfl | rfl | rfl : j = 0 ∨ j = 1 ∨ j = 2 ∨ j = 3 ∨ j = 4 ∨ j = 5 ∨ j = 6 ∨ j = 7 := by omega
  all_goals rfl⟩
/-- an object with nothing behind it -/
def ZH (pre : List ab_E) (c : CS) (D : List ab_E) : List ab_E := pre ++ (cH c [] D).map (shE pre.length)
theorem ZH_x {pre : List ab_E} {c : CS} {D : List ab_E} : (ZH pre c D)[pre.length + 0]? = some (.inr (12, [.ref (pre.length + 1), .ref (pre.length + 2), .ref (pre.length + 3), .ref (pre.length + 7), .ref (pre.length + 11), .int (c.1 0), .ref (pre.length + 15), .ref (pre.length + 16)])) := sh_get (h := cH c [] D) (k := 0) cg_x
theorem ZH_len {pre : List ab_E} {c : CS} {D : List ab_E} : (ZH pre c D).length = pre.length + (42 + D.length) := by
  rw [ZH, sh_len, cH_len]
  show pre.length + (42 + (0 + D.length)) = _
  omega
theorem ZH_sz {pre : List ab_E} {c : CS} {D : List ab_E} : ab_sz (ZH pre c D) = ab_sz pre + (ab_sz (cC c) + ab_sz D) := by
  rw [ZH, sh_sz]
  unfold cH ab_sz
  rw [List.map_append, List.map_append, List.sum_append, List.sum_append]
  show _ = _
  rw [show ((List.map ab_szE ([] : List ab_E)).sum) = 0 from rfl, Nat.zero_add]
theorem ZC0 {G : ab_G} {L : Nat} {xs : Nat → Int32} {Z : ab_M} {pre D E : List ab_E} {c e : CS} {r : Int32} (hG : ab_GS L xs G) (hC : ∀ G', ab_GS L xs G' → ab_CM G' Z [.ref 0] (cH c [] D) (some (.int r)) (cH e [] E)) : ab_CM G Z [.ref (pre.length + 0)] (ZH pre c D) (some (.int r)) (ZH pre e E) := ab_lift hG hC pre
def eQ : QT := fun _ => (0, fun _ => (0, 0, 0, 0, 0))
theorem z_GI : GIz cz [] eQ := ⟨fun l hl => ⟨rfl, Nat.zero_le _, Or.inl ⟨rfl, if_pos (by omega)⟩, fun i hi => absurd hi (Nat.not_lt_zero _)⟩, fun l hl k hk _ a ha => by
  have e : cz.2.2.2 l = .float 0 := if_pos (by omega)
  rw [e] at ha
  cases ha⟩
theorem c_GI : GI cz [] eQ := ⟨fun l hl => ⟨rfl, Nat.zero_le _, Or.inl ⟨rfl, if_pos (by omega)⟩, fun i hi => absurd hi (Nat.not_lt_zero _)⟩, fun l hl k hk _ a ha => by
  have e : cz.2.2.2 l = .float 0 := if_pos (by omega)
  rw [e] at ha
  cases ha⟩
theorem c_PI : PI cz [] eQ 0 := ⟨c_GI, rfl, by decide, by decide, ⟨0, by decide, rfl⟩, fun i hi => absurd hi (Nat.not_lt_zero _), fun j hj => absurd hj (Nat.not_lt_zero _), fun d hd => ⟨0, by decide, if_neg (by omega)⟩, fun d hd q => absurd q (show ¬ (0 : Int32) = 2 by decide)⟩
theorem z_re : rstR cz eQ = -3 ∧ rstPz cz [] eQ = (cz, []) := ⟨rfl, rfl⟩
theorem z_im : (imgPz cz [] eQ).2 = [] := rfl
theorem z_pl : plainC (eQ (2 * 0)).2 (eQ (2 * 0)).1 (eQ (2 * 0 + 1)).2 (eQ (2 * 0 + 1)).1 0 = -4 := by decide +kernel
theorem z_as : askC (eQ (2 * 0)).2 (eQ (2 * 0)).1 (eQ (2 * 0 + 1)).2 (eQ (2 * 0 + 1)).1 = 0 := by decide +kernel
theorem z_cl : clR (eQ (2 * 0 + 1)).1 (clQ (eQ (2 * 0)).2 (eQ (2 * 0)).1 (eQ (2 * 0 + 1)).2) (eQ (2 * 0 + 1)).1 0 = -4 := rfl
section
variable {G : ab_G} {nm : String} {X : ab_X} {L : Nat} {xs : Nat → Int32}
theorem lw_new {pc : Nat} {l : List (Nat × Value)} {st : List Value} {pre : List ab_E} (hS : ab_GS L xs G) (hX : ab_Good G (mLW nm) X) (hst : (st.map Value.category).sum ≤ 2) (d0 : decode cL_law pc = .ok (.new 18, 3)) (d1 : decode cL_law (pc + 3) = .ok (.dup, 1)) (d2 : decode cL_law (pc + 3 + 1) = .ok (.invokespecial 116, 3))
    (kk : ab_WA G (mLW nm) X (pc + 3 + 1 + 3) l (.ref (pre.length + 0) :: st) (ZH pre cz [])) : ab_WA G (mLW nm) X pc l st pre := by
  refine ab_new hX d0 ns_L_law_18 ?_
  refine ab_dup hX d1 rfl ?_
  have hc : ab_CM G mX11_init [.ref (pre.length + 0)] (pre ++ [.inr (12, [.null, .null, .null, .null, .null, .int 0, .null, .null])]) none (ZH pre cz []) := ab_lift hS (h1 := cH cz [] []) (fun G' g => i_X11 g.1) pre
  exact ab_callI0 hX d2 ss_L_law_116 hc (by rw [List.map_cons, List.sum_cons]; show 1 + _ ≤ 8; omega) kk
theorem tz_restore {l : List (Nat × Value)} {pre : List ab_E} (hS : ab_GS L xs G) (hX : ab_Good G (mLW nm) X) (kk : ∀ h : List ab_E, h.length = pre.length + 42 → ab_sz h = ab_sz pre + ab_sz (cC cz) → ab_WA G (mLW nm) X 15 l [] h) : ab_WA G (mLW nm) X 0 l [] pre := by
  refine lw_new hS hX (Nat.zero_le _) dL_law_0 dL_law_3 dL_law_4 ?_
  refine ab_callV0r hX dL_law_7 ZH_x ss_L_law_117 (ZC0 (pre := pre) hS (fun G' g => (cm_X11_restorez g.1 (M := []) rfl z_GI))) (Nat.le_of_ble_eq_true rfl) ?_
  rw [z_re.1, z_re.2]
  refine ab_bipush (v := -3) hX dL_law_10 (by decide) ?_
  exact ab_icmpne (tgt := 71) hX dL_law_12 (by decide) (fun h_ => absurd rfl h_) (fun _ => kk _ (ZH_len (pre := pre) (c := cz) (D := [])) ((ZH_sz (pre := pre) (c := cz) (D := [])).trans (by rw [show ab_sz [] = 0 from rfl]; rfl)))
theorem tz_image {l : List (Nat × Value)} {pre : List ab_E} (hS : ab_GS L xs G) (hX : ab_Good G (mLW nm) X) (kk : ∀ h : List ab_E, h.length = pre.length + 42 → ab_sz h = ab_sz pre + ab_sz (cC cz) → ab_WA G (mLW nm) X 28 l [] h) : ab_WA G (mLW nm) X 15 l [] pre := by
  refine lw_new hS hX (Nat.zero_le _) dL_law_15 dL_law_18 dL_law_19 ?_
  refine ab_callV0r hX dL_law_22 ZH_x ss_L_law_120 (ZC0 (pre := pre) hS (fun G' g => (cm_X11_imagez g.1 (M := []) rfl z_GI))) (Nat.le_of_ble_eq_true rfl) ?_
  exact ab_ifne (tgt := 71) hX dL_law_25 (by decide) (fun h_ => absurd rfl h_) (fun _ => kk _ (ZH_len (pre := pre) (c := (imgPz cz [] eQ).1) (D := (imgPz cz [] eQ).2)) ((ZH_sz (pre := pre) (c := (imgPz cz [] eQ).1) (D := (imgPz cz [] eQ).2)).trans (by rw [show ab_sz (imgPz cz [] eQ).2 = 0 from rfl]; rfl)))
theorem tz_plain {l : List (Nat × Value)} {pre : List ab_E} (hS : ab_GS L xs G) (hX : ab_Good G (mLW nm) X) (kk : ∀ h : List ab_E, h.length = pre.length + 42 → ab_sz h = ab_sz pre + ab_sz (cC cz) → ab_WA G (mLW nm) X 43 l [] h) : ab_WA G (mLW nm) X 28 l [] pre := by
  refine lw_new hS hX (Nat.zero_le _) dL_law_28 dL_law_31 dL_law_32 ?_
  refine ab_callV0r hX dL_law_35 ZH_x ss_L_law_98 (ZC0 (pre := pre) hS (fun G' g => (cm_X11_plainz g.1 (M := []) rfl (z_GI.1 (2 * 0) (by decide)) (z_GI.1 (2 * 0 + 1) (by decide)) (nw := 0) rfl (by decide)))) (Nat.le_of_ble_eq_true rfl) ?_
  rw [z_pl]
  refine ab_bipush (v := -4) hX dL_law_38 (by decide) ?_
  exact ab_icmpne (tgt := 71) hX dL_law_40 (by decide) (fun h_ => absurd rfl h_) (fun _ => kk _ (ZH_len (pre := pre) (c := cz) (D := [])) ((ZH_sz (pre := pre) (c := cz) (D := [])).trans (by rw [show ab_sz [] = 0 from rfl]; rfl)))
theorem tz_ask {l : List (Nat × Value)} {pre : List ab_E} (hS : ab_GS L xs G) (hX : ab_Good G (mLW nm) X) (kk : ∀ h : List ab_E, h.length = pre.length + 42 → ab_sz h = ab_sz pre + ab_sz (cC cz) → ab_WA G (mLW nm) X 56 l [] h) : ab_WA G (mLW nm) X 43 l [] pre := by
  refine lw_new hS hX (Nat.zero_le _) dL_law_43 dL_law_46 dL_law_47 ?_
  refine ab_callV0r hX dL_law_50 ZH_x ss_L_law_95 (ZC0 (pre := pre) hS (fun G' g => (cm_X11_askz g.1 (M := []) rfl (z_GI.1 (2 * 0) (by decide)) (z_GI.1 (2 * 0 + 1) (by decide))))) (Nat.le_of_ble_eq_true rfl) ?_
  rw [z_as]
  exact ab_ifne (tgt := 71) hX dL_law_53 (by decide) (fun h_ => absurd rfl h_) (fun _ => kk _ (ZH_len (pre := pre) (c := cz) (D := [])) ((ZH_sz (pre := pre) (c := cz) (D := [])).trans (by rw [show ab_sz [] = 0 from rfl]; rfl)))
theorem tz_clash {l : List (Nat × Value)} {pre : List ab_E} (hS : ab_GS L xs G) (hX : ab_Good G (mLW nm) X) (kk : ∀ h : List ab_E, h.length = pre.length + 42 → ab_sz h = ab_sz pre + ab_sz (cC cz) → ab_WA G (mLW nm) X 73 l [] h) : ab_WA G (mLW nm) X 56 l [] pre := by
  refine lw_new hS hX (Nat.zero_le _) dL_law_56 dL_law_59 dL_law_60 ?_
  refine ab_callV0r hX dL_law_63 ZH_x ss_L_law_88 (ZC0 (pre := pre) hS (fun G' g => (cm_X11_clashz g.1 (M := []) rfl (z_GI.1 (2 * 0) (by decide)) (z_GI.1 (2 * 0 + 1) (by decide))))) (Nat.le_of_ble_eq_true rfl) ?_
  rw [z_cl]
  refine ab_bipush (v := -4) hX dL_law_66 (by decide) ?_
  exact ab_icmpeq (tgt := 73) hX dL_law_68 (by decide) (fun _ => kk _ (ZH_len (pre := pre) (c := cz) (D := [])) ((ZH_sz (pre := pre) (c := cz) (D := [])).trans (by rw [show ab_sz [] = 0 from rfl]; rfl))) (fun h_ => absurd rfl h_)
theorem szC (c : CS) : ab_sz (cC c) = ab_sz (cC cz) := rfl
theorem szC2 : ab_sz (cC cz) ≤ 2000 := by decide +kernel
theorem LH_0 {pre : List ab_E} : ZH pre cz [] ++ [.inl (0, 35, .inl (fun _ => 0))] = LH pre cz (fun _ => 0) [] := by
  unfold ZH LH cH
  rw [List.map_append, List.map_append, List.map_append, List.map_append, List.append_assoc, List.append_assoc, List.append_assoc]
  rfl
theorem tz_world {pre : List ab_E} (hS : ab_GS L xs G) (hX : ab_Good G (mLW nm) X) (hL : L ≤ 260)
    (kk : ab_WA G (mLW nm) X 92 [(2, .ref (pre.length + 42)), (1, .ref (pre.length + 0)), (0, .float 1)] [] (LH pre (w3S L xs cz []).1 (w3S L xs cz []).2.2 (w3S L xs cz []).2.1)) : ab_WA G (mLW nm) X 73 [(0, .float 1)] [] pre := by
  refine lw_new hS hX (Nat.zero_le _) dL_law_73 dL_law_76 dL_law_77 ?_
  refine ab_astore_n hX dL_law_80 rfl (show 1 < 15 by decide) rfl ?_
  refine ab_bipush (v := 35) hX dL_law_81 (by decide) ?_
  refine ab_newint (N := 35) hX dL_law_83 tw_102 (by decide) rfl (by decide) ?_
  rw [LH_0, ZH_len]
  refine ab_astore_n hX dL_law_85 rfl (show 2 < 15 by decide) rfl ?_
  refine ab_aload_n hX dL_law_86 mm1 ?_
  refine ab_aload_nS hX dL_law_87 mm2 ?_
  refine ab_aload_n hX dL_law_88 mm0 ?_
  exact ab_callS3v hX dL_law_89 ss_L_law_123 (LCw (pre := pre) hS (fun G' g => cm_L_world g.1 g.2 hL c_PI rfl rfl)) (Nat.le_of_ble_eq_true rfl) kk
end
