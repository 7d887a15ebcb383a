theorem dg_2 {x : Int32} {m : Nat} (h : dgC x = nI m) (hm : m ≤ 5) : 2 ≤ m := by
  have e : ∀ m, m < 6 → ((4 : Int32) = nI m ∨ (5 : Int32) = nI m ∨ (2 : Int32) = nI m ∨ (-1 : Int32) = nI m) → 2 ≤ m := by decide
  refine e m (by omega) ?_
  unfold dgC at h
  split at h
  · exact Or.inl h
  · split at h
    · exact Or.inr (Or.inl h)
    · split at h
      · exact Or.inr (Or.inr (Or.inl h))
      · split at h
        · exact Or.inr (Or.inr (Or.inl h))
        · exact Or.inr (Or.inr (Or.inr h))
def enN (d : Nat) : Nat → Nat → Nat → CD → CD × Int32 × Bool
  | 0, k, _, p => (p, nI k, true)
  | m + 1, k, a, p => if nI a < p.1.1 (80 + d) then (if (enX d (nI a) p).2 = true then enN d m (k + 1) (a + (tn (dgC (nuA p.1 d (nI a))) + 2)) (enX d (nI a) p).1 else ((enX d (nI a) p).1, -2000 - nI a, false)) else (p, nI k, true)
theorem enN_s {d m k a : Nat} {p : CD} : enN d (m + 1) k a p = if nI a < p.1.1 (80 + d) then (if (enX d (nI a) p).2 = true then enN d m (k + 1) (a + (tn (dgC (nuA p.1 d (nI a))) + 2)) (enX d (nI a) p).1 else ((enX d (nI a) p).1, -2000 - nI a, false)) else (p, nI k, true) := rfl
theorem enN_end {d k a : Nat} {p : CD} (h : ¬ nI a < p.1.1 (80 + d)) : ∀ m, enN d m k a p = (p, nI k, true)
  | 0 => rfl
  | m + 1 => by rw [enN_s, if_neg h]
theorem en_I {c : CS} {d n : Nat} (hn : c.1 (80 + d) = nI n) (hn2 : n ≤ 100) : ∀ (m k a : Nat) (p : CD) (Q : Nat → Nat × (Nat → SY)) (nw : Nat), a ≤ 107 → (nI a < c.1 (80 + d) → ∃ q, bpN c d q a < 0 ∧ 101 ≤ a + q) → enI c p Q nw →
    ∃ Q2 nw2, enI c (enN d m k a p).1 Q2 nw2 ∧ leD p.2 (enN d m k a p).1.2 ∧ ∀ l, l < 4 → Q2 l = Q l
  | 0, k, a, p, Q, nw, _, _, h => ⟨Q, nw, h, le_rf _, fun _ _ => rfl⟩
  | m + 1, k, a, p, Q, nw, ha, hg, h => by
    have e8 : p.1.1 (80 + d) = c.1 (80 + d) := h.2.1.1 (80 + d) (by omega) (by omega) (by omega)
    rw [enN_s, e8]
    by_cases c1 : nI a < c.1 (80 + d)
    · rw [if_pos c1]
      have han : a < n := by rw [hn] at c1; exact (nI_ltI (by omega) (by omega)).mp c1
      obtain ⟨q, hb, hq⟩ := hg c1
      obtain ⟨Q2, nw2, z1, z2, z3, mm, hm5, hm, hgo⟩ := enX_I (by omega) hb hq h
      by_cases c2 : (enX d (nI a) p).2 = true
      · rw [if_pos c2, nu_fr h.2.1, hm, tn_nI (by omega), show a + (mm + 2) = a + (mm + 1) + 1 by omega]
        obtain ⟨Q3, nw3, y1, y2, y3⟩ := en_I hn hn2 m (k + 1) (a + (mm + 1) + 1) _ Q2 nw2 (by omega) hgo z1
        exact ⟨Q3, nw3, y1, le_tr z2 y2, fun l hl => (y3 l hl).trans (z3 l hl)⟩
      · rw [if_neg c2]
        exact ⟨Q2, nw2, z1, z2, z3⟩
    · rw [if_neg c1]
      exact ⟨Q, nw, h, le_rf _, fun _ _ => rfl⟩
def enZ (d : Nat) (p : CD) : CD × Int32 × Bool := enN d 27 0 0 p
def enB (c : CS) (D : List ab_E) (Q : Nat → Nat × (Nat → SY)) : CD := beP 2 0 (Q (2 * 0)).1 (Q (2 * 0 + 1)).1 (c, D)
def enF (p : CD) : CD := beP 0 2 (tn (p.1.1 (30 + 2 * 2))) (tn (p.1.1 (30 + (2 * 2 + 1)))) p
def enaP (d : Nat) (c : CS) (D : List ab_E) (Q : Nat → Nat × (Nat → SY)) : CD := if (enZ d (enB c D Q)).2.2 = true then enF (enZ d (enB c D Q)).1 else (enZ d (enB c D Q)).1
theorem enF_e {p : CD} {Q : Nat → Nat × (Nat → SY)} (h : GI p.1 p.2 Q) : beP 0 2 (Q (2 * 2)).1 (Q (2 * 2 + 1)).1 (p.1, p.2) = enF p := by
  have h4 := h.1 (2 * 2) (by decide)
  have h5 := h.1 (2 * 2 + 1) (by decide)
  have b4 := h4.2.1
  have b5 := h5.2.1
  unfold enF
  rw [h4.1, h5.1, tn_nI (by omega), tn_nI (by omega)]
theorem fr_be2 {u n0 n1 : Nat} {p : CD} : frT p.1 (be2 2 u n0 n1 p).1 := fr_tr (fr_tr (fr_cl (by decide)) (fr_acc (by decide) n0)) (fr_tr (fr_cl (by decide)) (fr_acc (by decide) n1))
theorem beC_w {t u : Nat} {c : CS} : (beC t u c).1 (10 + t) = c.1 (10 + u) := by
  unfold beC
  have h : 10 + t ≠ 20 + t := by omega
  exact (pk_un h).trans (pk_us.trans (acc_c (f := kwF t u) (fun c => c.1 (10 + u)) (fun _ _ => rfl) c 5))
theorem enB_I {c : CS} {D : List ab_E} {Q : Nat → Nat × (Nat → SY)} {nw : Nat} (h : GI c D Q) (hw : c.1 (10 + 0) = nI nw) (hw5 : nw ≤ 5) : enI c (enB c D Q) (beQ 2 0 Q) nw := by
  refine ⟨be_G h (by decide) (by decide) (by decide), fr_be, ?_, hw5⟩
  rw [← hw]
  refine (beC_w (t := 2) (u := 0) (c := (be2 2 0 (Q (2 * 0)).1 (Q (2 * 0 + 1)).1 (c, D)).1)).trans ?_
  exact (fr_be2 (p := (c, D))).1 10 (by decide) (by decide) (by decide)
theorem le_ena {c : CS} {D : List ab_E} {Q : Nat → Nat × (Nat → SY)} {nw d n : Nat} (h : GI c D Q) (hw : c.1 (10 + 0) = nI nw) (hw5 : nw ≤ 5) (hn : c.1 (80 + d) = nI n) (hn2 : n ≤ 100) (hb : bpN c d 101 0 < 0) : leD D (enaP d c D Q).2 := by
  obtain ⟨Q2, nw2, z1, z2, z3⟩ := en_I hn hn2 27 0 0 (enB c D Q) _ nw (by omega) (fun _ => ⟨101, hb, by omega⟩) (enB_I h hw hw5)
  have e0 : leD D (enB c D Q).2 := le_be h (by decide) (by decide) (by decide)
  unfold enaP
  split
  · refine le_tr (le_tr e0 z2) ?_
    have e1 := le_be (t := 0) (u := 2) z1.1 (by decide) (by decide) (by decide)
    rw [enF_e z1.1] at e1
    exact e1
  · exact le_tr e0 z2
theorem cm_X11_enact {G : ab_G} (hG : ab_GG G) {c : CS} {M D : List ab_E} (hM : M.length = 1) {d : Nat} (hd : d < 8) {Q : Nat → Nat × (Nat → SY)} (hGI : GI c D Q) {nw n : Nat} (hw : c.1 (10 + 0) = nI nw) (hw5 : nw ≤ 5) (hn : c.1 (80 + d) = nI n) (hn2 : n ≤ 100) (hb : bpN c d 101 0 < 0) : ab_CM G mX11_enact [.ref 0, .ref (26 + 2 * d)] (cH c M D) (some (.int (enZ d (enB c D Q)).2.1)) (cH (enaP d c D Q).1 M (enaP d c D Q).2) := by
  refine ab_meth (l0 := [(0, .ref 0), (1, .ref (26 + 2 * d))]) hG (by decide +kernel) rfl (Nat.le_of_ble_eq_true rfl) (cH_lenE (le_ena hGI hw hw5 hn hn2 hb).1) (cH_szE (le_ena hGI hw hw5 hn hn2 hb).2) (fun X hX hF => ?_)
  refine ab_aload_n hX dX11_enact_0 mm0 ?_
  refine ab_getfield hX dX11_enact_1 (fs_X11_32_12 rfl) cg_x rfl ?_
  refine ab_aload_n hX dX11_enact_4 mm0 ?_
  refine ab_getfield hX dX11_enact_5 (fs_X11_25_12 rfl) cg_x rfl ?_
  refine ab_callV1v hX dX11_enact_8 (cg_tr (show 2 < 3 by decide)) ss_X11_enact_323 (cm_X10_becomes hG hM (t := 2) (u := 0) (by decide) (by decide) (by decide) hGI) (Nat.le_of_ble_eq_true rfl) ?_
  refine ab_iconst (v := 0) hX dX11_enact_11 (by decide) ?_
  refine ab_istore_n hX dX11_enact_12 rfl (by decide) rfl ?_
  refine ab_iconst (v := 0) hX dX11_enact_13 (by decide) ?_
  refine ab_istore_n hX dX11_enact_14 rfl (by decide) rfl ?_
  have L15 : ∀ (k15_ : Nat) (m k a : Nat) (p : CD) (Q2 : Nat → Nat × (Nat → SY)) (nw2 : Nat) (hI : enI c p Q2 nw2) (ha : a ≤ 107) (hm : 108 ≤ a + 4 * m) (hk : 4 * k ≤ a) (hg : nI a < c.1 (80 + d) → ∃ q, bpN c d q a < 0 ∧ 101 ≤ a + q) (hr : enN d m k a p = enZ d (enB c D Q)), k15_ = m → ab_WA G mX11_enact X 15 [(0, .ref 0), (1, .ref (26 + 2 * d)), (2, .int (nI k)), (3, .int (nI a))] [] (cH p.1 M p.2) := by
    intro k15_
    induction k15_ using Nat.strongRecOn with
    | _ k15_ ih15 =>
      intro m k a p Q2 nw2 hI ha hm hk hg hr hk15_
      refine ab_iload_n hX dX11_enact_15 mm3 ?_
      refine ab_aload_n hX dX11_enact_16 mm1 ?_
      refine ab_getfield hX dX11_enact_17 (fs_X11_304_10 rfl) (cg_sd hd) rfl ?_
      refine ab_icmpge (tgt := 63) hX dX11_enact_20 (by decide) (fun h_1 => ?_) (fun h_1 => ?_)
      ·
        have hend := enN_end (k := k) (m := m) (show ¬ nI a < p.1.1 (80 + d) from Int32.not_lt.mpr h_1)
        rw [hend] at hr
        refine ab_aload_n hX dX11_enact_63 mm0 ?_
        refine ab_getfield hX dX11_enact_64 (fs_X11_25_12 rfl) cg_x rfl ?_
        refine ab_aload_n hX dX11_enact_67 mm0 ?_
        refine ab_getfield hX dX11_enact_68 (fs_X11_32_12 rfl) cg_x rfl ?_
        refine ab_callV1v hX dX11_enact_71 (cg_tr (show 0 < 3 by decide)) ss_X11_enact_323 (cm_X10_becomes hG hM (t := 0) (u := 2) (by decide) (by decide) (by decide) hI.1) (Nat.le_of_ble_eq_true rfl) ?_
        refine ab_iload_n hX dX11_enact_74 mm2 ?_
        exact ab_ireturn hX hF dX11_enact_75 rfl (by rfl) (congrArg some (congrArg Value.int (by rw [← hr]))) (by rw [enaP, ← hr, if_pos rfl, enF_e hI.1])
      ·
        have e8 : p.1.1 (80 + d) = c.1 (80 + d) := hI.2.1.1 (80 + d) (by omega) (by omega) (by omega)
        have hlt_ : nI a < p.1.1 (80 + d) := Int32.not_le.mp h_1
        have hltc : nI a < c.1 (80 + d) := by rw [← e8]; exact hlt_
        have han : a < n := by rw [hn] at hltc; exact (nI_ltI (by omega) (by omega)).mp hltc
        obtain ⟨m1, rfl⟩ : ∃ m1, m = m1 + 1 := ⟨m - 1, by omega⟩
        rw [enN_s, if_pos hlt_] at hr
        obtain ⟨q_, hb_, hq_⟩ := hg hltc
        obtain ⟨Q3, nw3, z1, z2, z3, mm, hm5, hmm, hgo⟩ := enX_I (by omega) hb_ hq_ hI
        have hmm2 := dg_2 hmm hm5
        rw [nu_fr hI.2.1, hmm, tn_nI (by omega), show a + (mm + 2) = a + (mm + 1) + 1 by omega] at hr
        have hk9 : ¬ (100 : Int32) ≤ nI k := nI_ge (b := 100) (by omega) (by decide)
        refine ab_iload_n hX dX11_enact_23 mm2 ?_
        refine ab_bipush (v := 100) hX dX11_enact_24 (by decide) ?_
        refine ab_icmpge (tgt := 63) hX dX11_enact_26 (by decide) (fun h_2 => (by contradiction)) (fun h_2 => ?_)
        refine ab_aload_n hX dX11_enact_29 mm0 ?_
        refine ab_aload_n hX dX11_enact_30 mm1 ?_
        refine ab_iload_n hX dX11_enact_31 mm3 ?_
        refine ab_callV2r hX dX11_enact_32 cg_x ss_X11_enact_415 (cm_X11_isEnacted hG hM hd hI.1 hI.2.2.1 hI.2.2.2) (Nat.le_of_ble_eq_true rfl) ?_
        rw [enX_e hI.1]
        refine ab_ifneB (tgt := 44) hX dX11_enact_35 (by decide) (fun h_3 => ?_) (fun h_3 => ?_)
        ·
          rw [if_pos h_3] at hr
          refine ab_iinc hX dX11_enact_44 mm2 rfl (by decide) rfl ?_
          refine ab_iload_n hX dX11_enact_47 mm3 ?_
          refine ab_aload_n hX dX11_enact_48 mm2 ?_
          refine ab_iload_n hX dX11_enact_49 mm3 ?_
          refine ab_callV1r hX dX11_enact_50 (cg_sd hd) ss_X11_enact_314 (cm_X9_numberAt hG hM hd) (Nat.le_of_ble_eq_true rfl) ?_
          refine ab_callS1r hX dX11_enact_53 ss_X11_enact_405 (cm_X11_digitsBehind hG) (Nat.le_of_ble_eq_true rfl) ?_
          refine ab_iconst (v := 2) hX dX11_enact_56 (by decide) ?_
          refine ab_iadd hX dX11_enact_57 ?_
          refine ab_iadd hX dX11_enact_58 ?_
          refine ab_istore_n hX dX11_enact_59 rfl (by decide) rfl ?_
          refine ab_goto (tgt := 15) hX dX11_enact_60 (by decide) ?_
          exact ab_pm4 mm2 mm3 (mmv1 (congrArg Value.int (by exact (nI_1 _).symm))) (mmv0 (congrArg Value.int (by rw [nu_fr z1.2.1, hmm, show nI mm + 2 = nI (mm + 2) from nI_add mm 2, nI_add]; exact congrArg nI (by omega)))) (ih15 (_) (by omega) m1 (k + 1) (a + (mm + 1) + 1) (enX d (nI a) p).1 Q3 nw3 z1 (by omega) (by omega) (by omega) hgo hr rfl)
        ·
          rw [if_neg (by rw [h_3]; exact Bool.false_ne_true)] at hr
          refine ab_sipush (v := (-2000)) hX dX11_enact_38 (by decide) ?_
          refine ab_iload_n hX dX11_enact_41 mm3 ?_
          refine ab_isub hX dX11_enact_42 ?_
          exact ab_ireturn hX hF dX11_enact_43 rfl (by rfl) (congrArg some (congrArg Value.int (by rw [← hr]))) (by rw [enaP, ← hr]; rfl)
  exact ab_pm4 mm2 mm3 (mmv1 (congrArg Value.int (by rfl))) (mmv0 (congrArg Value.int (by rfl))) (L15 _ 27 0 0 (enB c D Q) (beQ 2 0 Q) nw (enB_I hGI hw hw5) (by omega) (by omega) (by omega) (fun _ => ⟨101, hb, by omega⟩) rfl rfl)
theorem iw_7 {d : Int32} (h : iw d 0 7 = true) : ∃ j, j < 8 ∧ d = nI j ∧ tn d = j := by
  rcases sh_cases d with ⟨k, hk, e, -, et⟩ | hn
  · exact ⟨k, hk, e, et⟩
  · rw [hn] at h; cases h
def trlR (c : CS) (D : List ab_E) (Q : Nat → Nat × (Nat → SY)) (d : Int32) : Int32 := if iw d 0 7 = true then (if rfU c (tn d) 2 = 0 then (if c.1 (70 + tn d) = 0 then (if bpN c (tn d) 101 0 < 0 then (enZ (tn d) (enB c D Q)).2.1 else -1000 - bpN c (tn d) 101 0) else -12) else rfU c (tn d) 2) else -1
def trlP (c : CS) (D : List ab_E) (Q : Nat → Nat × (Nat → SY)) (d : Int32) : CD := if iw d 0 7 = true then (if rfU c (tn d) 2 = 0 then (if c.1 (70 + tn d) = 0 then (if bpN c (tn d) 101 0 < 0 then enaP (tn d) c D Q else (c, D)) else (c, D)) else (c, D)) else (c, D)
theorem le_trl {c : CS} {D : List ab_E} {Q : Nat → Nat × (Nat → SY)} {nw : Nat} (h : GI c D Q) (hR : rwI c) (hw : c.1 (10 + 0) = nI nw) (hw5 : nw ≤ 5) {d : Int32} : leD D (trlP c D Q d).2 := by
  unfold trlP
  split
  · rename_i h1
    obtain ⟨j, hj, -, hjt⟩ := iw_7 h1
    rw [hjt]
    split
    · rename_i h2
      obtain ⟨n, hn, hsec⟩ := hR _ hj (rf2 h2)
      split
      · split
        · exact le_ena h hw hw5 hsec hn ‹_›
        · exact le_rf _
      · exact le_rf _
    · exact le_rf _
  · exact le_rf _
theorem iw_7x : True := trivial
theorem cm_X11_trial {G : ab_G} (hG : ab_GG G) {c : CS} {M D : List ab_E} (hM : M.length = 1) {d : Int32} {Q : Nat → Nat × (Nat → SY)} (hGI : GI c D Q) (hR : rwI c) {nw : Nat} (hw : c.1 (10 + 0) = nI nw) (hw5 : nw ≤ 5) : ab_CM G mX11_trial [.ref 0, .int d] (cH c M D) (some (.int (trlR c D Q d))) (cH (trlP c D Q d).1 M (trlP c D Q d).2) := by
  refine ab_meth (l0 := [(0, .ref 0), (1, .int d)]) hG (by decide +kernel) rfl (Nat.le_of_ble_eq_true rfl) (cH_lenE (le_trl hGI hR hw hw5).1) (cH_szE (le_trl hGI hR hw hw5).2) (fun X hX hF => ?_)
  refine ab_aload_n hX dX11_trial_0 mm0 ?_
  refine ab_iload_n hX dX11_trial_1 mm1 ?_
  rcases sh_cases d with ⟨j, hj, rfl, jinc, jc⟩ | hno
  ·
    refine ab_callV1r hX dX11_trial_2 cg_x ss_X11_trial_75 (sh_ok hG hM hj) (Nat.le_of_ble_eq_true rfl) ?_
    refine ab_astore_n hX dX11_trial_5 rfl (by decide) rfl ?_
    refine ab_aload_n hX dX11_trial_6 mm0 ?_
    refine ab_ifnonnull (tgt := 12) hX dX11_trial_7 (by decide) ?_
    refine ab_aload_n hX dX11_trial_12 mm0 ?_
    refine ab_callV0r hX dX11_trial_13 (cg_sd hj) ss_X11_trial_79 (cm_X9_refusalAsRow hG hM hj) (Nat.le_of_ble_eq_true rfl) ?_
    refine ab_istore_n hX dX11_trial_16 rfl (by decide) rfl ?_
    refine ab_iload_n hX dX11_trial_17 mm0 ?_
    refine ab_ifeq (tgt := 23) hX dX11_trial_18 (by decide) (fun h_1 => ?_) (fun h_1 => ?_)
    ·
      obtain ⟨n, hn, hsec⟩ := hR _ hj (rf2 h_1)
      refine ab_aload_n hX dX11_trial_23 mm1 ?_
      refine ab_getfield hX dX11_trial_24 (fs_X11_83_10 rfl) (cg_sd hj) rfl ?_
      refine ab_ifeq (tgt := 33) hX dX11_trial_27 (by decide) (fun h_2 => ?_) (fun h_2 => ?_)
      ·
        refine ab_aload_n hX dX11_trial_33 mm1 ?_
        refine ab_callS1r hX dX11_trial_34 ss_X11_trial_87 (cm_X11_brokenPlace hG hM hj hsec hn) (Nat.le_of_ble_eq_true rfl) ?_
        refine ab_istore hX dX11_trial_37 (by decide) rfl ?_
        refine ab_iload hX dX11_trial_39 mm0 ?_
        refine ab_iflt (tgt := 53) hX dX11_trial_41 (by decide) (fun h_3 => ?_) (fun h_3 => ?_)
        ·
          refine ab_aload_n hX dX11_trial_53 mm3 ?_
          refine ab_aload_n hX dX11_trial_54 mm2 ?_
          refine ab_callV1r hX dX11_trial_55 cg_x ss_X11_trial_91 (cm_X11_enact hG hM hj hGI hw hw5 hsec hn ‹_›) (Nat.le_of_ble_eq_true rfl) ?_
          exact ab_ireturn hX hF dX11_trial_58 rfl (by rfl) (congrArg some (congrArg Value.int (by simp only [trlR, jinc, jc, h_1, h_2, h_3, ↓reduceIte, Bool.false_eq_true]))) (by first | rfl | (simp only [trlR, trlP, jinc, jc, h_1, h_2, h_3, ↓reduceIte, Bool.false_eq_true]; done) | (simp only [trlR, trlP, jinc, jc, h_1, h_2, h_3, ↓reduceIte, Bool.false_eq_true]; rfl))
        ·
          refine ab_sipush (v := (-1000)) hX dX11_trial_44 (by decide) ?_
          refine ab_iload hX dX11_trial_47 mm0 ?_
          refine ab_isub hX dX11_trial_49 ?_
          refine ab_goto (tgt := 58) hX dX11_trial_50 (by decide) ?_
          exact ab_ireturn hX hF dX11_trial_58 rfl (by rfl) (congrArg some (congrArg Value.int (by simp only [trlR, jinc, jc, h_1, h_2, h_3, ↓reduceIte, Bool.false_eq_true]))) (by first | rfl | (simp only [trlR, trlP, jinc, jc, h_1, h_2, h_3, ↓reduceIte, Bool.false_eq_true]; done) | (simp only [trlR, trlP, jinc, jc, h_1, h_2, h_3, ↓reduceIte, Bool.false_eq_true]; rfl))
      ·
        refine ab_bipush (v := (-12)) hX dX11_trial_30 (by decide) ?_
        exact ab_ireturn hX hF dX11_trial_32 rfl (by rfl) (congrArg some (congrArg Value.int (by first | rfl | (simp only [trlR, trlP, jinc, jc, h_1, h_2, ↓reduceIte, Bool.false_eq_true]; done) | (simp only [trlR, trlP, jinc, jc, h_1, h_2, ↓reduceIte, Bool.false_eq_true]; rfl) | (unfold trlR; (repeat' split) <;> first | rfl | contradiction | (simp_all; done))))) (by first | rfl | (simp only [trlR, trlP, jinc, jc, h_1, h_2, ↓reduceIte, Bool.false_eq_true]; done) | (simp only [trlR, trlP, jinc, jc, h_1, h_2, ↓reduceIte, Bool.false_eq_true]; rfl))
    ·
      refine ab_iload_n hX dX11_trial_21 mm0 ?_
      exact ab_ireturn hX hF dX11_trial_22 rfl (by rfl) (congrArg some (congrArg Value.int (by first | rfl | (simp only [trlR, trlP, jinc, jc, h_1, ↓reduceIte, Bool.false_eq_true]; done) | (simp only [trlR, trlP, jinc, jc, h_1, ↓reduceIte, Bool.false_eq_true]; rfl) | (unfold trlR; (repeat' split) <;> first | rfl | contradiction | (simp_all; done))))) (by first | rfl | (simp only [trlR, trlP, jinc, jc, h_1, ↓reduceIte, Bool.false_eq_true]; done) | (simp only [trlR, trlP, jinc, jc, h_1, ↓reduceIte, Bool.false_eq_true]; rfl))
  ·
    refine ab_callV1r hX dX11_trial_2 cg_x ss_X11_trial_75 (sh_no hG hM hno) (Nat.le_of_ble_eq_true rfl) ?_
    refine ab_astore_nN hX dX11_trial_5 rfl (by decide) rfl ?_
    refine ab_aload_nN hX dX11_trial_6 mm0 ?_
    refine ab_ifnonnullN hX dX11_trial_7 ?_
    refine ab_iconst (v := (-1)) hX dX11_trial_10 (by decide) ?_
    exact ab_ireturn hX hF dX11_trial_11 rfl (by rfl) (congrArg some (congrArg Value.int (by first | rfl | (simp only [trlR, trlP, hno, ↓reduceIte, Bool.false_eq_true]; done) | (simp only [trlR, trlP, hno, ↓reduceIte, Bool.false_eq_true]; rfl) | (unfold trlR; (repeat' split) <;> first | rfl | contradiction | (simp_all; done))))) (by first | rfl | (simp only [trlR, trlP, hno, ↓reduceIte, Bool.false_eq_true]; done) | (simp only [trlR, trlP, hno, ↓reduceIte, Bool.false_eq_true]; rfl))

