def elR (p : CD) (k i : Nat) : Nat := match p.1.2.2.2 k with
  | .ref a => (arrF p.2[a - 43]? i).getD 0
  | _ => 0
theorem el_1 {p : CD} {k i e r : Nat} {f : Nat → Option Nat} (h : p.1.2.2.2 k = .ref (43 + e)) (hD : p.2[e]? = some (.inl (2, 10, .inr (.inr (.inr (.inr f)))))) (hf : f i = some (43 + r)) : elR p k i = 43 + r := by
  unfold elR
  simp only [h, Nat.add_sub_cancel_left, hD, arrF, hf, Option.getD_some]
theorem cL_read2 {G : ab_G} (hG : ab_GG G) {p : CD} {M : List ab_E} (hM : M.length = 1) {l n i : Nat} {q : Nat → SY} (hl : l < 6) (h : cL p.1 p.2 l n q) (hi : i < n) : ∃ r, p.2[r]? = some (.inr (8, syF (q i))) ∧ elR p l i = 43 + r ∧ ab_CM G mJx4a65c_get_915e3 [.ref (alR l), .int (nI i)] (cH p.1 M p.2) (some (.ref (43 + r))) (cH p.1 M p.2) := by
  obtain ⟨e, f, r, h1, h2, h3, h4⟩ := cL_get h hi
  have hb : (cH p.1 M p.2)[alR l]? = some (.inr (0, [.int (p.1.1 (40 + l)), .ref (43 + e), .int (p.1.1 (30 + l))])) := by
    rw [← h1]
    exact cg_al hl
  exact ⟨r, h4, el_1 h1 h2 h3, cm_Jx4a65c_get_915e3 hG hb (cD_get hM h2) rfl h.1 hi h.2.1 h3⟩
def adS (l k : Nat) (i : Nat) (p : CD) : CD := adP l (elR p k i) p
def rfP (l k n : Nat) (p : CD) : CD := acc (adS l k) (clP l p) n
theorem GI_q {c : CS} {D : List ab_E} {Q Q2 : Nat → Nat × (Nat → SY)} (h : GI c D Q) (e : ∀ l, l < 6 → (Q2 l).1 = (Q l).1 ∧ ∀ i, i < (Q l).1 → (Q2 l).2 i = (Q l).2 i) : GI c D Q2 := by
  refine ⟨fun l hl => ?_, h.2⟩
  obtain ⟨e1, e2⟩ := e l hl
  rw [e1]
  exact cL_q (h.1 l hl) e2
theorem upQ_ne {Q : Nat → Nat × (Nat → SY)} {l k n : Nat} {q : Nat → SY} (h : k ≠ l) : upQ Q l n q k = Q k := if_neg h
theorem upQ_eq {Q : Nat → Nat × (Nat → SY)} {l n : Nat} {q : Nat → SY} : upQ Q l n q l = (n, q) := if_pos rfl
/-- while a list is filled from another -/
theorem rf_I {c : CS} {D : List ab_E} {Q : Nat → Nat × (Nat → SY)} {l k : Nat} (h : GI c D Q) (hl : l < 6) (hk : k < 6) (hne : l ≠ k) : ∀ i, i ≤ (Q k).1 → GI (acc (adS l k) (clP l (c, D)) i).1 (acc (adS l k) (clP l (c, D)) i).2 (upQ Q l i (Q k).2)
  | 0, _ => GI_cl (Q k).2 h hl
  | i + 1, hi => by
    have r := rf_I h hl hk hne i (by omega)
    have z := r.1 k hk
    rw [upQ_ne (Ne.symm hne)] at z
    obtain ⟨e, f, a, h1, h2, h3, h4⟩ := cL_get z (show i < (Q k).1 by omega)
    have e1 := el_1 h1 h2 h3
    have w := GI_ad (l := l) r hl (by rw [upQ_eq]; have := (h.1 k hk).2.1; show i < 10; omega) h4 ((h.1 k hk).2.2.2 i (by omega))
    rw [acc_s, show adS l k i (acc (adS l k) (clP l (c, D)) i) = adP l (43 + a) (acc (adS l k) (clP l (c, D)) i) from congrArg (fun z => adP l z _) e1]
    refine GI_q w fun j hj => ?_
    by_cases q : j = l
    · subst q
      rw [upQ_eq, upQ_eq, upQ_eq]
      refine ⟨rfl, fun b hb => ?_⟩
      show (Q k).2 b = if b = i then (Q k).2 i else (Q k).2 b
      by_cases q2 : b = i
      · rw [if_pos q2, q2]
      · rw [if_neg q2]
    · rw [upQ_ne q, upQ_ne q, upQ_ne q]
      exact ⟨rfl, fun _ _ => rfl⟩
theorem rf_k {c : CS} {D : List ab_E} {Q : Nat → Nat × (Nat → SY)} {l k : Nat} (h : GI c D Q) (hl : l < 6) (hk : k < 6) (hne : l ≠ k) {i : Nat} (hi : i ≤ (Q k).1) : cL (acc (adS l k) (clP l (c, D)) i).1 (acc (adS l k) (clP l (c, D)) i).2 k (Q k).1 (Q k).2 := by
  have z := (rf_I h hl hk hne i hi).1 k hk
  rw [upQ_ne (Ne.symm hne)] at z
  exact z
theorem rf_l {c : CS} {D : List ab_E} {Q : Nat → Nat × (Nat → SY)} {l k : Nat} (h : GI c D Q) (hl : l < 6) (hk : k < 6) (hne : l ≠ k) {i : Nat} (hi : i ≤ (Q k).1) : cL (acc (adS l k) (clP l (c, D)) i).1 (acc (adS l k) (clP l (c, D)) i).2 l i (Q k).2 := by
  have z := (rf_I h hl hk hne i hi).1 l hl
  rw [upQ_eq] at z
  exact z
theorem le_rfP {c : CS} {D : List ab_E} {Q : Nat → Nat × (Nat → SY)} {l k : Nat} (h : GI c D Q) (hl : l < 6) (hk : k < 6) (hne : l ≠ k) : ∀ i, i ≤ (Q k).1 → leD D (acc (adS l k) (clP l (c, D)) i).2
  | 0, _ => le_cl (h.1 l hl)
  | i + 1, hi => le_tr (le_rfP h hl hk hne i (by omega)) (le_ad (rf_l h hl hk hne (show i ≤ (Q k).1 by omega)))
def kwF (t u : Nat) (w : Nat) (c : CS) : CS := cu2 c t w (c.2.1 u w)
def beC (t u : Nat) (c : CS) : CS := cu1 (cu1 (acc (kwF t u) c 5) (10 + t) ((acc (kwF t u) c 5).1 (10 + u))) (20 + t) ((cu1 (acc (kwF t u) c 5) (10 + t) ((acc (kwF t u) c 5).1 (10 + u))).1 (20 + u))
def be2 (t u n0 n1 : Nat) (p : CD) : CD := rfP (2 * t + 1) (2 * u + 1) n1 (rfP (2 * t) (2 * u) n0 p)
def beP (t u n0 n1 : Nat) (p : CD) : CD := (beC t u (be2 t u n0 n1 p).1, (be2 t u n0 n1 p).2)
def beQ (t u : Nat) (Q : Nat → Nat × (Nat → SY)) : Nat → Nat × (Nat → SY) := upQ (upQ Q (2 * t) (Q (2 * u)).1 (Q (2 * u)).2) (2 * t + 1) (Q (2 * u + 1)).1 (Q (2 * u + 1)).2
theorem be_1 {c : CS} {D : List ab_E} {Q : Nat → Nat × (Nat → SY)} {t u : Nat} (h : GI c D Q) (ht : t < 3) (hu : u < 3) (hne : t ≠ u) : GI (rfP (2 * t) (2 * u) (Q (2 * u)).1 (c, D)).1 (rfP (2 * t) (2 * u) (Q (2 * u)).1 (c, D)).2 (upQ Q (2 * t) (Q (2 * u)).1 (Q (2 * u)).2) := rf_I h (by omega) (by omega) (by omega) _ (Nat.le_refl _)
theorem be_2 {c : CS} {D : List ab_E} {Q : Nat → Nat × (Nat → SY)} {t u : Nat} (h : GI c D Q) (ht : t < 3) (hu : u < 3) (hne : t ≠ u) : GI (be2 t u (Q (2 * u)).1 (Q (2 * u + 1)).1 (c, D)).1 (be2 t u (Q (2 * u)).1 (Q (2 * u + 1)).1 (c, D)).2 (beQ t u Q) := by
  have z := rf_I (l := 2 * t + 1) (k := 2 * u + 1) (be_1 h ht hu hne) (by omega) (by omega) (by omega) (Q (2 * u + 1)).1 (by rw [upQ_ne (by omega)]; exact Nat.le_refl _)
  rw [upQ_ne (show 2 * u + 1 ≠ 2 * t by omega)] at z
  exact z
theorem acc_c {f : Nat → CS → CS} {α : Type} (g : CS → α) (hf : ∀ i c, g (f i c) = g c) (c : CS) : ∀ n, g (acc f c n) = g c
  | 0 => rfl
  | n + 1 => (hf n _).trans (acc_c g hf c n)
theorem beC_1 {t u k : Nat} {c : CS} (h1 : k ≠ 10 + t) (h2 : k ≠ 20 + t) : (beC t u c).1 k = c.1 k := by
  unfold beC
  show upd (upd _ (10 + t) _) (20 + t) _ k = _
  rw [pk_un h2, pk_un h1]
  exact acc_c (fun c => c.1 k) (fun _ _ => rfl) c 5
theorem beC_4 {t u k : Nat} {c : CS} : (beC t u c).2.2.2 k = c.2.2.2 k := acc_c (f := kwF t u) (fun c => c.2.2.2 k) (fun _ _ => rfl) c 5
theorem be_G {c : CS} {D : List ab_E} {Q : Nat → Nat × (Nat → SY)} {t u : Nat} (h : GI c D Q) (ht : t < 3) (hu : u < 3) (hne : t ≠ u) : GI (beP t u (Q (2 * u)).1 (Q (2 * u + 1)).1 (c, D)).1 (beP t u (Q (2 * u)).1 (Q (2 * u + 1)).1 (c, D)).2 (beQ t u Q) :=
  GI_c (be_2 h ht hu hne) (fun l hl => beC_1 (by omega) (by omega)) (fun l hl => beC_4)
theorem le_be {c : CS} {D : List ab_E} {Q : Nat → Nat × (Nat → SY)} {t u : Nat} (h : GI c D Q) (ht : t < 3) (hu : u < 3) (hne : t ≠ u) : leD D (beP t u (Q (2 * u)).1 (Q (2 * u + 1)).1 (c, D)).2 := by
  have a := le_rfP h (l := 2 * t) (k := 2 * u) (by omega) (by omega) (by omega) (Q (2 * u)).1 (Nat.le_refl _)
  have b := le_rfP (be_1 h ht hu hne) (l := 2 * t + 1) (k := 2 * u + 1) (by omega) (by omega) (by omega) (Q (2 * u + 1)).1 (by rw [upQ_ne (by omega)]; exact Nat.le_refl _)
  exact le_tr a b
theorem kb_n {c : CS} {t w : Nat} (h : w < 5) : kbT c t (nI w) = c.2.1 t w := by
  rw [kbT, if_neg (nI_pos (by omega)), if_neg (show ¬ (5 : Int32) ≤ nI w from nI_ge (b := 5) h (by decide)), tn_nI (by omega)]
theorem cm_X10_refill {G : ab_G} (hG : ab_GG G) {c : CS} {M D : List ab_E} (hM : M.length = 1) {Q : Nat → Nat × (Nat → SY)} {l k n : Nat} (hl : l < 6) (hk : k < 6) (hne : l ≠ k) (hGI : GI c D Q) (hn : (Q k).1 = n) : ab_CM G mX10_refill [.ref (alR l), .ref (alR k)] (cH c M D) (none) (cH (rfP l k n (c, D)).1 M (rfP l k n (c, D)).2) := by
  subst hn
  refine ab_meth (l0 := [(0, .ref (alR l)), (1, .ref (alR k))]) hG (by decide +kernel) rfl (Nat.le_of_ble_eq_true rfl) (cH_lenE (le_rfP hGI hl hk hne _ (Nat.le_refl _)).1) (cH_szE (le_rfP hGI hl hk hne _ (Nat.le_refl _)).2) (fun X hX hF => ?_)
  refine ab_aload_n hX dX10_refill_0 mm0 ?_
  refine ab_callV0v hX dX10_refill_1 (cg_al hl) ss_X10_refill_40 (cP_clear hG hM hl (hGI.1 l hl)) (Nat.le_of_ble_eq_true rfl) ?_
  refine ab_iconst (v := 0) hX dX10_refill_4 (by decide) ?_
  refine ab_istore_n hX dX10_refill_5 rfl (by decide) rfl ?_
  have L6 : ∀ (k6_ : Nat) (i : Nat) (hi_ : i ≤ (Q k).1), k6_ = (Q k).1 - i → ab_WA G mX10_refill X 6 [(0, .ref (alR l)), (1, .ref (alR k)), (2, .int (nI i))] [] (cH (acc (adS l k) (clP l (c, D)) i).1 M (acc (adS l k) (clP l (c, D)) i).2) := by
    intro k6_
    induction k6_ using Nat.strongRecOn with
    | _ k6_ ih6 =>
      intro i hi_ hk6_
      have hRk := rf_k hGI hl hk hne hi_
      have hRl := rf_l hGI hl hk hne hi_
      have hk10 := hRk.2.1
      refine ab_iload_n hX dX10_refill_6 mm2 ?_
      refine ab_aload_n hX dX10_refill_7 mm1 ?_
      refine ab_callV0r hX dX10_refill_8 (cg_al hk) ss_X10_refill_43 (cm_Jx4a65c_size_8abf5 hG (cg_al hk)) (Nat.le_of_ble_eq_true rfl) ?_
      refine ab_icmpge (tgt := 33) hX dX10_refill_11 (by decide) (fun h_1 => ?_) (fun h_1 => ?_)
      ·
        have hx_ := ctE (N := (Q k).1) h_1 (by exact hRk.1) (by omega) (by have := hRk.2.1; omega)
        obtain rfl : i = (Q k).1 := by omega
        exact ab_vreturn hX hF dX10_refill_33 rfl rfl (by rfl)
      ·
        have hlt_ := ctL (N := (Q k).1) h_1 (by exact hRk.1) (by have := hRk.2.1; omega) (by have := hRk.2.1; omega)
        refine ab_aload_n hX dX10_refill_14 mm0 ?_
        refine ab_aload_n hX dX10_refill_15 mm1 ?_
        refine ab_iload_n hX dX10_refill_16 mm2 ?_
        obtain ⟨r_, hr_, he_, hc_⟩ := cL_read2 hG (p := (acc (adS l k) (clP l (c, D)) i)) hM hk hRk hlt_
        refine ab_callV1r hX dX10_refill_17 (cg_al hk) ss_X10_refill_47 hc_ (Nat.le_of_ble_eq_true rfl) ?_
        refine ab_castS hX dX10_refill_20 (cD_get hM hr_) rfl tw_333 ?_
        refine ab_callV1r hX dX10_refill_23 (cg_al hl) ss_X10_refill_53 (cP_add hG hM hl hRl (by have := hRk.2.1; omega) (cD_get hM hr_)) (Nat.le_of_ble_eq_true rfl) ?_
        refine ab_pop hX dX10_refill_26 rfl ?_
        refine ab_iinc hX dX10_refill_27 mm2 rfl (by decide) rfl ?_
        refine ab_goto (tgt := 6) hX dX10_refill_30 (by decide) ?_
        exact ab_pm3 mm1 mm2 (mmv0 (congrArg Value.int (by exact (nI_1 _).symm))) (ab_hp (by rw [acc_s (adS l k), show adS l k i (acc (adS l k) (clP l (c, D)) i) = adP l (43 + r_) (acc (adS l k) (clP l (c, D)) i) from congrArg (fun z => adP l z _) he_]) (ih6 (_) (by omega) (i + 1) (by omega) rfl))
  exact ab_pm3 mm1 mm2 (mmv0 (congrArg Value.int (by rfl))) (L6 _ 0 (by omega) rfl)
theorem cm_X10_becomes {G : ab_G} (hG : ab_GG G) {c : CS} {M D : List ab_E} (hM : M.length = 1) {Q : Nat → Nat × (Nat → SY)} {t u : Nat} (ht : t < 3) (hu : u < 3) (hne : t ≠ u) (hGI : GI c D Q) : ab_CM G mX10_becomes [.ref (trR t), .ref (trR u)] (cH c M D) (none) (cH (beP t u (Q (2 * u)).1 (Q (2 * u + 1)).1 (c, D)).1 M (beP t u (Q (2 * u)).1 (Q (2 * u + 1)).1 (c, D)).2) := by
  refine ab_meth (l0 := [(0, .ref (trR t)), (1, .ref (trR u))]) hG (by decide +kernel) rfl (Nat.le_of_ble_eq_true rfl) (cH_lenE (le_be hGI ht hu hne).1) (cH_szE (le_be hGI ht hu hne).2) (fun X hX hF => ?_)
  refine ab_aload_n hX dX10_becomes_0 mm0 ?_
  refine ab_getfield hX dX10_becomes_1 (fs_X10_12_11 rfl) (cg_tr ht) rfl ?_
  refine ab_aload_n hX dX10_becomes_4 mm1 ?_
  refine ab_getfield hX dX10_becomes_5 (fs_X10_12_11 rfl) (cg_tr hu) rfl ?_
  refine ab_callS2v hX dX10_becomes_8 ss_X10_becomes_25 (cm_X10_refill hG hM (by omega) (by omega) (by omega) hGI rfl) (Nat.le_of_ble_eq_true rfl) ?_
  refine ab_aload_n hX dX10_becomes_11 mm0 ?_
  refine ab_getfield hX dX10_becomes_12 (fs_X10_18_11 rfl) (cg_tr ht) rfl ?_
  refine ab_aload_n hX dX10_becomes_15 mm1 ?_
  refine ab_getfield hX dX10_becomes_16 (fs_X10_18_11 rfl) (cg_tr hu) rfl ?_
  refine ab_callS2v hX dX10_becomes_19 ss_X10_becomes_25 (cm_X10_refill hG hM (by omega) (by omega) (by omega) (be_1 hGI ht hu hne) (by rw [upQ_ne (show 2 * u + 1 ≠ 2 * t by omega)])) (Nat.le_of_ble_eq_true rfl) ?_
  refine ab_iconst (v := 0) hX dX10_becomes_22 (by decide) ?_
  refine ab_istore_n hX dX10_becomes_23 rfl (by decide) rfl ?_
  have L24 : ∀ (k24_ : Nat) (w : Nat) (hw_ : w ≤ 5), k24_ = 5 - w → ab_WA G mX10_becomes X 24 [(0, .ref (trR t)), (1, .ref (trR u)), (2, .int (nI w))] [] (cH (acc (kwF t u) (be2 t u (Q (2 * u)).1 (Q (2 * u + 1)).1 (c, D)).1 w) M (be2 t u (Q (2 * u)).1 (Q (2 * u + 1)).1 (c, D)).2) := by
    intro k24_
    induction k24_ using Nat.strongRecOn with
    | _ k24_ ih24 =>
      intro w hw_ hk24_
      refine ab_iload_n hX dX10_becomes_24 mm2 ?_
      refine ab_aload_n hX dX10_becomes_25 mm0 ?_
      refine ab_getfield hX dX10_becomes_26 (fs_X10_21_11 rfl) (cg_tr ht) rfl ?_
      refine ab_alen (v := 5) hX dX10_becomes_29 (cg_kn ht) (by decide) rfl ?_
      refine ab_icmpge (tgt := 50) hX dX10_becomes_30 (by decide) (fun h_1 => ?_) (fun h_1 => ?_)
      ·
        have hx_ := ctE (N := 5) h_1 (by rfl) (by omega) (by omega)
        obtain rfl : 5 = w := by omega
        refine ab_aload_n hX dX10_becomes_50 mm0 ?_
        refine ab_aload_n hX dX10_becomes_51 mm1 ?_
        refine ab_getfield hX dX10_becomes_52 (fs_X10_33_11 rfl) (cg_tr hu) rfl ?_
        refine ab_putfield hX dX10_becomes_55 ps_X10_becomes_33_11 (cg_tr ht) (Nat.le_of_ble_eq_true rfl) rfl rfl (cs_trw ht) ?_
        refine ab_aload_n hX dX10_becomes_58 mm0 ?_
        refine ab_aload_n hX dX10_becomes_59 mm1 ?_
        refine ab_getfield hX dX10_becomes_60 (fs_X10_37_11 rfl) (cg_tr hu) rfl ?_
        refine ab_putfield hX dX10_becomes_63 ps_X10_becomes_37_11 (cg_tr ht) (Nat.le_of_ble_eq_true rfl) rfl rfl (cs_tru ht) ?_
        exact ab_vreturn hX hF dX10_becomes_66 rfl rfl (by rfl)
      ·
        have hlt_ := ctL (N := 5) h_1 (by rfl) (by omega) (by omega)
        refine ab_aload_n hX dX10_becomes_33 mm0 ?_
        refine ab_getfield hX dX10_becomes_34 (fs_X10_21_11 rfl) (cg_tr ht) rfl ?_
        refine ab_iload_n hX dX10_becomes_37 mm2 ?_
        refine ab_aload_n hX dX10_becomes_38 mm1 ?_
        refine ab_iload_n hX dX10_becomes_39 mm2 ?_
        refine ab_callV1r hX dX10_becomes_40 (cg_tr hu) ss_X10_becomes_29 (cm_X10_knownBy hG hM hu) (Nat.le_of_ble_eq_true rfl) ?_
        rw [kb_n hlt_]
        refine ab_iast (i := w) hX dX10_becomes_43 (cg_kn ht) rfl (by omega) (by decide) (cs_kn ht) ?_
        refine ab_iinc hX dX10_becomes_44 mm2 rfl (by decide) rfl ?_
        refine ab_goto (tgt := 24) hX dX10_becomes_47 (by decide) ?_
        exact ab_pm3 mm1 mm2 (mmv0 (congrArg Value.int (by exact (nI_1 _).symm))) (ab_hp (by rw [acc_s (kwF t u)]; rfl) (ih24 (_) (by omega) (w + 1) (by omega) rfl))
  exact ab_pm3 mm1 mm2 (mmv0 (congrArg Value.int (by rfl))) (L24 _ 0 (by omega) rfl)
def imgP (c : CS) (D : List ab_E) (Q : Nat → Nat × (Nat → SY)) : CD := (cu1 (beP 1 0 (Q (2 * 0)).1 (Q (2 * 0 + 1)).1 (c, D)).1 0 1, (beP 1 0 (Q (2 * 0)).1 (Q (2 * 0 + 1)).1 (c, D)).2)
def rstP (c : CS) (D : List ab_E) (Q : Nat → Nat × (Nat → SY)) : CD := if c.1 0 = 0 then (c, D) else beP 0 1 (Q (2 * 1)).1 (Q (2 * 1 + 1)).1 (c, D)
def rstR (c : CS) (Q : Nat → Nat × (Nat → SY)) : Int32 := if c.1 0 = 0 then -3 else nI (Q (2 * 1 + 1)).1
theorem le_rst {c : CS} {D : List ab_E} {Q : Nat → Nat × (Nat → SY)} (h : GI c D Q) : leD D (rstP c D Q).2 := by
  unfold rstP
  split
  · exact le_rf _
  · exact le_be h (by decide) (by decide) (by decide)
theorem cm_X11_image {G : ab_G} (hG : ab_GG G) {c : CS} {M D : List ab_E} (hM : M.length = 1)  {Q : Nat → Nat × (Nat → SY)} (hGI : GI c D Q) : ab_CM G mX11_image [.ref 0] (cH c M D) (some (.int (nI (Q (2 * 0 + 1)).1))) (cH (imgP c D Q).1 M (imgP c D Q).2) := by
  refine ab_meth (l0 := [(0, .ref 0)]) hG (by decide +kernel) rfl (Nat.le_of_ble_eq_true rfl) (cH_lenE (le_be hGI (by decide) (by decide) (by decide)).1) (cH_szE (le_be hGI (by decide) (by decide) (by decide)).2) (fun X hX hF => ?_)
  refine ab_aload_n hX dX11_image_0 mm0 ?_
  refine ab_getfield hX dX11_image_1 (fs_X11_29_12 rfl) cg_x rfl ?_
  refine ab_aload_n hX dX11_image_4 mm0 ?_
  refine ab_getfield hX dX11_image_5 (fs_X11_25_12 rfl) cg_x rfl ?_
  refine ab_callV1v hX dX11_image_8 (cg_tr (show 1 < 3 by decide)) ss_X11_image_323 (cm_X10_becomes hG hM (t := 1) (u := 0) (by decide) (by decide) (by decide) hGI) (Nat.le_of_ble_eq_true rfl) ?_
  refine ab_aload_n hX dX11_image_11 mm0 ?_
  refine ab_iconst (v := 1) hX dX11_image_12 (by decide) ?_
  refine ab_putfield hX dX11_image_13 ps_X11_image_327_12 cg_x (Nat.le_of_ble_eq_true rfl) rfl rfl cs_x ?_
  refine ab_aload_n hX dX11_image_16 mm0 ?_
  refine ab_getfield hX dX11_image_17 (fs_X11_25_12 rfl) cg_x rfl ?_
  refine ab_getfield hX dX11_image_20 (fs_X11_107_11 rfl) (cg_tr (show 0 < 3 by decide)) rfl ?_
  refine ab_callV0r hX dX11_image_23 (cg_al (by omega)) ss_X11_image_163 (cm_Jx4a65c_size_8abf5 hG (cg_al (by omega))) (Nat.le_of_ble_eq_true rfl) ?_
  exact ab_ireturn hX hF dX11_image_26 rfl (by rfl) (congrArg some (congrArg Value.int (by exact ((be_G hGI (t := 1) (u := 0) (by decide) (by decide) (by decide)).1 (2 * 0 + 1) (by decide)).1.symm))) (by rfl)
theorem cm_X11_restore {G : ab_G} (hG : ab_GG G) {c : CS} {M D : List ab_E} (hM : M.length = 1)  {Q : Nat → Nat × (Nat → SY)} (hGI : GI c D Q) : ab_CM G mX11_restore [.ref 0] (cH c M D) (some (.int (rstR c Q))) (cH (rstP c D Q).1 M (rstP c D Q).2) := by
  refine ab_meth (l0 := [(0, .ref 0)]) hG (by decide +kernel) rfl (Nat.le_of_ble_eq_true rfl) (cH_lenE (le_rst hGI).1) (cH_szE (le_rst hGI).2) (fun X hX hF => ?_)
  refine ab_aload_n hX dX11_restore_0 mm0 ?_
  refine ab_getfield hX dX11_restore_1 (fs_X11_327_12 rfl) cg_x rfl ?_
  refine ab_ifne (tgt := 10) hX dX11_restore_4 (by decide) (fun h_1 => ?_) (fun h_1 => ?_)
  ·
    refine ab_aload_n hX dX11_restore_10 mm0 ?_
    refine ab_getfield hX dX11_restore_11 (fs_X11_25_12 rfl) cg_x rfl ?_
    refine ab_aload_n hX dX11_restore_14 mm0 ?_
    refine ab_getfield hX dX11_restore_15 (fs_X11_29_12 rfl) cg_x rfl ?_
    refine ab_callV1v hX dX11_restore_18 (cg_tr (show 0 < 3 by decide)) ss_X11_restore_323 (cm_X10_becomes hG hM (t := 0) (u := 1) (by decide) (by decide) (by decide) hGI) (Nat.le_of_ble_eq_true rfl) ?_
    refine ab_aload_n hX dX11_restore_21 mm0 ?_
    refine ab_getfield hX dX11_restore_22 (fs_X11_25_12 rfl) cg_x rfl ?_
    refine ab_getfield hX dX11_restore_25 (fs_X11_107_11 rfl) (cg_tr (show 0 < 3 by decide)) rfl ?_
    refine ab_callV0r hX dX11_restore_28 (cg_al (by omega)) ss_X11_restore_163 (cm_Jx4a65c_size_8abf5 hG (cg_al (by omega))) (Nat.le_of_ble_eq_true rfl) ?_
    exact ab_ireturn hX hF dX11_restore_31 rfl (by rfl) (congrArg some (congrArg Value.int (by rw [rstR, if_neg ‹¬ c.1 0 = 0›]; exact ((be_G hGI (t := 0) (u := 1) (by decide) (by decide) (by decide)).1 (2 * 0 + 1) (by decide)).1.symm))) (by rw [rstP, if_neg ‹¬ c.1 0 = 0›])
  ·
    refine ab_bipush (v := (-3)) hX dX11_restore_7 (by decide) ?_
    exact ab_ireturn hX hF dX11_restore_9 rfl (by rfl) (congrArg some (congrArg Value.int (by rw [rstR, if_pos ‹c.1 0 = 0›]))) (by rw [rstP, if_pos ‹c.1 0 = 0›])

