/-! lies, what all know, who slipped -/
def cdL (i : Nat) : Int32 := 100 * (nI i / 36) + 10 * f1C i + f2C i
theorem cd_lie : ∀ i, i < 288 → ¬ cdL i = -4 ∧ ¬ cdL i < 0 ∧ cdL i / 100 = nI (i / 36) ∧ m10 (cdL i / 10) = nI (i / 6 % 6) ∧ m10 (cdL i) = nI (i % 6) ∧ f1C i = nI (i / 6 % 6) ∧ f2C i = nI (i % 6) := by decide +kernel
/-- the lies tried so far: none, or a first that leaves most -/
def LPx (c : CS) (lf : Int64) (w : Int32) (n : Nat) (p : Int32 × Int32 × Int32) : Prop := p = (0, -4, -4) ∨ ∃ m i, 0 < m ∧ m ≤ n ∧ p.1 = nI m ∧ i < n ∧ ilB c i w = true ∧ p.2.1 = cdL i ∧ p.2.2 = lbc (lf &&& (wcC i ^^^ (-1)))
theorem lie_P (c : CS) (lf : Int64) (w : Int32) : ∀ n, n ≤ 288 → LPx c lf w n (acc (liG c lf w) (0, -4, -4) n)
  | 0, _ => Or.inl rfl
  | n + 1, h => by
    have ih := lie_P c lf w n (by omega)
    rw [acc_s]
    generalize acc (liG c lf w) (0, -4, -4) n = p at ih ⊢
    unfold liG
    by_cases q : ilB c n w = true
    · rw [if_pos q]
      rcases ih with rfl | ⟨m, i, h1, h2, h3, h4, h5, h6, h7⟩
      · have hn : ¬ lbc (lf &&& (wcC n ^^^ (-1))) ≤ -4 := fun z => by
          have z2 := lbc_0 (lf &&& (wcC n ^^^ (-1)))
          rw [fa_le] at z
          rw [fa_lt] at z2
          have e4 : (-4 : Int32).toInt = -4 := rfl
          have e0 : (0 : Int32).toInt = 0 := rfl
          rw [e4] at z
          rw [e0] at z2
          omega
        rw [if_neg hn]
        exact Or.inr ⟨1, n, by omega, by omega, rfl, by omega, q, rfl, rfl⟩
      · split
        · exact Or.inr ⟨m + 1, i, by omega, by omega, by show p.1 + 1 = _; rw [h3, nI_1], by omega, h5, h6, h7⟩
        · exact Or.inr ⟨m + 1, n, by omega, by omega, by show p.1 + 1 = _; rw [h3, nI_1], by omega, q, rfl, rfl⟩
    · rw [if_neg q]
      rcases ih with rfl | ⟨m, i, h1, h2, h3, h4, h5⟩
      · exact Or.inl rfl
      · exact Or.inr ⟨m, i, h1, by omega, h3, by omega, h5⟩
theorem le_4 (x : Int64) : (-4 : Int32) ≤ lbc x := by
  obtain ⟨n, hn, e⟩ := lbc_r x
  rw [e, fa_le, nI_toInt (by omega)]
  have e4 : (-4 : Int32).toInt = -4 := rfl
  rw [e4]
  omega
theorem nI_ge0 {n : Nat} (h : n < 1000) : ¬ nI n = -4 := nIne4 (by omega)
theorem ft_lie2 (c : CS) (lf : Int64) (w : Int32) : (liP c lf w).2.2 ≤ lbc lf := by
  rcases lie_P c lf w 288 (Nat.le_refl _) with e | ⟨m, i, h1, h2, h3, h4, h5, h6, h7⟩
  · unfold liP; rw [e]; exact le_4 lf
  · unfold liP; rw [h7]
    exact lbc_mono fun t ht z => by rw [w_and, Bool.and_eq_true] at z; exact z.1
theorem ft_lie01 (c : CS) (lf : Int64) (w : Int32) : (liP c lf w).1 = 0 ↔ (liP c lf w).2.1 = -4 := by
  rcases lie_P c lf w 288 (Nat.le_refl _) with e | ⟨m, i, h1, h2, h3, h4, h5, h6, h7⟩
  · unfold liP; rw [e]; exact ⟨fun _ => rfl, fun _ => rfl⟩
  · unfold liP; rw [h3, h6]
    exact ⟨fun q => absurd ((nI_eq (by omega) (by decide)).mp (q.trans (show (0 : Int32) = nI 0 from rfl))) (by omega), fun q => absurd q (cd_lie i h4).1⟩
/-- a lie, where there is one -/
theorem ft_best (c : CS) (lf : Int64) (w : Int32) (h : ¬ (liP c lf w).2.1 < 0) : ∃ i, i < 288 ∧ ilB c i w = true ∧ (liP c lf w).2.1 = cdL i ∧ (liP c lf w).2.2 = lbc (lf &&& (wcC i ^^^ (-1))) := by
  rcases lie_P c lf w 288 (Nat.le_refl _) with e | ⟨m, i, h1, h2, h3, h4, h5, h6, h7⟩
  · unfold liP at h; rw [e] at h; exact absurd (by decide) h
  · exact ⟨i, h4, h5, h6, h7⟩
theorem wc_y {i : Nat} (hi : i < 288) (t : Int32) : wcC i = wY (t, i / 36, 0, i / 6 % 6, i % 6) := by
  unfold wcC wY
  rw [(cd_lie i hi).2.2.2.2.2.1, (cd_lie i hi).2.2.2.2.2.2]
  rfl
theorem il_f {c : CS} {i : Nat} {w : Int32} (h : ilB c i w = true) : hwB (wcC i) (c.1 (20 + 0)) = false := by
  unfold ilB at h
  split at h
  · cases q : hwB (wcC i) (c.1 (20 + 0)) with
    | false => rfl
    | true => rw [q] at h; cases h
  · cases h
/-! what all know -/
theorem rc_1 {c : CS} {lf b : Int64} {v nw : Nat} : ∀ n, n ≤ 5 → n ≤ nw → ∀ t, t < 64 → (wb (acc (rcG c 0 lf v) b n) t = true ↔ wb b t = true ∨ ∃ w, w < n ∧ wb (lkI lf (nI v) (kbT c 0 (nI w))) t = true)
  | 0, _, _, t, ht => ⟨Or.inl, fun h => h.elim id fun ⟨w, hw, _⟩ => absurd hw (Nat.not_lt_zero _)⟩
  | n + 1, h5, hn, t, ht => by
    have ih := rc_1 (c := c) (lf := lf) (b := b) (v := v) (nw := nw) n (by omega) (by omega) t ht
    rw [acc_s]
    generalize acc (rcG c 0 lf v) b n = z at ih ⊢
    unfold rcG
    rw [w_or, Bool.or_eq_true, ih]
    constructor
    · rintro ((h | ⟨w, hw, q⟩) | q)
      · exact Or.inl h
      · exact Or.inr ⟨w, by omega, q⟩
      · exact Or.inr ⟨n, by omega, q⟩
    · rintro (h | ⟨w, hw, q⟩)
      · exact Or.inl (Or.inl h)
      · by_cases e : w = n
        · subst e; exact Or.inr q
        · exact Or.inl (Or.inr ⟨w, by omega, q⟩)
theorem rc_b {c : CS} {lf R : Int64} {nw : Nat} (hw : nw ≤ 5) {t : Nat} (ht : t < 64) : ∀ n, n ≤ 64 → (wb (acc (fun v b => rcI c 0 R lf v nw b) R n) t = true ↔ wb R t = true ∨ ∃ v, v < n ∧ wb R v = true ∧ ∃ w, w < nw ∧ wb (lkI lf (nI v) (kbT c 0 (nI w))) t = true)
  | 0, _ => ⟨Or.inl, fun h => h.elim id fun ⟨w, hw, _⟩ => absurd hw (Nat.not_lt_zero _)⟩
  | n + 1, hn => by
    have ih := rc_b (c := c) (lf := lf) (R := R) hw ht n (by omega)
    rw [acc_s]
    generalize acc (fun v b => rcI c 0 R lf v nw b) R n = z at ih ⊢
    unfold rcI
    rw [hwB_w _ (by omega)]
    by_cases q : wb R n = true
    · rw [if_pos q, rc_1 (nw := nw) nw hw (Nat.le_refl _) t ht, ih]
      constructor
      · rintro ((h | ⟨v, hv, h⟩) | h)
        · exact Or.inl h
        · exact Or.inr ⟨v, by omega, h⟩
        · exact Or.inr ⟨n, by omega, q, h⟩
      · rintro (h | ⟨v, hv, h, h2⟩)
        · exact Or.inl (Or.inl h)
        · by_cases e : v = n
          · subst e; exact Or.inr h2
          · exact Or.inl (Or.inr ⟨v, by omega, h, h2⟩)
    · rw [if_neg q, ih]
      constructor
      · rintro (h | ⟨v, hv, h⟩)
        · exact Or.inl h
        · exact Or.inr ⟨v, by omega, h⟩
      · rintro (h | ⟨v, hv, h, h2⟩)
        · exact Or.inl h
        · by_cases e : v = n
          · subst e; exact absurd h q
          · exact Or.inr ⟨v, by omega, h, h2⟩
theorem rt_b {c : CS} {lf R : Int64} {nw : Nat} (hw : nw ≤ 5) {t : Nat} (ht : t < 64) : wb (rcT c 0 nw R lf) t = true ↔ wb R t = true ∨ ∃ v, v < 64 ∧ wb R v = true ∧ ∃ w, w < nw ∧ wb (lkI lf (nI v) (kbT c 0 (nI w))) t = true := rc_b hw ht 64 (Nat.le_refl _)
/-- what is reached in n steps -/
def rN (c : CS) (nw : Nat) (lf : Int64) (T : Int32) (n : Nat) : Int64 := acc (alG c nw lf) ((1 : Int64) <<< (T.toInt64 &&& 63)) n
theorem rN_s {c : CS} {nw : Nat} {lf : Int64} {T : Int32} {n : Nat} : rN c nw lf T (n + 1) = rcT c 0 nw (rN c nw lf T n) lf := rfl
theorem ft_ak0 {c : CS} {nw w T : Nat} {lf : Int64} (hw : nw ≤ 5) (hwn : w < nw) (hT : T < 64) : alI (rN c nw lf (nI T) (0 + 1)) &&& (alI (lkI lf (nI T) (kbT c 0 (nI w))) ^^^ (-1)) = 0 := and_n0 fun j hj q => al_mono (fun t ht z => by
  rw [rN_s, rt_b hw ht]
  refine Or.inr ⟨T, hT, ?_, w, hwn, z⟩
  show wb ((1 : Int64) <<< ((nI T).toInt64 &&& 63)) T = true
  rw [w_bit T hT T hT, decide_eq_true rfl]) hj q
theorem ft_akn {c : CS} {nw n : Nat} {lf : Int64} {T : Int32} (hw : nw ≤ 5) : alI (rN c nw lf T (n + 1)) &&& (alI (rN c nw lf T n) ^^^ (-1)) = 0 := and_n0 fun j hj q => al_mono (fun t ht z => by
  rw [rN_s, rt_b hw ht]
  exact Or.inl z) hj q
/-! who slipped -/
theorem ibc_0 : ∀ k, k < 1024 → ibc (nI k) ≤ 0 → k = 0 := by decide +kernel
theorem to_k {qs : Nat → SY} {ns : Nat} (hn : ns ≤ 10) (w : Int32) : ∃ k, k < 1024 ∧ toT qs ns w = nI k := by
  obtain ⟨k, hk, e⟩ := to_n (qs := qs) (w := w) ns hn
  exact ⟨k, Nat.lt_of_lt_of_le hk (Nat.pow_le_pow_right (by decide) hn), e⟩
def SP (qs : Nat → SY) (ns : Nat) (mb : Int64) (n : Nat) (p : Int32 × Int32) : Prop := (p = (-4, 11) ∧ ∀ t, t < n → wb mb t = false) ∨ ∃ t, t < n ∧ wb mb t = true ∧ p.1 = toT qs ns (nI t) ∧ p.2 = ibc p.1 ∧ ∀ u, u < n → wb mb u = true → p.2 ≤ ibc (toT qs ns (nI u))
theorem sl_P {qs : Nat → SY} {ns : Nat} (hn : ns ≤ 10) (mb : Int64) : ∀ n, n ≤ 64 → SP qs ns mb n (acc (slG qs ns mb) (-4, 11) n)
  | 0, _ => Or.inl ⟨rfl, fun t ht => absurd ht (Nat.not_lt_zero _)⟩
  | n + 1, h => by
    have ih := sl_P (qs := qs) hn mb n (by omega)
    rw [acc_s]
    generalize acc (slG qs ns mb) (-4, 11) n = p at ih ⊢
    unfold slG
    rw [hwB_w _ (by omega)]
    by_cases q : wb mb n = true
    · rw [if_pos q]
      have hI : ∀ r : Int32 × Int32, r = (toT qs ns (nI n), ibc (toT qs ns (nI n))) → (∀ u, u < n → wb mb u = true → ibc (toT qs ns (nI n)) ≤ ibc (toT qs ns (nI u))) → SP qs ns mb (n + 1) r := fun r hr hm => by
        subst hr
        refine Or.inr ⟨n, by omega, q, rfl, rfl, fun u hu z => ?_⟩
        by_cases e : u = n
        · subst e; exact le_rI _
        · exact hm u (by omega) z
      rcases ih with ⟨rfl, h0⟩ | ⟨t, h1, h2, h3, h4, h5⟩
      · obtain ⟨k, hk, ek⟩ := to_k (qs := qs) hn (nI n)
        have hlt : ibc (toT qs ns (nI n)) < 11 := by rw [ek]; exact Int32.not_le.mp (ibc10 k hk)
        rw [if_pos hlt]
        exact hI _ rfl fun u hu z => by rw [h0 u hu] at z; cases z
      · have hK : ibc (toT qs ns (nI n)) < p.2 ∨ p.2 ≤ ibc (toT qs ns (nI n)) := by
          rw [fa_lt, fa_le]; omega
        split
        · rename_i g
          exact hI _ rfl fun u hu z => le_tI (fa_of_lt g).1 (h5 u hu z)
        · rename_i g
          have hge : p.2 ≤ ibc (toT qs ns (nI n)) := hK.resolve_left g
          have hS : SP qs ns mb (n + 1) p := Or.inr ⟨t, by omega, h2, h3, h4, fun u hu z => by
            by_cases e : u = n
            · subst e; exact hge
            · exact h5 u (by omega) z⟩
          split
          · rename_i g2
            split
            · exact hS
            · exact hI _ rfl fun u hu z => by rw [g2]; exact h5 u hu z
          · exact hS
    · rw [if_neg q]
      rcases ih with ⟨rfl, h0⟩ | ⟨t, h1, h2, h3, h4, h5⟩
      · refine Or.inl ⟨rfl, fun t ht => ?_⟩
        by_cases e : t = n
        · subst e; exact wbF.mp q
        · exact h0 t (by omega)
      · refine Or.inr ⟨t, by omega, h2, h3, h4, fun u hu z => ?_⟩
        by_cases e : u = n
        · subst e; exact absurd z q
        · exact h5 u (by omega) z
theorem ft_slipped {ql qs : Nat → SY} {nl ns : Nat} (hn : ns ≤ 10) : (slippedC ql nl qs ns = 0 ↔ ¬ lfT ql nl qs ns = 0) ∧ (mbT ql nl = 0 → slippedC ql nl qs ns = -4) := by
  unfold slippedC
  rcases sl_P (qs := qs) hn (mbT ql nl) 64 (Nat.le_refl _) with ⟨e, h0⟩ | ⟨t, h1, h2, h3, h4, h5⟩
  · rw [e]
    refine ⟨⟨fun z => absurd z (by decide), fun z => ?_⟩, fun _ => rfl⟩
    obtain ⟨t, ht, q⟩ := w_ne z
    have := ((lf_b hn ht).mp q).1
    rw [h0 t ht] at this
    cases this
  · refine ⟨⟨fun z => ?_, fun z => ?_⟩, fun z => ?_⟩
    · intro g
      have := (ft_is (ql := ql) (nl := nl) (qs := qs) hn h1).mpr ⟨h2, by rw [← h3]; exact z⟩
      rw [g, w_0] at this
      cases this
    · obtain ⟨u, hu, q⟩ := w_ne z
      obtain ⟨q1, q2⟩ := (ft_is hn hu).mp q
      have hm := h5 u hu q1
      rw [q2] at hm
      have hm2 : ibc (acc (slG qs ns (mbT ql nl)) (-4, 11) 64).1 ≤ 0 := by rw [← h4]; exact le_tI hm (by decide)
      obtain ⟨k, hk, ek⟩ := to_k (qs := qs) hn (nI t)
      rw [h3, ek] at hm2 ⊢
      rw [ibc_0 k hk hm2]
      rfl
    · rw [z, w_0] at h2
      cases h2
/-! a saying more -/
theorem lf_s {ql qs q2 : Nat → SY} {nl ns : Nat} {y : SY} (hn : ns < 10) (e1 : ∀ i, i < ns → q2 i = qs i) (e2 : q2 ns = y) : lfT ql nl q2 (ns + 1) = lfT ql nl qs ns &&& (wY y ^^^ (-1)) := w_ext fun t ht => by
  have e : wb (lfT ql nl q2 (ns + 1)) t = true ↔ wb (lfT ql nl qs ns &&& (wY y ^^^ (-1))) t = true := by
    rw [lf_b (by omega) ht, w_and, w_not _ ht, Bool.and_eq_true, lf_b (by omega) ht]
    constructor
    · intro ⟨h1, h2⟩
      refine ⟨⟨h1, fun i hi => by rw [← e1 i hi]; exact h2 i (by omega)⟩, ?_⟩
      have := h2 ns (by omega)
      rw [e2] at this
      rw [this]; rfl
    · intro ⟨⟨h1, h2⟩, h3⟩
      refine ⟨h1, fun i hi => ?_⟩
      by_cases q : i = ns
      · subst q; rw [e2]
        cases z : wb (wY y) t with
        | false => rfl
        | true => rw [z] at h3; cases h3
      · rw [e1 i (by omega)]; exact h2 i (by omega)
  cases a : wb (lfT ql nl q2 (ns + 1)) t <;> cases b : wb (lfT ql nl qs ns &&& (wY y ^^^ (-1))) t <;> rw [a, b] at e <;> first | rfl | exact absurd (e.mp rfl) Bool.noConfusion | exact absurd (e.mpr rfl) Bool.noConfusion
theorem to_s {qs q2 : Nat → SY} {ns : Nat} {w : Int32} {y : SY} (e1 : ∀ i, i < ns → q2 i = qs i) (e2 : q2 ns = y) (h : hwB (wY y) w = false) : toT q2 (ns + 1) w = toT qs ns w := by
  have e : toT q2 ns w = toT qs ns w := acc_cg rfl fun i hi b => by unfold toG; rw [e1 i hi]
  show toG q2 w ns (toT q2 ns w) = _
  unfold toG
  rw [e2, h, if_neg (by exact Bool.noConfusion), e]
theorem lbc_and (x y : Int64) : lbc (x &&& y) ≤ lbc x := lbc_mono fun t ht z => by rw [w_and, Bool.and_eq_true] at z; exact z.1
theorem ft_alone {ql qs : Nat → SY} {nl ns k : Nat} (hn : ns ≤ 10) (hk : k < ns) : lbc (mbT ql nl &&& (wY (qs k) ^^^ (-1))) ≤ lbc (mbT ql nl) ∧ lbc (lfT ql nl qs ns) ≤ lbc (mbT ql nl &&& (wY (qs k) ^^^ (-1))) := by
  refine ⟨lbc_and _ _, lbc_mono fun t ht z => ?_⟩
  obtain ⟨h1, h2⟩ := (lf_b hn ht).mp z
  rw [w_and, w_not _ ht, h1, h2 k hk]
  rfl
