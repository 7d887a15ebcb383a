/-! what all know; pencils; told trials; two lies -/
theorem iw19 {t : Int32} (ht : iw t 1 9 = true) : ∃ j, j < 9 ∧ t = nI (j + 1) := by
  simp only [iw, Bool.and_eq_true, Bool.not_eq_true', decide_eq_false_iff_not] at ht
  obtain ⟨h1, h2⟩ := ht
  obtain ⟨j, hj, e⟩ := nI_of2 (n := 9) (by decide) (fun z => h1 (by rw [fa_lt] at z ⊢; rw [show (0 : Int32).toInt = 0 from by decide] at z; rw [show (1 : Int32).toInt = 1 from by decide]; omega)) (fa_of_nlt h2)
  subst e
  rcases Nat.eq_zero_or_pos j with z | z
  · subst z; exact absurd (by decide) h1
  · exact ⟨j - 1, by omega, by rw [Nat.sub_add_cancel z]⟩
theorem pn_all : ∀ t, t < 9 → ∀ n, n < 13 → pnA (nI (t + 1)) n = pcA (nI (t + 1)) (nI n) ∧ gdC 100 (pcA (nI (t + 1)) (nI n)) 1000000000000 = pcG (nI (t + 1)) (nI n) := by decide +kernel
theorem pnB_v : pnB = 1000000000000 := by decide +kernel
theorem m13_v : refL (-13) = 4000000000000000013 := by decide +kernel
theorem refL_v (x : Int32) : refL x = 4000000000000000000 - x.toInt64 := rfl
section
variable {c : CS} {D : List ab_E} {Q : QT} {nw : Nat} {s : MS}
theorem eq_pencils (h : RS c D Q nw s) {a b d : Int32} : penC a b d = pcM a b d := by
  unfold penC pcM
  rw [noL_v, eo_iw]
  refine if_cg fun q => if_cg fun q2 => if_cg fun q3 => ?_
  have ok := (pc_ok q q2).2
  obtain ⟨t, ht, rfl⟩ := iw19 q
  obtain ⟨n, hn, rfl⟩ := iw_ex (n := 13) (by decide) (by decide) q2
  obtain ⟨e1, e2⟩ := pn_all t ht n hn
  unfold penI
  rw [tn_nI (by omega), e1, pnB_v, e2, if_neg ok]
theorem rs_pencils (h : RS c D Q nw s) {a b d : Int32} : ∃ Q2 nw2, RS c D Q2 nw2 (pcE s a b d) := by
  refine ⟨Q, nw, ?_⟩
  unfold pcE
  split
  · split
    · split
      · exact RS_s h rfl rfl rfl rfl rfl (fun _ _ => rfl) (fun _ _ => rfl) (fun _ _ => rfl) (fun _ _ => rfl) rfl rfl rfl rfl rfl
      · exact h
    · exact h
  · exact h
/-! what all know -/
theorem rc_b (h : RS c D Q nw s) (R L : Int64) {t : Nat} (ht : t < 64) : wb (rcT c 0 nw R L) t = true ↔ wb R t = true ∨ ∃ v, v < 64 ∧ wb R v = true ∧ ∃ w, w < nw ∧ wb (likeI s L (nI v) w) t = true := by
  unfold rcT
  refine or_acc (P := fun v => wb R v = true ∧ ∃ w, w < nw ∧ wb (likeI s L (nI v) w) t = true) 64 fun v hv b => ?_
  unfold rcI
  rw [hwB_w _ hv]
  by_cases q : wb R v = true
  · rw [if_pos q, or_acc (P := fun w => wb (likeI s L (nI v) w) t = true) nw fun w hw b => by
      unfold rcG
      rw [w_or, Bool.or_eq_true, lkq h hw hv]]
    exact or_congr Iff.rfl ⟨fun z => ⟨q, z⟩, fun z => z.2⟩
  · rw [if_neg q]
    exact ⟨Or.inl, fun z => z.elim id fun y => absurd y.1 q⟩
theorem ak_b (s : MS) (L R : Int64) (nw : Nat) {t : Nat} (ht : t < 64) : wb (acc (ak1F s L nw R) R 64) t = true ↔ wb R t = true ∨ ∃ v, v < 64 ∧ wb R v = true ∧ ∃ w, w < nw ∧ wb (likeI s L (nI v) w) t = true := by
  refine or_acc (P := fun v => wb R v = true ∧ ∃ w, w < nw ∧ wb (likeI s L (nI v) w) t = true) 64 fun v hv b => ?_
  unfold ak1F
  rw [or_acc (P := fun w => wb R v = true ∧ wb (likeI s L (nI v) w) t = true) nw fun w hw b => by
      unfold ak2F
      by_cases q : wb R v = true
      · rw [if_pos ((w_shb R hv).mpr q), w_or, Bool.or_eq_true]
        exact or_congr Iff.rfl ⟨fun z => ⟨q, z⟩, fun z => z.2⟩
      · rw [if_neg (fun z => q ((w_shb R hv).mp z))]
        exact ⟨Or.inl, fun z => z.elim id fun y => absurd y.1 q⟩]
  exact or_congr Iff.rfl ⟨fun ⟨w, hw, q, z⟩ => ⟨q, w, hw, z⟩, fun ⟨q, w, hw, z⟩ => ⟨w, hw, q, z⟩⟩
theorem ak_all (h : RS c D Q nw s) (L : Int64) {u : Nat} (hu : u < 64) (e : s.1 0 = nI u) : ∀ n, ∀ t, t < 64 → ((wb (acc (alG c nw L) ((1 : Int64) <<< ((nI u).toInt64 &&& 63)) (n + 1)) t = true ↔ t = u ∨ wb (akR s L nw n) t = true) ∧ ((∃ w, w < nw ∧ wb (likeI s L (nI u) w) t = true) → wb (akR s L nw n) t = true))
  | 0, t, ht => by
    have z : wb (akR s L nw 0) t = true ↔ ∃ w, w < nw ∧ wb (likeI s L (nI u) w) t = true := by
      show wb (acc (ak0F s L) 0 nw) t = true ↔ _
      rw [or_acc (P := fun w => wb (likeI s L (nI u) w) t = true) nw fun w hw b => by
        unfold ak0F
        rw [w_or, Bool.or_eq_true, e], w_0]
      exact ⟨fun z => z.elim (fun y => by cases y) id, Or.inr⟩
    refine ⟨?_, z.mpr⟩
    show wb (rcT c 0 nw ((1 : Int64) <<< ((nI u).toInt64 &&& 63)) L) t = true ↔ _
    rw [rc_b h _ _ ht, w_bit u hu t ht, decide_eq_true_eq, z]
    refine or_congr Iff.rfl ⟨?_, fun y => ⟨u, hu, by rw [w_bit u hu u hu]; exact decide_eq_true rfl, y⟩⟩
    rintro ⟨v, hv, y1, y2⟩
    rw [w_bit u hu v hv, decide_eq_true_eq] at y1
    subst y1
    exact y2
  | n + 1, t, ht => by
    have ih := ak_all h L hu e n
    have ih1 := fun v hv => (ih v hv).1
    have z : wb (akR s L nw (n + 1)) t = true ↔ wb (akR s L nw n) t = true ∨ ∃ v, v < 64 ∧ wb (akR s L nw n) v = true ∧ ∃ w, w < nw ∧ wb (likeI s L (nI v) w) t = true := ak_b s L (akR s L nw n) nw ht
    refine ⟨?_, fun y => z.mpr (Or.inl ((ih t ht).2 y))⟩
    rw [acc_s]
    show wb (rcT c 0 nw (acc (alG c nw L) ((1 : Int64) <<< ((nI u).toInt64 &&& 63)) (n + 1)) L) t = true ↔ _
    rw [rc_b h _ _ ht, ih1 t ht, z]
    constructor
    · rintro ((y | y) | ⟨v, hv, y1, y2⟩)
      · exact Or.inl y
      · exact Or.inr (Or.inl y)
      · rcases (ih1 v hv).mp y1 with y3 | y3
        · subst y3; exact Or.inr (Or.inl ((ih t ht).2 y2))
        · exact Or.inr (Or.inr ⟨v, hv, y3, y2⟩)
    · rintro (y | y | ⟨v, hv, y1, y2⟩)
      · exact Or.inl (Or.inl y)
      · exact Or.inl (Or.inr y)
      · exact Or.inr ⟨v, hv, (ih1 v hv).mpr (Or.inr y1), y2⟩
theorem akB_b (s : MS) (r : Int64) {j : Nat} (hj : j < 32) : ∀ n, n ≤ 64 → (bt (acc (akB s r) 63 n) j = true ↔ bt 63 j = true ∧ ∀ t, t < n → wb r t = true → bt (nI t) j = bt (s.1 0) j)
  | 0, _ => ⟨fun h => ⟨h, fun t ht => absurd ht (by omega)⟩, fun h => h.1⟩
  | n + 1, h => by
    have ih := akB_b s r hj n (by omega)
    rw [acc_s]
    generalize acc (akB s r) 63 n = A at ih ⊢
    unfold akB
    by_cases q : wb r n = true
    · rw [if_pos ((w_shb r (by omega)).mpr q), b_and, Bool.and_eq_true, ih, b_not _ hj, b_xor]
      constructor
      · intro z
        refine ⟨z.1.1, fun t ht hw => ?_⟩
        by_cases e : t = n
        · subst e
          have := z.2
          cases q1 : bt (nI t) j <;> cases q2 : bt (s.1 0) j <;> rw [q1, q2] at this <;> first | rfl | cases this
        · exact z.1.2 t (by omega) hw
      · intro z
        exact ⟨⟨z.1, fun t ht => z.2 t (by omega)⟩, by rw [z.2 n (by omega) q]; cases bt (s.1 0) j <;> rfl⟩
    · rw [if_neg (fun z => q ((w_shb r (by omega)).mp z)), ih]
      constructor
      · intro z
        refine ⟨z.1, fun t ht hw => ?_⟩
        by_cases e : t = n
        · subst e; exact absurd hw q
        · exact z.2 t (by omega) hw
      · intro z
        exact ⟨z.1, fun t ht => z.2 t (by omega)⟩
theorem eq_allKnow (h : RS c D Q nw s) {a : Int32} : alkC c nw (lfT (Q (2 * 0)).2 (Q (2 * 0)).1 (Q (2 * 0 + 1)).2 (Q (2 * 0 + 1)).1) a = allKnowM s (Q (2 * 0)).1 nw (Q (2 * 0 + 1)).1 a := by
  unfold alkC allKnowM
  obtain ⟨u, hu, e⟩ := rs_tt h
  rw [rs_w h, rs_m3 h, leftA_eq h, rs_t h, e]
  refine if_cg fun q => ?_
  split
  · rfl
  have K := ak_all h (lfT (Q (2 * 0)).2 (Q (2 * 0)).1 (Q (2 * 0 + 1)).2 (Q (2 * 0 + 1)).1) hu e (tn a)
  generalize acc (alG c nw (lfT (Q (2 * 0)).2 (Q (2 * 0)).1 (Q (2 * 0 + 1)).2 (Q (2 * 0 + 1)).1)) ((1 : Int64) <<< ((nI u).toInt64 &&& 63)) (tn a + 1) = C at K ⊢
  generalize akR s (lfT (Q (2 * 0)).2 (Q (2 * 0)).1 (Q (2 * 0 + 1)).2 (Q (2 * 0 + 1)).1) nw (tn a) = M at K ⊢
  have K1 := fun t ht => (K t ht).1
  refine b_ext fun j hj => ?_
  rw [Bool.eq_iff_iff, b_or, Bool.or_eq_true, faI_b _ hj, fnI_b _ hj, akB_b s M hj 64 (by decide), b_63 j hj, decide_eq_true_eq, e]
  have hu1 : wb C u = true := (K1 u hu).mpr (Or.inl rfl)
  constructor
  · rintro (⟨y1, y2⟩ | ⟨y1, y2⟩)
    · exact ⟨y1, fun t ht hm => (y2 t ht ((K1 t ht).mpr (Or.inr hm))).trans (y2 u hu hu1).symm⟩
    · exact ⟨y1, fun t ht hm => (y2 t ht ((K1 t ht).mpr (Or.inr hm))).trans (y2 u hu hu1).symm⟩
  · rintro ⟨y1, y2⟩
    by_cases q : bt (nI u) j = true
    · refine Or.inl ⟨y1, fun t ht hc => ?_⟩
      rcases (K1 t ht).mp hc with z | z
      · subst z; exact q
      · exact (y2 t ht z).trans q
    · refine Or.inr ⟨y1, fun t ht hc => ?_⟩
      rcases (K1 t ht).mp hc with z | z
      · subst z; exact ts_nt q
      · exact (y2 t ht z).trans (ts_nt q)
/-! told trials -/
theorem hp_in {c : CS} {d n i : Nat} (e : c.1 (80 + d) = nI n) (hn : n ≤ 100) (hi : i < n) : hpB c d (nI i) 1 = true := by
  unfold hpB
  rw [e, decide_eq_false (nI_pos (by omega)), decide_eq_false (by decide : ¬ (1 : Int32) < 0), decide_eq_false (show ¬ nI n < 1 from nI_nlt (a := n) (b := 1) (by omega) (by omega)), decide_eq_false (show ¬ nI n - 1 < nI i from ?_), decide_eq_false (show ¬ (100 : Int32) < nI n from nI_nlt (a := 100) (b := n) hn (by omega))]
  · rfl
  · obtain ⟨m, rfl⟩ : ∃ m, n = m + 1 := ⟨n - 1, by omega⟩
    rw [nI_pred]
    exact nI_nlt (by omega) (by omega)
theorem nu_in {c : CS} {d n i : Nat} (e : c.1 (80 + d) = nI n) (hn : n ≤ 100) (hi : i < n) : nuA c d (nI i) = c.2.1 (10 + d) i := by
  unfold nuA
  rw [if_pos (hp_in e hn hi), tn_nI (by omega)]
/-- a row's places, at both -/
theorem row_at {d n o : Nat} (hn : n ≤ 100) (ho : o < 3) (e7 : c.1 (70 + d) = nI o) (m9 : s.2.1 9 d = nI o) (e : c.1 (80 + d) = nI n) (f : ∀ i, i < 100 → c.2.1 (10 + d) i = s.2.1 11 (100 * d + i)) {i : Nat} (hi : i < n) :
    nuA c d (nI i) = s.2.1 11 (100 * d + i) ∧ (skB c d (nI i) = true ↔ s.2.1 11 (100 * d + i) = lstS s d) := by
  have e1 : nuA c d (nI i) = s.2.1 11 (100 * d + i) := (nu_in e hn hi).trans (f i (by omega))
  refine ⟨e1, ?_⟩
  unfold skB lstS
  rw [e1, e7, m9]
  rcases (by omega : o = 0 ∨ o = 1 ∨ o = 2) with rfl | rfl | rfl
  · rw [if_pos (by decide), if_pos (by decide), decide_eq_true_eq]
  · rw [if_neg (by decide), if_pos (by decide), if_neg (by decide), if_pos (by decide), decide_eq_true_eq]
  · rw [if_neg (by decide), if_neg (by decide), if_neg (by decide), if_neg (by decide), decide_eq_true_eq]
theorem iw01 (x : Int32) : iw x 0 1 = true ↔ x = 0 ∨ x = 1 := ⟨iw2, fun h => by rcases h with rfl | rfl <;> decide⟩
theorem ft_eq (h : RS c D Q nw s) {d n : Nat} (hns : n ≤ (Q (2 * 0 + 1)).1) (hR : ∀ i, i < n → nuA c d (nI i) = s.2.1 11 (100 * d + i) ∧ (skB c d (nI i) = true ↔ s.2.1 11 (100 * d + i) = lstS s d)) (mb : Int64) :
    ∀ k i, i + k = n → ftN s d k i (acc (fiG c d (Q (2 * 0 + 1)).2) mb i) = if tfN c d k i = true then acc (fiG c d (Q (2 * 0 + 1)).2) mb n else 4000000000000000013
  | 0, i, hk => by
    have : i = n := by omega
    subst this
    show _ = if true = true then _ else _
    rw [if_pos rfl]; rfl
  | k + 1, i, hk => by
    obtain ⟨e1, e2⟩ := hR i (by omega)
    have ih := ft_eq h hns hR mb k (i + 1) (by omega)
    rw [acc_s] at ih
    generalize acc (fiG c d (Q (2 * 0 + 1)).2) mb i = A at ih ⊢
    generalize acc (fiG c d (Q (2 * 0 + 1)).2) mb n = B at ih ⊢
    unfold fiG at ih
    unfold ftN tfN
    rw [e1]
    rw [e1] at ih
    by_cases q : skB c d (nI i) = true
    · rw [if_pos (e2.mp q), if_pos q]
      rw [if_pos q] at ih
      rw [ih]
      simp only [ite_self]
    · rw [if_neg (fun z => q (e2.mpr z)), if_neg q]
      rw [if_neg q] at ih
      have hs := rs_say h (i := i) (by omega)
      rw [hs.2.1, wY_N hs.1]
      by_cases q1 : s.2.1 11 (100 * d + i) = 0
      · rw [if_pos ((iw01 _).mpr (Or.inl q1)), if_pos q1, if_neg (by rw [q1]; decide)]
        rw [if_neg (by rw [q1]; decide)] at ih
        exact ih
      · rw [if_neg q1]
        by_cases q2 : s.2.1 11 (100 * d + i) = 1
        · rw [if_pos ((iw01 _).mpr (Or.inr q2)), if_pos q2, if_pos q2]
          rw [if_pos q2] at ih
          exact ih
        · rw [if_neg (fun z => by rcases (iw01 _).mp z with y | y; exact q1 y; exact q2 y), if_neg q2, if_neg (by decide)]
theorem eq_fits (h : RS c D Q nw s) {a : Int32} : fitC c (Q (2 * 0)).2 (Q (2 * 0)).1 (Q (2 * 0 + 1)).2 a = fitsM s (Q (2 * 0)).1 a := by
  have h10 := rs_ns h
  unfold fitC fitsM
  rw [noL_v, m13_v]
  refine if_cg fun q => ?_
  obtain ⟨d, hd, rfl⟩ := iw8 q
  rw [tn_nI (by omega)]
  rcases sr_R (rs_sr h hd) with ⟨h1, h2, h3⟩ | ⟨-, h2, h3, h4⟩
  · rw [if_pos h2, h3, if_pos (show (0 : Int32) ≤ 0 from by decide)]
    obtain ⟨-, o, n, ho, hn, e7, m9, e8, m10, f⟩ := sr_2 (rs_sr h hd) h1
    rw [rs_c1 h, e8, m10, rs_m5 h, tn_nI (by omega), mb_eq h]
    by_cases q : n ≤ (Q (2 * 0 + 1)).1
    · rw [if_neg (nI_nlt q (by omega)), if_pos (nI_le q (by omega))]
      exact (ft_eq h q (fun i hi => row_at hn ho e7 m9 e8 f hi) _ n 0 (by omega)).symm
    · rw [if_pos (nI_lt (by omega) (by omega)), if_neg (nI_ge (by omega) (by omega))]
  · rw [if_neg h2, if_neg h3, h4]; rfl
theorem lj_eq {qs : Nat → SY} {ns : Nat} (h10 : ns ≤ 10) (mb : Int64) {i : Nat} (hi : i ≤ ns) : ljV qs ns mb i = lbT qs ns mb ((1 : Int32) <<< (nI i &&& 31) - 1) := w_ext fun t ht => by
  rw [Bool.eq_iff_iff, lbT_b h10 ht]
  have : ∀ n, n ≤ ns → (wb (ljV qs ns mb n) t = true ↔ wb mb t = true ∧ ∀ j, j < n → wb (wY (qs j)) t = false) := by
    intro n
    induction n with
    | zero => exact fun _ => ⟨fun h => ⟨h, fun i hi => absurd hi (by omega)⟩, fun h => h.1⟩
    | succ n ih =>
      intro hn
      have ih := ih (by omega)
      show wb (ljG qs ns n (ljV qs ns mb n)) t = true ↔ _
      unfold ljG
      rw [if_pos (by omega), w_and, Bool.and_eq_true, ih, w_not _ ht]
      constructor
      · intro z
        refine ⟨z.1.1, fun j hj => ?_⟩
        by_cases e : j = n
        · subst e; have := z.2; cases q : wb (wY (qs j)) t
          · rfl
          · rw [q] at this; cases this
        · exact z.1.2 j (by omega)
      · intro z
        exact ⟨⟨z.1, fun j hj => z.2 j (by omega)⟩, by rw [z.2 n (by omega)]; rfl⟩
  rw [this i hi]
  constructor
  · rintro ⟨y, z⟩
    refine ⟨y, fun j hj hb => ?_⟩
    rw [sub1_k i (by omega) j (by omega), decide_eq_true_eq] at hb
    exact z j hb
  · rintro ⟨y, z⟩
    refine ⟨y, fun j hj => z j (by omega) ?_⟩
    rw [sub1_k i (by omega) j (by omega), decide_eq_true_eq]
    exact hj
theorem jd_eq (h : RS c D Q nw s) {d n : Nat} (hn : n ≤ 100) (hR : ∀ i, i < n → nuA c d (nI i) = s.2.1 11 (100 * d + i) ∧ (skB c d (nI i) = true ↔ s.2.1 11 (100 * d + i) = lstS s d)) :
    ∀ k i, i + k = n → jgN c d (Q (2 * 0 + 1)).2 (Q (2 * 0 + 1)).1 (mbT (Q (2 * 0)).2 (Q (2 * 0)).1) k i = jdN s (Q (2 * 0)).1 (Q (2 * 0 + 1)).1 d k i
  | 0, i, hk => rfl
  | k + 1, i, hk => by
    obtain ⟨e1, e2⟩ := hR i (by omega)
    have h10 := rs_ns h
    have ih := jd_eq h hn hR k (i + 1) (by omega)
    unfold jgN jdN
    rw [e1, ih, rs_c1 h, rs_m5 h]
    by_cases q : skB c d (nI i) = true
    · rw [if_pos (e2.mp q), if_pos q]
      simp only [ite_self]
    · rw [if_neg (fun z => q (e2.mpr z)), if_neg q]
      by_cases q1 : nI (Q (2 * 0 + 1)).1 < nI i
      · rw [if_pos q1, if_pos q1]
      · rw [if_neg q1, if_neg q1]
        have : i ≤ (Q (2 * 0 + 1)).1 := Nat.not_lt.mp fun z => q1 (nI_lt z (by omega))
        rw [lj_eq h10 _ this, left_eq h]
theorem eq_judge (h : RS c D Q nw s) {a : Int32} : jgC c (Q (2 * 0)).2 (Q (2 * 0)).1 (Q (2 * 0 + 1)).2 (Q (2 * 0 + 1)).1 a = judgeM s (Q (2 * 0)).1 (Q (2 * 0 + 1)).1 a := by
  unfold jgC judgeM
  refine if_cg fun q => ?_
  obtain ⟨d, hd, rfl⟩ := iw8 q
  rw [tn_nI (by omega)]
  refine shR_if (rs_sr h hd) fun h1 => ?_
  obtain ⟨-, o, n, ho, hn, e7, m9, e8, m10, f⟩ := sr_2 (rs_sr h hd) h1
  rw [e8, m10, tn_nI (by omega)]
  exact jd_eq h hn (fun i hi => row_at hn ho e7 m9 e8 f hi) n 0 (by omega)
end
