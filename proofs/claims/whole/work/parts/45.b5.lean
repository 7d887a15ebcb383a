/-! facts that are in all worlds, in none -/
theorem b_63 : ∀ i, i < 32 → bt 63 i = decide (i < 6) := by decide +kernel
theorem fc_b (w : Int64) (is : Int32) {j : Nat} (hj : j < 32) : ∀ n, n ≤ 64 → (bt (acc (fcF w is) 63 n) j = true ↔ bt 63 j = true ∧ ∀ t, t < n → wb w t = true → bt (if is = 1 then nI t else nI t ^^^ (-1)) j = true)
  | 0, _ => ⟨fun h => ⟨h, fun t ht => absurd ht (by omega)⟩, fun h => h.1⟩
  | n + 1, h => by
    have ih := fc_b w is hj n (by omega)
    rw [acc_s]
    show bt (if (w >>> ((nI n).toInt64 &&& 63)) &&& 1 = 1 then _ else _) j = true ↔ _
    by_cases q : wb w n = true
    · rw [if_pos ((w_shb w (by omega)).mpr q), b_and, Bool.and_eq_true, ih]
      constructor
      · intro z
        refine ⟨z.1.1, fun t ht hw => ?_⟩
        by_cases e : t = n
        · subst e; exact z.2
        · exact z.1.2 t (by omega) hw
      · intro z
        exact ⟨⟨z.1, fun t ht => z.2 t (by omega)⟩, z.2 n (by omega) q⟩
    · rw [if_neg (fun z => q ((w_shb w (by omega)).mp z)), ih]
      constructor
      · intro z
        refine ⟨z.1, fun t ht hw => ?_⟩
        by_cases e : t = n
        · subst e; exact absurd hw q
        · exact z.2 t (by omega) hw
      · intro z
        exact ⟨z.1, fun t ht => z.2 t (by omega)⟩
theorem fac_b (w : Int64) (is : Int32) {j : Nat} (hj : j < 32) : bt (factsI w is) j = true ↔ j < 6 ∧ ∀ t, t < 64 → wb w t = true → bt (if is = 1 then nI t else nI t ^^^ (-1)) j = true := by
  unfold factsI
  rw [b_and, Bool.and_eq_true, fc_b w is hj 64 (by decide), b_63 j hj, decide_eq_true_eq]
  exact ⟨fun h => ⟨h.2, h.1.2⟩, fun h => ⟨⟨h.1, h.2⟩, h.1⟩⟩
theorem wW_not {w : Int64} {f : Nat} (hf : f < 6) : w &&& (wW (nI f) ^^^ (-1)) = 0 ↔ ∀ t, t < 64 → wb w t = true → bt (nI t) f = true := by
  rw [w_zero]
  constructor
  · intro h t ht hw
    have := h t ht
    rw [w_and, w_not _ ht, wW_b f hf t ht, hw] at this
    cases q : bt (nI t) f
    · rw [q] at this; cases this
    · rfl
  · intro h t ht
    rw [w_and, w_not _ ht, wW_b f hf t ht]
    cases q : wb w t
    · rfl
    · rw [h t ht q]; rfl
theorem wW_no {w : Int64} {f : Nat} (hf : f < 6) : w &&& wW (nI f) = 0 ↔ ∀ t, t < 64 → wb w t = true → bt (nI t) f = false := by
  rw [w_zero]
  constructor
  · intro h t ht hw
    have := h t ht
    rw [w_and, wW_b f hf t ht, hw] at this
    exact this
  · intro h t ht
    rw [w_and, wW_b f hf t ht]
    cases q : wb w t
    · rfl
    · rw [h t ht q]; rfl
theorem or_b (P : Nat → Prop) [DecidablePred P] {j : Nat} (hj : j < 32) : ∀ n, n ≤ 6 → (bt (acc (fun i b => if P i then b ||| fb (nI i) else b) (0 : Int32) n) j = true ↔ j < n ∧ P j)
  | 0, _ => ⟨fun h => (by rw [show acc _ (0 : Int32) 0 = (0 : Int32) from rfl, b_0] at h; cases h), fun h => absurd h.1 (by omega)⟩
  | n + 1, h => by
    have ih := or_b P hj n (by omega)
    rw [acc_s]
    split
    · rename_i q
      rw [b_or, Bool.or_eq_true, ih, show fb (nI n) = (1 : Int32) <<< (nI n &&& 31) from rfl, b_bit n (by omega) j hj, decide_eq_true_eq]
      constructor
      · rintro (z | z)
        · exact ⟨by omega, z.2⟩
        · subst z; exact ⟨by omega, q⟩
      · intro z
        by_cases e : j = n
        · exact Or.inr e
        · exact Or.inl ⟨by omega, z.2⟩
    · rename_i q
      rw [ih]
      constructor
      · intro z; exact ⟨by omega, z.2⟩
      · intro z
        by_cases e : j = n
        · subst e; exact absurd z.2 q
        · exact ⟨by omega, z.2⟩
theorem faI_b (w : Int64) {j : Nat} (hj : j < 32) : bt (faI w) j = true ↔ j < 6 ∧ ∀ t, t < 64 → wb w t = true → bt (nI t) j = true := by
  have h := or_b (fun i => w &&& (wW (nI i) ^^^ (-1)) = 0) hj 6 (by decide)
  rw [show faI w = acc (fun i b => if w &&& (wW (nI i) ^^^ (-1)) = 0 then b ||| fb (nI i) else b) (0 : Int32) 6 from rfl, h]
  exact ⟨fun z => ⟨z.1, (wW_not z.1).mp z.2⟩, fun z => ⟨z.1, (wW_not z.1).mpr z.2⟩⟩
theorem fnI_b (w : Int64) {j : Nat} (hj : j < 32) : bt (fnI w) j = true ↔ j < 6 ∧ ∀ t, t < 64 → wb w t = true → bt (nI t) j = false := by
  have h := or_b (fun i => w &&& wW (nI i) = 0) hj 6 (by decide)
  rw [show fnI w = acc (fun i b => if w &&& wW (nI i) = 0 then b ||| fb (nI i) else b) (0 : Int32) 6 from rfl, h]
  exact ⟨fun z => ⟨z.1, (wW_no z.1).mp z.2⟩, fun z => ⟨z.1, (wW_no z.1).mpr z.2⟩⟩
theorem b_nt {x : Int32} {i : Nat} (hi : i < 32) : bt (x ^^^ (-1)) i = true ↔ bt x i = false := by rw [b_not x hi]; cases bt x i <;> decide
theorem faI_e (w : Int64) : faI w = factsI w 1 := b_ext fun j hj => by
  rw [Bool.eq_iff_iff, faI_b w hj, fac_b w 1 hj]
  refine and_congr Iff.rfl (forall_congr' fun t => forall_congr' fun ht => forall_congr' fun hw => ?_)
  rw [if_pos (by decide)]
theorem fnI_e (w : Int64) : fnI w = factsI w 0 := b_ext fun j hj => by
  rw [Bool.eq_iff_iff, fnI_b w hj, fac_b w 0 hj]
  refine and_congr Iff.rfl (forall_congr' fun t => forall_congr' fun ht => forall_congr' fun hw => ?_)
  rw [if_neg (by decide), b_nt hj]
theorem ali_e (w : Int64) : faI w ||| fnI w = alikeI w := by unfold alikeI; rw [faI_e, fnI_e]
/-! the worlds that a witness takes for the same -/
theorem lk_b (w : Int64) (u b : Int32) {t : Nat} (ht : t < 64) : ∀ n, n ≤ 6 → (wb (acc (lkF u b) w n) t = true ↔ wb w t = true ∧ ∀ i, i < n → bt b i = true → bt (nI t) i = bt u i)
  | 0, _ => ⟨fun h => ⟨h, fun i hi => absurd hi (by omega)⟩, fun h => h.1⟩
  | n + 1, h => by
    have ih := lk_b w u b ht n (by omega)
    have e : ∀ x : Int32, x &&& fb (nI n) = 0 ↔ bt x n = false := fun x => by
      rw [b_zero]
      constructor
      · intro z
        have := z n (by omega)
        rw [b_and, show fb (nI n) = (1 : Int32) <<< (nI n &&& 31) from rfl, b_bit n (by omega) n (by omega), decide_eq_true rfl, Bool.and_true] at this
        exact this
      · intro z i hi
        rw [b_and, show fb (nI n) = (1 : Int32) <<< (nI n &&& 31) from rfl, b_bit n (by omega) i hi]
        by_cases q : i = n
        · subst q; rw [z]; rfl
        · rw [decide_eq_false q, Bool.and_false]
    rw [acc_s]
    generalize acc (lkF u b) w n = A at ih ⊢
    unfold lkF
    by_cases q : bt b n = true
    · rw [if_neg (fun z => by rw [(e b).mp z] at q; cases q)]
      by_cases q2 : bt u n = true
      · rw [if_neg (fun z => by rw [(e u).mp z] at q2; cases q2), w_and, Bool.and_eq_true, ih, wW_b n (by omega) t ht]
        constructor
        · intro z
          refine ⟨z.1.1, fun i hi hb => ?_⟩
          by_cases e : i = n
          · subst e; rw [q2]; exact z.2
          · exact z.1.2 i (by omega) hb
        · intro z
          exact ⟨⟨z.1, fun i hi => z.2 i (by omega)⟩, by rw [z.2 n (by omega) q, q2]⟩
      · rw [if_pos ((e u).mpr (ts_nt q2)), w_and, Bool.and_eq_true, ih, w_not _ ht, wW_b n (by omega) t ht]
        constructor
        · intro z
          refine ⟨z.1.1, fun i hi hb => ?_⟩
          by_cases e : i = n
          · subst e; rw [ts_nt q2]; have := z.2; cases h9 : bt (nI t) i
            · rfl
            · rw [h9] at this; cases this
          · exact z.1.2 i (by omega) hb
        · intro z
          exact ⟨⟨z.1, fun i hi => z.2 i (by omega)⟩, by rw [z.2 n (by omega) q, ts_nt q2]; rfl⟩
    · rw [if_pos ((e b).mpr (ts_nt q)), ih]
      constructor
      · intro z
        refine ⟨z.1, fun i hi hb => ?_⟩
        by_cases e : i = n
        · subst e; exact absurd hb q
        · exact z.2 i (by omega) hb
      · intro z
        exact ⟨z.1, fun i hi => z.2 i (by omega)⟩
theorem like_b (s : MS) (x : Int64) (w : Int32) (j : Nat) {t : Nat} (ht : t < 64) : ∀ n, n ≤ 64 → (wb (acc (likeF s x w j) 0 n) t = true ↔ t < n ∧ wb x t = true ∧ (nI t ^^^ w) &&& s.2.1 4 j = 0)
  | 0, _ => ⟨fun h => (by rw [show acc _ (0 : Int64) 0 = (0 : Int64) from rfl, w_0] at h; cases h), fun h => absurd h.1 (by omega)⟩
  | n + 1, h => by
    have ih := like_b s x w j ht n (by omega)
    rw [acc_s]
    generalize acc (likeF s x w j) 0 n = A at ih ⊢
    unfold likeF
    by_cases q : wb x n = true
    · rw [if_pos ((w_shb x (by omega)).mpr q)]
      by_cases q2 : (nI n ^^^ w) &&& s.2.1 4 j = 0
      · rw [if_pos q2, w_or, Bool.or_eq_true, w_bit n (by omega) t ht, decide_eq_true_eq]
        constructor
        · rintro (z | z)
          · have := ih.mp z; exact ⟨by omega, this.2⟩
          · subst z; exact ⟨by omega, q, q2⟩
        · intro z
          by_cases e : t = n
          · exact Or.inr e
          · exact Or.inl (ih.mpr ⟨by omega, z.2⟩)
      · rw [if_neg q2]
        constructor
        · intro z; have := ih.mp z; exact ⟨by omega, this.2⟩
        · intro z
          by_cases e : t = n
          · subst e; exact absurd z.2.2 q2
          · exact ih.mpr ⟨by omega, z.2⟩
    · rw [if_neg (fun z => q ((w_shb x (by omega)).mp z))]
      constructor
      · intro z; have := ih.mp z; exact ⟨by omega, this.2⟩
      · intro z
        by_cases e : t = n
        · subst e; exact absurd z.2.1 q
        · exact ih.mpr ⟨by omega, z.2⟩
theorem known_b {t u b : Nat} (ht : t < 64) (hu : u < 64) (hb : b < 64) : (nI t ^^^ nI u) &&& nI b = 0 ↔ ∀ i, i < 6 → bt (nI b) i = true → bt (nI t) i = bt (nI u) i := by
  rw [b_zero]
  constructor
  · intro h i hi hb
    have := h i (by omega)
    rw [b_and, b_xor, hb, Bool.and_true] at this
    cases q : bt (nI t) i <;> cases q2 : bt (nI u) i <;> rw [q, q2] at this <;> first | rfl | cases this
  · intro h i hi
    rw [b_and, b_xor]
    by_cases h6 : i < 6
    · by_cases q : bt (nI b) i = true
      · rw [h i h6 q]; cases bt (nI u) i <;> rfl
      · rw [ts_nt q, Bool.and_false]
    · have : bt (nI b) i = false := by
        rw [b_nI b hi]
        exact Nat.testBit_lt_two_pow (Nat.lt_of_lt_of_le hb (by rw [show 64 = 2 ^ 6 from rfl]; exact Nat.pow_le_pow_right (by decide) (by omega)))
      rw [this, Bool.and_false]
theorem lk_like {s : MS} {x : Int64} {u j b : Nat} (hu : u < 64) (hb : b < 64) (e : s.2.1 4 j = nI b) : likeI s x (nI u) j = lkI x (nI u) (nI b) := w_ext fun t ht => by
  unfold likeI lkI
  rw [Bool.eq_iff_iff, like_b s x (nI u) j ht 64 (by decide), lk_b x (nI u) (nI b) ht 6 (by decide), e, known_b ht hu hb]
  exact ⟨fun h => h.2, fun h => ⟨ht, h⟩⟩
section
variable {c : CS} {D : List ab_E} {Q : QT} {nw : Nat} {s : MS}
theorem eq_proved (h : RS c D Q nw s) {a : Int32} : provC (Q (2 * 0)).2 (Q (2 * 0)).1 (Q (2 * 0 + 1)).2 (Q (2 * 0 + 1)).1 a = provedM s (Q (2 * 0)).1 (Q (2 * 0 + 1)).1 a := by
  unfold provC provedM
  rw [eo_iw, leftA_eq h]
  refine if_cg fun q => ?_
  rcases iw2 q with rfl | rfl
  · rw [if_pos (by decide), faI_e]; rfl
  · rw [if_neg (by decide), fnI_e]; rfl
theorem lkq (h : RS c D Q nw s) {j u : Nat} (hj : j < nw) (hu : u < 64) (x : Int64) : lkI x (nI u) (kbT c 0 (nI j)) = likeI s x (nI u) j := by
  have h5 := rs_w5 h
  obtain ⟨e, b, hb, e2⟩ := rs_kn h hj
  rw [kb_in (by omega), e2]
  exact (lk_like hu hb (e.trans e2)).symm
theorem eq_certain (h : RS c D Q nw s) {a : Int32} : certC c (lfT (Q (2 * 0)).2 (Q (2 * 0)).1 (Q (2 * 0 + 1)).2 (Q (2 * 0 + 1)).1) a = certainM s (Q (2 * 0)).1 (Q (2 * 0 + 1)).1 a := by
  unfold certC certainM
  have h5 := rs_w5 h
  obtain ⟨t, ht, e⟩ := rs_tt h
  rw [hw_iw (rs_w h) h5, rs_m3 h, leftA_eq h, rs_t h]
  refine if_cg fun q => ?_
  obtain ⟨j, hj, rfl⟩ := iwn (by omega) q
  rw [tn_nI (by omega), e, lkq h hj ht, ali_e]
theorem eq_knowsOf (h : RS c D Q nw s) {a b : Int32} : knofC c (lfT (Q (2 * 0)).2 (Q (2 * 0)).1 (Q (2 * 0 + 1)).2 (Q (2 * 0 + 1)).1) a b = knowsOfM s (Q (2 * 0)).1 (Q (2 * 0 + 1)).1 a b := by
  unfold knofC knowsOfM
  have h5 := rs_w5 h
  obtain ⟨t, ht, e⟩ := rs_tt h
  rw [hw_iw (rs_w h) h5, hw_iw (rs_w h) h5, rs_m3 h, leftA_eq h, rs_t h]
  refine if_cg fun q => if_cg fun q2 => ?_
  obtain ⟨j, hj, rfl⟩ := iwn (by omega) q
  obtain ⟨k, hk, rfl⟩ := iwn (by omega) q2
  rw [tn_nI (by omega), tn_nI (by omega), e, lkq h hj ht]
  refine acc_cg rfl fun i hi z => ?_
  unfold koG knF
  rw [hwB_w _ hi, lkq h hk hi, ali_e]
  by_cases q : wb (likeI s (lfT (Q (2 * 0)).2 (Q (2 * 0)).1 (Q (2 * 0 + 1)).2 (Q (2 * 0 + 1)).1) (nI t) j) i = true
  · rw [if_pos q, if_pos ((w_shb _ hi).mpr q)]
  · rw [if_neg q, if_neg (fun z => q ((w_shb _ hi).mp z))]
end
