/-! whom to ask; who slipped; what all know; pencils -/
theorem have_n {left : Int64} {f : Nat} (hf : f < 6) : ∀ n, n ≤ 64 → acc (haveF left (nI f)) 0 n = nI (fb_ct (wb (left &&& wW (nI f))) n)
  | 0, _ => rfl
  | n + 1, h => by
    rw [acc_s, have_n hf n (by omega), fb_ct_succ]
    unfold haveF
    rw [w_and, wW_b f hf n (by omega), hasB_b _ (by omega)]
    by_cases q : wb left n = true
    · rw [if_pos ((w_shb left (by omega)).mpr q), q]
      cases bt (nI n) f
      · rfl
      · exact nI_1 _
    · rw [if_neg (fun z => q ((w_shb left (by omega)).mp z)), ts_nt q]; rfl
theorem have_eq {left : Int64} {f : Nat} (hf : f < 6) : acc (haveF left (nI f)) 0 64 = lbc (left &&& wW (nI f)) := by rw [lbc_ct, have_n hf 64 (by decide)]
def le2 (a b : Int32) : Prop := ibc a < ibc b ∨ (ibc a = ibc b ∧ a ≤ b)
theorem le2_r (a : Int32) : le2 a a := Or.inr ⟨rfl, by rw [fa_le]; omega⟩
theorem le2_t {a b c : Int32} (h : le2 a b) (g : le2 b c) : le2 a c := by
  unfold le2 at *
  rw [fa_lt, fa_eq, fa_le] at *
  omega
theorem le2_a {a b : Int32} (h : le2 a b) (g : le2 b a) : a = b := by
  unfold le2 at *
  rw [fa_lt, fa_eq, fa_le] at *
  omega
theorem to_b {qs : Nat → SY} {w : Int32} {i : Nat} (hi : i < 32) : ∀ n, n ≤ 10 → (bt (toT qs n w) i = true ↔ i < n ∧ hwB (wY (qs i)) w = true)
  | 0, _ => ⟨fun h => (by rw [show toT qs 0 w = (0 : Int32) from rfl, b_0] at h; cases h), fun h => absurd h.1 (by omega)⟩
  | n + 1, h => by
    have ih := to_b (qs := qs) (w := w) hi n (by omega)
    unfold toT at ih ⊢
    rw [acc_s]
    generalize acc (toG qs w) 0 n = A at ih ⊢
    unfold toG
    by_cases q : hwB (wY (qs n)) w = true
    · rw [if_pos q, b_or, Bool.or_eq_true, ih, b_bit n (by omega) i hi, decide_eq_true_eq]
      constructor
      · rintro (z | z)
        · exact ⟨by omega, z.2⟩
        · subst z; exact ⟨by omega, q⟩
      · intro z
        by_cases e : i = n
        · exact Or.inr e
        · exact Or.inl ⟨by omega, z.2⟩
    · rw [if_neg q, ih]
      constructor
      · intro z; exact ⟨by omega, z.2⟩
      · intro z
        by_cases e : i = n
        · subst e; exact absurd z.2 q
        · exact ⟨by omega, z.2⟩
theorem to_n {qs : Nat → SY} {w : Int32} : ∀ n, n ≤ 10 → ∃ k, k < 2 ^ n ∧ toT qs n w = nI k
  | 0, _ => ⟨0, by decide, rfl⟩
  | n + 1, h => by
    obtain ⟨k, hk, e⟩ := to_n (qs := qs) (w := w) n (by omega)
    unfold toT at e ⊢
    rw [acc_s, e]
    unfold toG
    have h2 : 2 ^ (n + 1) = 2 * 2 ^ n := by rw [Nat.pow_succ, Nat.mul_comm]
    split
    · refine ⟨2 ^ n * 1 + k, by omega, ?_⟩
      rw [pw2 n (by omega), Int32.or_comm, ← fa_or_sum 1 hk, Nat.mul_one]
    · exact ⟨k, by omega, rfl⟩
theorem si_b {s : MS} {set : Int32} {z : Int64} {t : Nat} (ht : t < 64) : ∀ n, n ≤ 10 → (wb (acc (siF s set) z n) t = true ↔ wb z t = true ∧ ∀ i, i < n → bt set i = true → wb (worldsN (s.2.1 6 i) 64) t = true)
  | 0, _ => ⟨fun h => ⟨h, fun i hi => absurd hi (by omega)⟩, fun h => h.1⟩
  | n + 1, h => by
    have ih := si_b (s := s) (set := set) (z := z) ht n (by omega)
    rw [acc_s]
    generalize acc (siF s set) z n = A at ih ⊢
    unfold siF
    rw [hasB_b set (by omega)]
    by_cases q : bt set n = true
    · rw [if_pos q, w_and, Bool.and_eq_true, ih]
      constructor
      · intro y
        refine ⟨y.1.1, fun i hi hb => ?_⟩
        by_cases e : i = n
        · subst e; exact y.2
        · exact y.1.2 i (by omega) hb
      · intro y
        exact ⟨⟨y.1, fun i hi => y.2 i (by omega)⟩, y.2 n (by omega) q⟩
    · rw [if_neg q, ih]
      constructor
      · intro y
        refine ⟨y.1, fun i hi hb => ?_⟩
        by_cases e : i = n
        · subst e; exact absurd hb q
        · exact y.2 i (by omega) hb
      · intro y
        exact ⟨y.1, fun i hi => y.2 i (by omega)⟩
/-- gathering worlds -/
theorem or_acc {f : Nat → Int64 → Int64} {P : Nat → Prop} {z : Int64} {t : Nat} : ∀ n, (∀ i, i < n → ∀ b, wb (f i b) t = true ↔ wb b t = true ∨ P i) → (wb (acc f z n) t = true ↔ wb z t = true ∨ ∃ i, i < n ∧ P i)
  | 0, _ => ⟨Or.inl, fun h => h.elim id fun ⟨i, hi, _⟩ => absurd hi (by omega)⟩
  | n + 1, h => by
    rw [acc_s, h n (by omega), or_acc n fun i hi => h i (by omega)]
    constructor
    · rintro ((y | ⟨i, hi, y⟩) | y)
      · exact Or.inl y
      · exact Or.inr ⟨i, by omega, y⟩
      · exact Or.inr ⟨n, by omega, y⟩
    · rintro (y | ⟨i, hi, y⟩)
      · exact Or.inl (Or.inl y)
      · by_cases e : i = n
        · subst e; exact Or.inr y
        · exact Or.inl (Or.inr ⟨i, by omega, y⟩)
theorem sub1_k : ∀ n, n ≤ 10 → ∀ i, i < 10 → bt ((1 : Int32) <<< (nI n &&& 31) - 1) i = decide (i < n) := by decide +kernel
section
variable {c : CS} {D : List ab_E} {Q : QT} {nw : Nat} {s : MS}
theorem eq_ask (h : RS c D Q nw s) : askC (Q (2 * 0)).2 (Q (2 * 0)).1 (Q (2 * 0 + 1)).2 (Q (2 * 0 + 1)).1 = askM s (Q (2 * 0)).1 (Q (2 * 0 + 1)).1 := by
  unfold askC askM
  rw [leftA_eq h]
  by_cases z : lfT (Q (2 * 0)).2 (Q (2 * 0)).1 (Q (2 * 0 + 1)).2 (Q (2 * 0 + 1)).1 = 0
  · rw [if_pos z, if_pos z]
  rw [if_neg z, if_neg z]
  refine congrArg Prod.fst (acc_cg rfl fun i hi p => ?_)
  unfold akG askF
  rw [have_eq hi]
  generalize minI _ _ = x
  by_cases q : x ≤ p.2
  · rw [if_pos q, if_neg (fun z => (fa_of_lt z).2.1 q)]
  · rw [if_neg q, if_pos (fa_of_nle q)]
/-- a set of those that slipped -/
theorem slp_S (h : RS c D Q nw s) {i : Nat} (hi : i < 2 ^ (Q (2 * 0 + 1)).1) : (¬ acc (siF s (nI i)) (leftI s (Q (2 * 0)).1 (Q (2 * 0 + 1)).1 (((1 : Int32) <<< (s.1 5 &&& 31) - 1) &&& (nI i ^^^ (-1)))) (Q (2 * 0 + 1)).1 = 0) ↔ ∃ t, t < 64 ∧ wb (mbT (Q (2 * 0)).2 (Q (2 * 0)).1) t = true ∧ toT (Q (2 * 0 + 1)).2 (Q (2 * 0 + 1)).1 (nI t) = nI i := by
  have h10 := rs_ns h
  have key : ∀ t, t < 64 → (wb (acc (siF s (nI i)) (leftI s (Q (2 * 0)).1 (Q (2 * 0 + 1)).1 (((1 : Int32) <<< (s.1 5 &&& 31) - 1) &&& (nI i ^^^ (-1)))) (Q (2 * 0 + 1)).1) t = true ↔ wb (mbT (Q (2 * 0)).2 (Q (2 * 0)).1) t = true ∧ toT (Q (2 * 0 + 1)).2 (Q (2 * 0 + 1)).1 (nI t) = nI i) := by
    intro t ht
    rw [si_b ht _ h10, left_eq h, lbT_b h10 ht, rs_m5 h]
    constructor
    · rintro ⟨⟨y1, y2⟩, y3⟩
      refine ⟨y1, b_ext fun j hj => ?_⟩
      rw [Bool.eq_iff_iff, to_b hj _ h10]
      constructor
      · rintro ⟨z1, z2⟩
        rw [hwB_w _ ht] at z2
        cases q : bt (nI i) j
        · have := y2 j z1 (by rw [b_and, sub1_b _ h10 j z1, b_not _ hj, q]; rfl)
          rw [z2] at this; cases this
        · rfl
      · intro z
        have hjn : j < (Q (2 * 0 + 1)).1 := by
          rcases Nat.lt_or_ge j (Q (2 * 0 + 1)).1 with y | y
          · exact y
          · rw [b_nI i hj, Nat.testBit_lt_two_pow (Nat.lt_of_lt_of_le hi (p2le y))] at z; cases z
        refine ⟨hjn, ?_⟩
        have := y3 j hjn z
        rw [(rs_say h hjn).2.1, wY_N (rs_say h hjn).1] at this
        rw [hwB_w _ ht]; exact this
    · rintro ⟨y1, y2⟩
      have y4 : ∀ j, j < (Q (2 * 0 + 1)).1 → bt (nI i) j = wb (wY ((Q (2 * 0 + 1)).2 j)) t := fun j hj => by
        rw [← y2, Bool.eq_iff_iff, to_b (by omega) _ h10, hwB_w _ ht]
        exact ⟨fun z => z.2, fun z => ⟨hj, z⟩⟩
      refine ⟨⟨y1, fun j hj hb => ?_⟩, fun j hj hb => ?_⟩
      · rw [b_and, sub1_b _ h10 j hj, b_not _ (by omega), y4 j hj] at hb
        cases q : wb (wY ((Q (2 * 0 + 1)).2 j)) t
        · rfl
        · rw [q] at hb; cases hb
      · rw [(rs_say h hj).2.1, wY_N (rs_say h hj).1, ← y4 j hj]; exact hb
  constructor
  · intro z
    apply Classical.byContradiction
    intro y
    apply z
    rw [w_zero]
    intro t ht
    apply ts_nt
    intro q
    exact y ⟨t, ht, (key t ht).mp q⟩
  · rintro ⟨t, ht, y⟩ z
    have := (key t ht).mpr y
    rw [z, w_0] at this; cases this
theorem eq_slipped (h : RS c D Q nw s) : slippedC (Q (2 * 0)).2 (Q (2 * 0)).1 (Q (2 * 0 + 1)).2 (Q (2 * 0 + 1)).1 = slippedM s (Q (2 * 0)).1 (Q (2 * 0 + 1)).1 := by
  have h10 := rs_ns h
  have hn : 2 ^ (Q (2 * 0 + 1)).1 ≤ 1024 := p2le h10
  let M := mbT (Q (2 * 0)).2 (Q (2 * 0)).1
  let T := fun t => toT (Q (2 * 0 + 1)).2 (Q (2 * 0 + 1)).1 (nI t)
  have hT : ∀ t, ∃ k, k < 2 ^ (Q (2 * 0 + 1)).1 ∧ T t = nI k := fun t => to_n _ h10
  have A : (acc (slG (Q (2 * 0 + 1)).2 (Q (2 * 0 + 1)).1 M) (-4, 11) 64 = (-4, 11) ∧ ∀ w, w < 64 → wb M w = false) ∨ ∃ w, w < 64 ∧ wb M w = true ∧ acc (slG (Q (2 * 0 + 1)).2 (Q (2 * 0 + 1)).1 M) (-4, 11) 64 = (T w, ibc (T w)) ∧ ∀ v, v < 64 → wb M v = true → le2 (T w) (T v) := by
    refine accI (fun n p => (p = (-4, 11) ∧ ∀ w, w < n → wb M w = false) ∨ ∃ w, w < n ∧ wb M w = true ∧ p = (T w, ibc (T w)) ∧ ∀ v, v < n → wb M v = true → le2 (T w) (T v)) (Or.inl ⟨rfl, fun w hw => absurd hw (by omega)⟩) ?_
    intro t ht p hp
    show (slG _ _ M t p = _ ∧ _) ∨ ∃ w, _ ∧ _ ∧ slG _ _ M t p = _ ∧ _
    unfold slG
    rw [hwB_w _ ht, show toT (Q (2 * 0 + 1)).2 (Q (2 * 0 + 1)).1 (nI t) = T t from rfl]
    by_cases q : wb M t = true
    · rw [if_pos q]
      rcases hp with ⟨rfl, y⟩ | ⟨w, hw, y1, rfl, y2⟩
      · obtain ⟨k, hk, ek⟩ := hT t
        rw [if_pos (by rw [ek]; exact fa_of_nle (ibc10 k (by omega)))]
        refine Or.inr ⟨t, by omega, q, rfl, fun v hv hb => ?_⟩
        by_cases e : v = t
        · subst e; exact le2_r _
        · rw [y v (by omega)] at hb; cases hb
      · have keep : le2 (T w) (T t) → ∃ x, x < t + 1 ∧ wb M x = true ∧ (T w, ibc (T w)) = (T x, ibc (T x)) ∧ ∀ v, v < t + 1 → wb M v = true → le2 (T x) (T v) := fun l => ⟨w, by omega, y1, rfl, fun v hv hb => by
          by_cases e : v = t
          · subst e; exact l
          · exact y2 v (by omega) hb⟩
        have take : le2 (T t) (T w) → ∃ x, x < t + 1 ∧ wb M x = true ∧ (T t, ibc (T t)) = (T x, ibc (T x)) ∧ ∀ v, v < t + 1 → wb M v = true → le2 (T x) (T v) := fun l => ⟨t, by omega, q, rfl, fun v hv hb => by
          by_cases e : v = t
          · subst e; exact le2_r _
          · exact le2_t l (y2 v (by omega) hb)⟩
        dsimp only
        right
        by_cases q1 : ibc (T t) < ibc (T w)
        · rw [if_pos q1]; exact take (Or.inl q1)
        · rw [if_neg q1]
          by_cases q2 : ibc (T t) = ibc (T w)
          · rw [if_pos q2]
            by_cases q3 : T w ≤ T t
            · rw [if_pos q3]; exact keep (Or.inr ⟨q2.symm, q3⟩)
            · rw [if_neg q3]; exact take (Or.inr ⟨q2, (fa_of_lt (fa_of_nle q3)).1⟩)
          · rw [if_neg q2]; exact keep (Or.inl (fa_le_ne (fa_of_nlt q1) fun e => q2 e.symm))
    · rw [if_neg q]
      rcases hp with ⟨rfl, y⟩ | ⟨w, hw, y1, rfl, y2⟩
      · refine Or.inl ⟨rfl, fun v hv => ?_⟩
        by_cases e : v = t
        · subst e; exact ts_nt q
        · exact y v (by omega)
      · refine Or.inr ⟨w, by omega, y1, rfl, fun v hv hb => ?_⟩
        by_cases e : v = t
        · subst e; exact absurd hb q
        · exact y2 v (by omega) hb
  have B : (slippedM s (Q (2 * 0)).1 (Q (2 * 0 + 1)).1 = -4 ∧ ∀ k, k < 2 ^ (Q (2 * 0 + 1)).1 → ¬ ∃ t, t < 64 ∧ wb M t = true ∧ T t = nI k) ∨ ∃ k, k < 2 ^ (Q (2 * 0 + 1)).1 ∧ slippedM s (Q (2 * 0)).1 (Q (2 * 0 + 1)).1 = nI k ∧ (∃ t, t < 64 ∧ wb M t = true ∧ T t = nI k) ∧ ∀ j, j < 2 ^ (Q (2 * 0 + 1)).1 → (∃ t, t < 64 ∧ wb M t = true ∧ T t = nI j) → le2 (nI k) (nI j) := by
    unfold slippedM
    have G := accI (fun n f => (f = -4 ∧ ∀ k, k < n → ¬ ∃ t, t < 64 ∧ wb M t = true ∧ T t = nI k) ∨ ∃ k, k < n ∧ f = nI k ∧ (∃ t, t < 64 ∧ wb M t = true ∧ T t = nI k) ∧ ∀ j, j < n → (∃ t, t < 64 ∧ wb M t = true ∧ T t = nI j) → le2 (nI k) (nI j)) (f := slpF s (Q (2 * 0)).1 (Q (2 * 0 + 1)).1) (z := -4) (n := 2 ^ (Q (2 * 0 + 1)).1) (Or.inl ⟨rfl, fun w hw => absurd hw (by omega)⟩) ?_
    · exact G
    intro i hi f hf
    have hS := slp_S h hi
    have keepN : f = -4 → (¬ ∃ t, t < 64 ∧ wb M t = true ∧ T t = nI i) → (∀ k, k < i → ¬ ∃ t, t < 64 ∧ wb M t = true ∧ T t = nI k) → ∀ k, k < i + 1 → ¬ ∃ t, t < 64 ∧ wb M t = true ∧ T t = nI k := fun _ y z k hk => by
      by_cases e : k = i
      · subst e; exact y
      · exact z k (by omega)
    unfold slpF
    by_cases q : btB (nI i) f = true
    · rw [if_pos q]
      by_cases q2 : acc (siF s (nI i)) (leftI s (Q (2 * 0)).1 (Q (2 * 0 + 1)).1 (((1 : Int32) <<< (s.1 5 &&& 31) - 1) &&& (nI i ^^^ (-1)))) (Q (2 * 0 + 1)).1 = 0
      · rw [if_pos q2]
        have hno : ¬ ∃ t, t < 64 ∧ wb M t = true ∧ T t = nI i := fun y => (hS.mpr y) q2
        rcases hf with ⟨e, y⟩ | ⟨k, hk, e, y1, y2⟩
        · exact Or.inl ⟨e, keepN e hno y⟩
        · refine Or.inr ⟨k, by omega, e, y1, fun j hj y => ?_⟩
          by_cases e : j = i
          · subst e; exact absurd y hno
          · exact y2 j (by omega) y
      · rw [if_neg q2]
        refine Or.inr ⟨i, by omega, rfl, hS.mp q2, fun j hj y => ?_⟩
        by_cases e : j = i
        · subst e; exact le2_r _
        · rcases hf with ⟨e, y3⟩ | ⟨k, hk, e, y1, y2⟩
          · exact absurd y (y3 j (by omega))
          · refine le2_t (Or.inl ?_) (y2 j (by omega) y)
            rw [e] at q
            unfold btB at q
            rw [if_neg (nIne4 (by omega))] at q
            by_cases q3 : ibc (nI k) ≤ ibc (nI i)
            · rw [if_pos q3] at q; cases q
            · exact fa_of_nle q3
    · rw [if_neg q]
      rcases hf with ⟨e, y⟩ | ⟨k, hk, e, y1, y2⟩
      · rw [e] at q; exact absurd (if_pos rfl) q
      · refine Or.inr ⟨k, by omega, e, y1, fun j hj y => ?_⟩
        by_cases e2 : j = i
        · subst e2
          rw [e] at q
          unfold btB at q
          rw [if_neg (nIne4 (by omega))] at q
          by_cases q3 : ibc (nI k) ≤ ibc (nI j)
          · unfold le2
            have : nI k ≤ nI j := nI_le (by omega) (by omega)
            rw [fa_le] at q3
            rw [fa_lt, fa_eq]
            rcases Int.lt_or_eq_of_le q3 with z | z
            · exact Or.inl z
            · exact Or.inr ⟨z, this⟩
          · rw [if_neg q3] at q; exact absurd rfl q
        · exact y2 j (by omega) y
  unfold slippedC
  rw [show mbT (Q (2 * 0)).2 (Q (2 * 0)).1 = M from rfl]
  rcases A with ⟨e, y⟩ | ⟨w, hw, y1, e, y2⟩ <;> rw [e]
  · rcases B with ⟨e2, -⟩ | ⟨k, hk, e2, ⟨t, ht, z1, z2⟩, -⟩
    · exact e2.symm
    · rw [y t ht] at z1; cases z1
  · obtain ⟨k1, hk1, ek⟩ := hT w
    rcases B with ⟨e2, z⟩ | ⟨k, hk, e2, ⟨t, ht, z1, z2⟩, z3⟩
    · exact absurd ⟨w, hw, y1, ek⟩ (z k1 hk1)
    · rw [e2]
      have l1 := y2 t ht z1
      rw [z2] at l1
      have l2 := z3 k1 hk1 ⟨w, hw, y1, ek⟩
      rw [← ek] at l2
      exact le2_a l1 l2
end
