/-! what the law asks of the answers -/
def alI (x : Int64) : Int32 := faI x ||| fnI x
theorem wbF {x : Bool} : ¬ x = true ↔ x = false := by cases x <;> decide
section
variable {ql qs : Nat → SY} {nl ns : Nat}
theorem lf_b (hn : ns ≤ 10) {t : Nat} (ht : t < 64) : wb (lfT ql nl qs ns) t = true ↔ wb (mbT ql nl) t = true ∧ ∀ i, i < ns → wb (wY (qs i)) t = false := by
  unfold lfT
  rw [lbT_b hn ht]
  exact ⟨fun h => ⟨h.1, fun i hi => h.2 i hi (b_m1 i (by omega))⟩, fun h => ⟨h.1, fun i hi _ => h.2 i hi⟩⟩
theorem ft_1 (hn : ns ≤ 10) : lfT ql nl qs ns &&& (mbT ql nl ^^^ (-1)) = 0 := w_zero.mpr fun t ht => by
  rw [w_and, w_not _ ht]
  cases h : wb (lfT ql nl qs ns) t with
  | false => rfl
  | true => rw [((lf_b hn ht).mp h).1]; rfl
theorem ft_is (hn : ns ≤ 10) {T : Nat} (hT : T < 64) : wb (lfT ql nl qs ns) T = true ↔ wb (mbT ql nl) T = true ∧ toT qs ns (nI T) = 0 := by
  rw [lf_b hn hT]
  refine and_congr_right fun _ => ⟨fun h => b_zero.mpr fun i hi => wbF.mp fun q => ?_, fun h i hi => ?_⟩
  · obtain ⟨q1, q2⟩ := (to_b hi ns hn).mp q
    rw [hwB_w _ hT, h i q1] at q2
    cases q2
  · refine wbF.mp fun q => ?_
    have q2 := (to_b (qs := qs) (w := nI T) (i := i) (by omega) ns hn).mpr ⟨hi, by rw [hwB_w _ hT]; exact q⟩
    rw [h, b_0] at q2
    cases q2
end
theorem and_n0 {x y : Int32} (h : ∀ j, j < 32 → bt x j = true → bt y j = true) : x &&& (y ^^^ (-1)) = 0 := b_zero.mpr fun j hj => by
  rw [b_and, b_not _ hj]
  cases q : bt x j with
  | false => rfl
  | true => rw [h j hj q]; rfl
theorem and_00 {x y : Int32} (h : ∀ j, j < 32 → bt x j = true → bt y j = false) : x &&& y = 0 := b_zero.mpr fun j hj => by
  rw [b_and]
  cases q : bt x j with
  | false => rfl
  | true => rw [h j hj q]; rfl
theorem ft_fa {w : Int64} {T : Nat} (hT : T < 64) (h : wb w T = true) : faI w &&& (nI T ^^^ (-1)) = 0 := and_n0 fun j hj q => ((faI_b w hj).mp q).2 T hT h
theorem ft_fn {w : Int64} {T : Nat} (hT : T < 64) (h : wb w T = true) : fnI w &&& nI T = 0 := and_00 fun j hj q => ((fnI_b w hj).mp q).2 T hT h
theorem w_ne {w : Int64} (h : ¬ w = 0) : ∃ t, t < 64 ∧ wb w t = true := by
  refine Classical.byContradiction fun q => h (w_zero.mpr fun t ht => wbF.mp fun z => q ⟨t, ht, z⟩)
theorem ft_fafn {w : Int64} (h : ¬ w = 0) : faI w &&& fnI w = 0 := by
  obtain ⟨t, ht, z⟩ := w_ne h
  refine and_00 fun j hj q => wbF.mp fun q2 => ?_
  have a := ((faI_b w hj).mp q).2 t ht z
  rw [((fnI_b w hj).mp q2).2 t ht z] at a
  cases a
theorem al_b {w : Int64} {j : Nat} (hj : j < 32) : bt (alI w) j = true ↔ j < 6 ∧ ((∀ t, t < 64 → wb w t = true → bt (nI t) j = true) ∨ ∀ t, t < 64 → wb w t = true → bt (nI t) j = false) := by
  unfold alI
  rw [b_or, Bool.or_eq_true, faI_b w hj, fnI_b w hj]
  exact ⟨fun h => h.elim (fun h => ⟨h.1, Or.inl h.2⟩) (fun h => ⟨h.1, Or.inr h.2⟩), fun h => h.2.imp (fun q => ⟨h.1, q⟩) (fun q => ⟨h.1, q⟩)⟩
theorem al_mono {x y : Int64} (h : ∀ t, t < 64 → wb x t = true → wb y t = true) {j : Nat} (hj : j < 32) (q : bt (alI y) j = true) : bt (alI x) j = true := by
  obtain ⟨h6, q⟩ := (al_b hj).mp q
  exact (al_b hj).mpr ⟨h6, q.imp (fun q t ht z => q t ht (h t ht z)) (fun q t ht z => q t ht (h t ht z))⟩
theorem lkI_b (w : Int64) (u b : Int32) {t : Nat} (ht : t < 64) : wb (lkI w u b) t = true ↔ wb w t = true ∧ ∀ i, i < 6 → bt b i = true → bt (nI t) i = bt u i := lk_b w u b ht 6 (by decide)
theorem lk_sub (w : Int64) (u b : Int32) : ∀ t, t < 64 → wb (lkI w u b) t = true → wb w t = true := fun t ht h => ((lkI_b w u b ht).mp h).1
theorem ft_cert (w : Int64) (u b : Int32) : (faI w ||| fnI w) &&& (alI (lkI w u b) ^^^ (-1)) = 0 := and_n0 fun j hj q => al_mono (lk_sub w u b) hj q
theorem ft_kn (w : Int64) (u : Int32) {b : Nat} (hb : b < 64) : nI b &&& (alI (lkI w u (nI b)) ^^^ (-1)) = 0 := and_n0 fun j hj q => by
  have h6 : j < 6 := by
    rw [b_nI b hj] at q
    exact Nat.lt_of_not_le fun z => by
      have : 2 ^ 6 ≤ 2 ^ j := Nat.pow_le_pow_right (by decide) z
      rw [Nat.testBit_lt_two_pow (by omega)] at q
      cases q
  refine (al_b hj).mpr ⟨h6, ?_⟩
  cases z : bt u j with
  | true => exact Or.inl fun t ht g => (((lkI_b w u (nI b) ht).mp g).2 j h6 q).trans z
  | false => exact Or.inr fun t ht g => (((lkI_b w u (nI b) ht).mp g).2 j h6 q).trans z
/-- what one knows another to know, bit by bit -/
theorem ko_b {c : CS} {lf th : Int64} {o : Int32} {j : Nat} (hj : j < 32) : ∀ n, n ≤ 64 → (bt (acc (koG c lf th o) 63 n) j = true ↔ bt 63 j = true ∧ ∀ t, t < n → wb th t = true → bt (alI (lkI lf (nI t) (kbT c 0 o))) j = true)
  | 0, _ => ⟨fun h => ⟨h, fun t ht => absurd ht (Nat.not_lt_zero _)⟩, fun h => h.1⟩
  | n + 1, h => by
    have ih := ko_b (c := c) (lf := lf) (th := th) (o := o) hj n (by omega)
    rw [acc_s]
    generalize acc (koG c lf th o) 63 n = z9 at ih ⊢
    unfold koG
    rw [hwB_w _ (by omega)]
    cases q : wb th n with
    | false =>
      rw [if_neg (by exact Bool.noConfusion), ih]
      exact and_congr_right fun _ => ⟨fun g t ht z => (Nat.lt_succ_iff_lt_or_eq.mp ht).elim (fun l => g t l z) (fun e => by subst e; rw [q] at z; cases z), fun g t ht z => g t (by omega) z⟩
    | true =>
      rw [if_pos rfl, b_and, Bool.and_eq_true, ih]
      exact ⟨fun g => ⟨g.1.1, fun t ht z => (Nat.lt_succ_iff_lt_or_eq.mp ht).elim (fun l => g.1.2 t l z) (fun e => by subst e; exact g.2)⟩, fun g => ⟨⟨g.1, fun t ht z => g.2 t (by omega) z⟩, g.2 n (Nat.lt_succ_self n) q⟩⟩
theorem ft_ko {c : CS} {lf : Int64} {T : Nat} {k o : Int32} (hT : T < 64) (h : wb lf T = true) : acc (koG c lf (lkI lf (nI T) k) o) 63 64 &&& (alI (lkI lf (nI T) (kbT c 0 o)) ^^^ (-1)) = 0 := and_n0 fun j hj q =>
  ((ko_b hj 64 (Nat.le_refl _)).mp q).2 T hT ((lkI_b lf (nI T) k hT).mpr ⟨h, fun _ _ _ => rfl⟩)
theorem ft_kos {c : CS} {lf : Int64} {T : Nat} {o : Int32} (hT : T < 64) (h : wb lf T = true) : acc (koG c lf (lkI lf (nI T) (kbT c 0 o)) o) 63 64 = alI (lkI lf (nI T) (kbT c 0 o)) := b_ext fun j hj => by
  have e : bt (acc (koG c lf (lkI lf (nI T) (kbT c 0 o)) o) 63 64) j = true ↔ bt (alI (lkI lf (nI T) (kbT c 0 o))) j = true := by
    rw [ko_b hj 64 (Nat.le_refl _)]
    constructor
    · exact fun q => q.2 T hT ((lkI_b lf (nI T) _ hT).mpr ⟨h, fun _ _ _ => rfl⟩)
    · intro q
      refine ⟨by rw [b_63 j hj, decide_eq_true ((al_b hj).mp q).1], fun t ht z => ?_⟩
      have z2 := (lkI_b lf (nI T) _ ht).mp z
      have e : lkI lf (nI t) (kbT c 0 o) = lkI lf (nI T) (kbT c 0 o) := w_ext fun u hu => by
        have : wb (lkI lf (nI t) (kbT c 0 o)) u = true ↔ wb (lkI lf (nI T) (kbT c 0 o)) u = true := by
          rw [lkI_b _ _ _ hu, lkI_b _ _ _ hu]
          exact and_congr_right fun _ => ⟨fun g i hi b => (g i hi b).trans (z2.2 i hi b), fun g i hi b => (g i hi b).trans (z2.2 i hi b).symm⟩
        cases q1 : wb (lkI lf (nI t) (kbT c 0 o)) u <;> cases q2 : wb (lkI lf (nI T) (kbT c 0 o)) u <;> rw [q1, q2] at this <;> first | rfl | exact absurd (this.mp rfl) Bool.noConfusion | exact absurd (this.mpr rfl) Bool.noConfusion
      rw [e]
      exact q
  cases q1 : bt (acc (koG c lf (lkI lf (nI T) (kbT c 0 o)) o) 63 64) j <;> cases q2 : bt (alI (lkI lf (nI T) (kbT c 0 o))) j <;> rw [q1, q2] at e <;> first | rfl | exact absurd (e.mp rfl) Bool.noConfusion | exact absurd (e.mpr rfl) Bool.noConfusion
/-! numbers of worlds -/
theorem ct_64 (p : Nat → Bool) : ∀ n, fb_ct p n ≤ n := fun n => fb_ct_le p n
theorem lbc_r (x : Int64) : ∃ n, n ≤ 64 ∧ lbc x = nI n := ⟨_, ct_64 _ 64, lbc_ct x⟩
theorem nI_sub {a b : Nat} (h : b ≤ a) (ha : a ≤ 1000) : nI a - nI b = nI (a - b) := by
  apply Int32.toInt_inj.mp
  rw [Int32.toInt_sub, nI_toInt (by omega), nI_toInt (by omega), nI_toInt (by omega), Int.bmod_eq_of_le (by omega) (by omega)]
  omega
theorem ft_wi {x y : Int64} (h : ∀ i, i < 64 → wb y i = true → wb x i = true) : ¬ lbc x - lbc y < 0 := by
  have hm := lbc_mono h
  obtain ⟨a, ha, ea⟩ := lbc_r x
  obtain ⟨b, hb, eb⟩ := lbc_r y
  rw [ea, eb] at hm ⊢
  have hab : b ≤ a := (nI_leI (by omega) (by omega)).mp hm
  rw [nI_sub hab (by omega)]
  exact nI_pos (by omega)
theorem lt_lf {ql qs : Nat → SY} {nl ns : Nat} (hn : ns ≤ 10) (set : Int32) : ∀ t, t < 64 → wb (lfT ql nl qs ns) t = true → wb (ltT ql nl qs ns set) t = true := fun t ht h => by
  obtain ⟨h1, h2⟩ := (lf_b hn ht).mp h
  unfold ltT
  exact (lbT_b hn ht).mpr ⟨h1, fun i hi _ => h2 i hi⟩
/-- the worlds of a and of not a -/
theorem ct_add (p q r : Nat → Bool) : ∀ n, (∀ i, i < n → (p i = true ↔ q i = true ∨ r i = true) ∧ ¬ (q i = true ∧ r i = true)) → fb_ct p n = fb_ct q n + fb_ct r n
  | 0, _ => rfl
  | n + 1, h => by
    have ih := ct_add p q r n (fun i hi => h i (by omega))
    obtain ⟨h1, h2⟩ := h n (Nat.lt_succ_self n)
    rw [fb_ct_succ, fb_ct_succ, fb_ct_succ, ih]
    cases a : p n <;> cases b : q n <;> cases d : r n <;> rw [a, b, d] at h1 <;> rw [b, d] at h2 <;> simp at h1 h2 ⊢ <;> omega
theorem lbc_split (x w : Int64) : lbc (x &&& w) = lbc x - lbc (x &&& (w ^^^ (-1))) := by
  rw [lbc_ct, lbc_ct x, lbc_ct (x &&& (w ^^^ (-1)))]
  have e := ct_add (wb x) (wb (x &&& w)) (wb (x &&& (w ^^^ (-1)))) 64 (fun i hi => by
    rw [w_and, w_and, w_not _ hi]
    cases wb x i <;> cases wb w i <;> decide)
  have := ct_64 (wb x) 64
  rw [nI_sub (by omega) (by omega)]
  exact congrArg nI (by omega)
