/-! what the relation of the two states gives -/
section
variable {c : CS} {D : List ab_E} {Q : QT} {nw : Nat} {s : MS}
theorem rs_nl (h : RS c D Q nw s) : (Q (2 * 0)).1 ≤ 6 := h.2.1.1
theorem rs_ns (h : RS c D Q nw s) : (Q (2 * 0 + 1)).1 ≤ 10 := h.2.1.2.1
theorem rs_m1 (h : RS c D Q nw s) : s.1 1 = nI (Q (2 * 0)).1 := h.2.1.2.2.2.1
theorem rs_m5 (h : RS c D Q nw s) : s.1 5 = nI (Q (2 * 0 + 1)).1 := h.2.1.2.2.2.2.1
theorem rs_m3 (h : RS c D Q nw s) : s.1 3 = nI nw := h.2.1.2.2.2.2.2.1
theorem rs_t (h : RS c D Q nw s) : c.1 (20 + 0) = s.1 0 := h.2.1.2.2.2.2.2.2.2.1
theorem rs_tt (h : RS c D Q nw s) : ∃ t, t < 64 ∧ s.1 0 = nI t := h.2.1.2.2.2.2.2.2.2.2.1
theorem rs_law (h : RS c D Q nw s) {i : Nat} (hi : i < (Q (2 * 0)).1) : VY ((Q (2 * 0)).2 i) ∧ s.2.1 2 i = codeY ((Q (2 * 0)).2 i) := h.2.1.2.2.2.2.2.2.2.2.2.1 i hi
theorem rs_say (h : RS c D Q nw s) {i : Nat} (hi : i < (Q (2 * 0 + 1)).1) : VY ((Q (2 * 0 + 1)).2 i) ∧ s.2.1 6 i = codeY ((Q (2 * 0 + 1)).2 i) ∧ s.2.1 7 i = ((Q (2 * 0 + 1)).2 i).1 ∧ ∃ w, w < nw ∧ ((Q (2 * 0 + 1)).2 i).1 = nI w := h.2.1.2.2.2.2.2.2.2.2.2.2.1 i hi
theorem rs_kn (h : RS c D Q nw s) {j : Nat} (hj : j < nw) : s.2.1 4 j = c.2.1 0 j ∧ ∃ b, b < 64 ∧ c.2.1 0 j = nI b := h.2.1.2.2.2.2.2.2.2.2.2.2.2 j hj
theorem rs_c0 (h : RS c D Q nw s) : c.1 (30 + 2 * 0) = nI (Q (2 * 0)).1 := (rs_0 h).1
theorem rs_c1 (h : RS c D Q nw s) : c.1 (30 + (2 * 0 + 1)) = nI (Q (2 * 0 + 1)).1 := (rs_1 h).1
theorem rs_sr (h : RS c D Q nw s) {d : Nat} (hd : d < 8) : SR c s d := h.2.2.2.1 d hd
/-! worlds -/
theorem mb_eq (h : RS c D Q nw s) : mayBeI s (Q (2 * 0)).1 = mbT (Q (2 * 0)).2 (Q (2 * 0)).1 := acc_cg rfl fun i hi b => by
  unfold mbF mbG
  rw [(rs_law h hi).2, wY_N (rs_law h hi).1]
theorem left_eq (h : RS c D Q nw s) (set : Int32) : leftI s (Q (2 * 0)).1 (Q (2 * 0 + 1)).1 set = lbT (Q (2 * 0 + 1)).2 (Q (2 * 0 + 1)).1 (mbT (Q (2 * 0)).2 (Q (2 * 0)).1) set := acc_cg (mb_eq h) fun i hi b => by
  have h10 := rs_ns h
  unfold lbF lbG
  rw [(rs_say h hi).2.1, wY_N (rs_say h hi).1, hasB_b set (by omega)]
  by_cases q : bt set i = true
  · rw [if_pos q, if_neg (fun z => by rw [(b_sh0 set (by omega)).mp z] at q; cases q)]
  · rw [if_neg q, if_pos ((b_sh0 set (by omega)).mpr (ts_nt q))]
theorem sub1_b : ∀ n, n ≤ 10 → ∀ i, i < n → bt ((1 : Int32) <<< (nI n &&& 31) - 1) i = true := by decide +kernel
/-- only the places of what is said matter in a set -/
theorem lbT_cg {qs : Nat → SY} {ns : Nat} {w : Int64} {s1 s2 : Int32} (hn : ns ≤ 10) (e : ∀ i, i < ns → bt s1 i = bt s2 i) : lbT qs ns w s1 = lbT qs ns w s2 := acc_cg rfl fun i hi b => by
  unfold lbG
  by_cases q : bt s2 i = true
  · rw [if_neg (fun z => by have := e i hi; rw [(b_sh0 s1 (by omega)).mp z, q] at this; cases this), if_neg (fun z => by rw [(b_sh0 s2 (by omega)).mp z] at q; cases q)]
  · rw [if_pos ((b_sh0 s1 (by omega)).mpr ((e i hi).trans (ts_nt q))), if_pos ((b_sh0 s2 (by omega)).mpr (ts_nt q))]
theorem leftA_eq (h : RS c D Q nw s) : leftA s (Q (2 * 0)).1 (Q (2 * 0 + 1)).1 = lfT (Q (2 * 0)).2 (Q (2 * 0)).1 (Q (2 * 0 + 1)).2 (Q (2 * 0 + 1)).1 := by
  unfold leftA lfT
  rw [left_eq h, rs_m5 h]
  have h10 := rs_ns h
  exact lbT_cg h10 fun i hi => (sub1_b _ h10 i hi).trans (b_m1 i (by omega)).symm
end
/-- what is left, bit by bit -/
theorem lbT_b {qs : Nat → SY} {ns : Nat} {w : Int64} {set : Int32} (hn : ns ≤ 10) {t : Nat} (ht : t < 64) : wb (lbT qs ns w set) t = true ↔ wb w t = true ∧ ∀ i, i < ns → bt set i = true → wb (wY (qs i)) t = false := by
  unfold lbT
  induction ns with
  | zero => exact ⟨fun h => ⟨h, fun i hi => absurd hi (by omega)⟩, fun h => h.1⟩
  | succ n ih =>
    have ih := ih (by omega)
    rw [acc_s]
    unfold lbG
    by_cases q : bt set n = true
    · rw [if_neg (fun z => by rw [(b_sh0 set (by omega)).mp z] at q; cases q), w_and, w_not _ ht, Bool.and_eq_true]
      constructor
      · intro h
        refine ⟨(ih.mp h.1).1, fun i hi hb => ?_⟩
        by_cases e : i = n
        · subst e; have := h.2; cases hw : wb (wY (qs i)) t
          · rfl
          · rw [hw] at this; cases this
        · exact (ih.mp h.1).2 i (by omega) hb
      · intro h
        exact ⟨ih.mpr ⟨h.1, fun i hi => h.2 i (by omega)⟩, by rw [h.2 n (by omega) q]; rfl⟩
    · rw [if_pos ((b_sh0 set (by omega)).mpr (ts_nt q))]
      constructor
      · intro h
        refine ⟨(ih.mp h).1, fun i hi hb => ?_⟩
        by_cases e : i = n
        · subst e; exact absurd hb q
        · exact (ih.mp h).2 i (by omega) hb
      · intro h
        exact ih.mpr ⟨h.1, fun i hi => h.2 i (by omega)⟩
/-! small tests -/
theorem inB6 (x : Int32) : inB x 6 = iw x 0 5 := by
  unfold inB iw
  exact congrArg (fun z => !decide (x < 0) && !z) (decide_eq_decide.mpr (by rw [fa_le, fa_lt, show (6 : Int32).toInt = 6 from by decide, show (5 : Int32).toInt = 5 from by decide]; omega))
theorem inB64 (x : Int32) : inB x 64 = iw x 0 63 := by
  unfold inB iw
  exact congrArg (fun z => !decide (x < 0) && !z) (decide_eq_decide.mpr (by rw [fa_le, fa_lt, show (64 : Int32).toInt = 64 from by decide, show (63 : Int32).toInt = 63 from by decide]; omega))
theorem eo_iw (x : Int32) : eoB x = iw x 0 1 := by
  unfold eoB iw
  have e1 : (1 : Int32).toInt = 1 := by decide
  have e0 : (0 : Int32).toInt = 0 := by decide
  by_cases h0 : x = 0
  · subst h0; rfl
  · by_cases h1 : x = 1
    · subst h1; rfl
    · rw [decide_eq_false h0, decide_eq_false h1]
      rw [fa_eq, e0] at h0
      rw [fa_eq, e1] at h1
      by_cases h2 : x < 0
      · rw [decide_eq_true h2]; rfl
      · rw [decide_eq_true (p := 1 < x) (by rw [fa_lt, e1]; rw [fa_lt, e0] at h2; omega)]
        cases (!decide (x < 0)) <;> rfl
theorem leP : ∀ n, n ≤ 10 → (nI n - 1).toInt = n - 1 := by decide +kernel
theorem nT {n : Nat} (h : n < 2147483648) : (nI n).toInt = n := nI_toInt h
theorem hw_iw {c : CS} {t : Nat} {nw : Nat} (h : c.1 (10 + t) = nI nw) (h5 : nw ≤ 5) (x : Int32) : hwT c t x = iw x 0 (nI nw - 1) := by
  unfold hwT iw
  congr 2
  exact decide_eq_decide.mpr (by rw [h, fa_le, fa_lt, leP nw (by omega), nT (by omega)]; omega)
theorem iw2 {x : Int32} (h : iw x 0 1 = true) : x = 0 ∨ x = 1 := by
  obtain ⟨j, hj, rfl⟩ := iw_ex (n := 2) (by decide) (by decide) h
  rcases (by omega : j = 0 ∨ j = 1) with rfl | rfl
  · exact Or.inl rfl
  · exact Or.inr rfl
theorem iwn {x : Int32} {n : Nat} (hn : n ≤ 10) (h : iw x 0 (nI n - 1) = true) : ∃ j, j < n ∧ x = nI j := iw_ex rfl (by omega) h
theorem kb_in {c : CS} {t j : Nat} (hj : j < 5) : kbT c t (nI j) = c.2.1 t j := by
  unfold kbT
  rw [if_neg (nI_pos (by omega)), if_neg (fun z => by have := (nI_leI (a := 5) (b := j) (by omega) (by omega)).mp z; omega), tn_nI (by omega)]
/-! shelves -/
theorem sr_1 {c : CS} {s : MS} {d : Nat} (h : SR c s d) (e : c.1 (50 + d) = 1) : s.2.1 8 d = 1 ∧ ∃ k f, k < 8 ∧ f < 10 ∧ skc c d = k ∧ c.1 (60 + d) = nI f ∧ s.2.1 9 d = nI k ∧ s.2.1 10 d = nI f := by
  rcases h with ⟨h, -⟩ | ⟨-, h, k, f, hk, hf, hr, h6, h9, h10⟩ | ⟨h, -⟩
  · rw [e] at h; exact absurd h (by decide)
  · exact ⟨h, k, f, hk, hf, skc_k hr, h6, h9, h10⟩
  · rw [e] at h; exact absurd h (by decide)
theorem sr_2 {c : CS} {s : MS} {d : Nat} (h : SR c s d) (e : c.1 (50 + d) = 2) : s.2.1 8 d = 2 ∧ ∃ o n, o < 3 ∧ n ≤ 100 ∧ c.1 (70 + d) = nI o ∧ s.2.1 9 d = nI o ∧ c.1 (80 + d) = nI n ∧ s.2.1 10 d = nI n ∧ ∀ i, i < 100 → c.2.1 (10 + d) i = s.2.1 11 (100 * d + i) := by
  rcases h with ⟨h, -⟩ | ⟨h, -⟩ | ⟨-, h, o⟩
  · rw [e] at h; exact absurd h (by decide)
  · rw [e] at h; exact absurd h (by decide)
  · exact ⟨h, o⟩
/-- a shelf asked for a saying -/
theorem sr_S {c : CS} {s : MS} {d : Nat} (h : SR c s d) : (c.1 (50 + d) = 1 ∧ rfU c d 1 = 0 ∧ noS s d = 0) ∨ (¬ c.1 (50 + d) = 1 ∧ ¬ rfU c d 1 = 0 ∧ ¬ 0 ≤ noS s d ∧ rfU c d 1 = noS s d) := by
  unfold rfU noS
  rcases h with ⟨h, h8⟩ | ⟨h, h8, -⟩ | ⟨h, h8, -⟩ <;> rw [h, h8] <;> decide
theorem sr_R {c : CS} {s : MS} {d : Nat} (h : SR c s d) : (c.1 (50 + d) = 2 ∧ rfU c d 2 = 0 ∧ noR s d = 0) ∨ (¬ c.1 (50 + d) = 2 ∧ ¬ rfU c d 2 = 0 ∧ ¬ 0 ≤ noR s d ∧ rfU c d 2 = noR s d) := by
  unfold rfU noR
  rcases h with ⟨h, h8⟩ | ⟨h, h8, -⟩ | ⟨h, h8, -⟩ <;> rw [h, h8] <;> decide
theorem shS_if {c : CS} {s : MS} {d : Nat} (h : SR c s d) {X Y : Int32} (e : c.1 (50 + d) = 1 → X = Y) : (if rfU c d 1 = 0 then X else rfU c d 1) = if 0 ≤ noS s d then Y else noS s d := by
  rcases sr_S h with ⟨h1, h2, h3⟩ | ⟨-, h2, h3, h4⟩
  · rw [if_pos h2, h3, if_pos (by decide)]; exact e h1
  · rw [if_neg h2, if_neg h3, h4]
theorem shR_if {c : CS} {s : MS} {d : Nat} (h : SR c s d) {X Y : Int32} (e : c.1 (50 + d) = 2 → X = Y) : (if rfU c d 2 = 0 then X else rfU c d 2) = if 0 ≤ noR s d then Y else noR s d := by
  rcases sr_R h with ⟨h1, h2, h3⟩ | ⟨-, h2, h3, h4⟩
  · rw [if_pos h2, h3, if_pos (by decide)]; exact e h1
  · rw [if_neg h2, if_neg h3, h4]
theorem if_cg {α : Type} {b : Bool} {x y z : α} (h : b = true → x = y) : (if b = true then x else z) = if b = true then y else z := by
  split
  · exact h ‹_›
  · rfl
