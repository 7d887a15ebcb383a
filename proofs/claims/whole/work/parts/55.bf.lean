/-! a told trial: the text read by both -/
theorem dgB (x : Int32) : (dB x = 0 ∧ ¬ 0 ≤ dgC x) ∨ (dB x = 4 ∧ dgC x = nI 4 ∧ x = 108) ∨ (dB x = 2 ∧ dgC x = nI 2 ∧ x = 119) ∨ (dB x = 2 ∧ dgC x = nI 2 ∧ x = 116) ∨ (dB x = 5 ∧ dgC x = nI 5 ∧ x = 115) := by
  unfold dB dgC
  by_cases h1 : x = 108
  · subst h1; decide
  · by_cases h2 : x = 119
    · subst h2; decide
    · by_cases h3 : x = 116
      · subst h3; decide
      · by_cases h4 : x = 115
        · subst h4; decide
        · rw [if_neg h1, if_neg h2, if_neg h3, if_neg h4, if_neg h1, if_neg h4, if_neg h3, if_neg h2]
          exact Or.inl ⟨rfl, by decide⟩
theorem isD_i (x : Int32) : isD x = true ↔ ¬ x < 48 ∧ x ≤ 57 := by
  unfold isD
  rw [Bool.and_eq_true, Bool.not_eq_true', Bool.not_eq_true', decide_eq_false_iff_not, decide_eq_false_iff_not, fa_lt, fa_lt, fa_le]
  omega
/-- the class's and the reference's text -/
def tx (c : CS) (d n : Nat) (g : Nat → Int32) : Prop := n ≤ 100 ∧ c.1 (80 + d) = nI n ∧ (∀ i, i < n → nuA c d (nI i) = g i) ∧ ∀ i, n ≤ i → i < 1000 → nuA c d (nI i) = 0
theorem nu_out {c : CS} {d n i : Nat} (e : c.1 (80 + d) = nI n) (hn : n ≤ 100) (hi : n ≤ i) (hi2 : i < 1000) : nuA c d (nI i) = 0 := by
  unfold nuA
  refine if_neg fun z => ?_
  rw [hp_iw e hn] at z
  obtain ⟨j, hj, ej⟩ := iw_ex (n := n) rfl (by omega) z
  have := (nI_eq (by omega) (by omega)).mp ej
  omega
theorem bi_dE {c : CS} {d n : Nat} {g : Nat → Int32} (h : tx c d n g) : ∀ r p j, p + j ≤ n → r ≤ 5 → (biN c d p r j = none ∧ dE g n r (p + j) = (p + j + r, true) ∧ p + j + r ≤ n) ∨ ∃ q, biN c d p r j = some q ∧ dE g n r (p + j) = (q, false)
  | 0, p, j, hp, hr => Or.inl ⟨rfl, rfl, hp⟩
  | r + 1, p, j, hp, hr => by
    rw [biN_s, dE_s]
    by_cases e : p + j = n
    · have z : nuA c d (nI (p + j)) = 0 := h.2.2.2 _ (by omega) (by have := h.1; omega)
      rw [if_pos e, z, if_neg (by decide)]
      exact Or.inr ⟨p + j, rfl, rfl⟩
    · rw [if_neg e, h.2.2.1 _ (by omega)]
      by_cases q : isD (g (p + j)) = true
      · have q2 := (isD_i _).mp q
        rw [if_pos q, if_neg q2.1, if_pos q2.2]
        rcases bi_dE h r p (j + 1) (by omega) (by omega) with ⟨a, b, d⟩ | ⟨x, a, b⟩
        · exact Or.inl ⟨a, by rw [show p + j + 1 = p + (j + 1) from rfl, b]; congr 1; omega, by omega⟩
        · exact Or.inr ⟨x, a, b⟩
      · rw [if_neg q]
        refine Or.inr ⟨p + j, rfl, ?_⟩
        by_cases q2 : g (p + j) < 48
        · rw [if_pos q2]
        · rw [if_neg q2, if_neg (fun z => q ((isD_i _).mpr ⟨q2, z⟩))]
theorem bp_wf {c : CS} {d n : Nat} {g : Nat → Int32} (h : tx c d n g) : ∀ k p, p ≤ n → n < p + k → ((wfE g n k p).2 = true ∧ bpN c d k p = -1) ∨ ((wfE g n k p).2 = false ∧ bpN c d k p = nI (wfE g n k p).1 ∧ (wfE g n k p).1 ≤ n)
  | 0, p, hp, hk => by omega
  | k + 1, p, hp, hk => by
    have h100 := h.1
    have hch : nuA c d (nI p) = if p < n then g p else 0 := by
      split
      · exact h.2.2.1 p ‹_›
      · exact h.2.2.2 p (by omega) (by omega)
    have stop : stE g n p = (p, false) → ¬ 0 ≤ dgC (nuA c d (nI p)) → ((wfE g n (k + 1) p).2 = true ∧ bpN c d (k + 1) p = -1) ∨ ((wfE g n (k + 1) p).2 = false ∧ bpN c d (k + 1) p = nI (wfE g n (k + 1) p).1 ∧ (wfE g n (k + 1) p).1 ≤ n) := fun e1 e2 => by
      have e3 : sqE g n p = (p, false) := by unfold sqE; rw [e1]; rfl
      rw [wfE_s, e3]
      refine Or.inr ⟨rfl, ?_, hp⟩
      unfold bpN
      rw [if_neg e2]; rfl
    by_cases hpn : p = n
    · refine stop (by unfold stE; rw [if_pos hpn]) ?_
      rw [hch, if_neg (by omega)]; decide
    · rw [if_pos (by omega)] at hch
      have go : ∀ m, m ≤ 5 → dB (g p) = m → dgC (g p) = nI m → 2 ≤ m → ((wfE g n (k + 1) p).2 = true ∧ bpN c d (k + 1) p = -1) ∨ ((wfE g n (k + 1) p).2 = false ∧ bpN c d (k + 1) p = nI (wfE g n (k + 1) p).1 ∧ (wfE g n (k + 1) p).1 ≤ n) := fun m hm h1 h2 h2m => by
        have hst : stE g n p = dE g n m (p + 1) := by unfold stE; rw [if_neg hpn, h1, if_neg (by omega)]
        rw [wfE_s]
        unfold bpN
        rw [hch, h2, if_pos (nI_pos' (by omega)), tn_nI (by omega)]
        rcases bi_dE h m p 1 (by omega) hm with ⟨a1, a2, a3⟩ | ⟨x, a1, a2⟩
        · rw [a1]
          dsimp only
          have hst2 := hst.trans a2
          have e1 : p + 1 + m = p + (m + 1) := by omega
          rw [e1] at hst2 a3
          by_cases q : p + (m + 1) = n
          · have e3 : sqE g n p = (p + (m + 1), false) := by unfold sqE; rw [hst2]; exact if_pos q
            rw [e3, h.2.2.2 (p + (m + 1)) (by omega) (by omega), if_neg (show ¬ (0 : Int32) = 59 from by decide)]
            exact Or.inr ⟨rfl, rfl, by show p + (m + 1) ≤ n; omega⟩
          · rw [h.2.2.1 (p + (m + 1)) (by omega)]
            by_cases q2 : g (p + (m + 1)) = 59
            · have e3 : sqE g n p = (p + (m + 1) + 1, true) := by
                unfold sqE; rw [hst2]
                show (if p + (m + 1) = n then _ else if g (p + (m + 1)) = 59 then (p + (m + 1) + 1, true) else _) = _
                rw [if_neg q, if_pos q2]
              rw [e3, if_pos q2, h.2.1]
              by_cases q3 : p + (m + 1) + 1 = n
              · rw [if_neg (nI_nlt (by omega) (by omega)), if_pos rfl, if_pos q3]
                exact Or.inl ⟨rfl, rfl⟩
              · rw [if_pos (nI_lt (by omega) (by omega)), if_pos rfl, if_neg q3]
                exact bp_wf h k _ (by omega) (by omega)
            · have e3 : sqE g n p = (p + (m + 1), false) := by
                unfold sqE; rw [hst2]
                show (if p + (m + 1) = n then _ else if g (p + (m + 1)) = 59 then _ else (p + (m + 1), false)) = _
                rw [if_neg q, if_neg q2]
              rw [e3, if_neg q2]
              exact Or.inr ⟨rfl, rfl, by show p + (m + 1) ≤ n; omega⟩
        · rw [a1]
          dsimp only
          have hst2 := hst.trans a2
          have e3 : sqE g n p = (x, false) := by unfold sqE; rw [hst2]; rfl
          rw [e3]
          have hx := biN_some m 1 a1
          refine Or.inr ⟨rfl, rfl, ?_⟩
          show x ≤ n
          have : ∀ r p, p ≤ n → (dE g n r p).1 ≤ n := by
            intro r
            induction r with
            | zero => exact fun p hp => hp
            | succ r ih =>
              intro p hp
              rw [dE_s]
              split
              · exact hp
              · split
                · exact hp
                · split
                  · exact ih (p + 1) (by omega)
                  · exact hp
          have := this m (p + 1) (by omega)
          rw [a2] at this
          exact this
      rcases dgB (g p) with ⟨h1, h2⟩ | ⟨h1, h2, -⟩ | ⟨h1, h2, -⟩ | ⟨h1, h2, -⟩ | ⟨h1, h2, -⟩
      · exact stop (by unfold stE; rw [if_neg hpn, if_pos h1]) (by rw [hch]; exact h2)
      · exact go 4 (by decide) h1 h2 (by decide)
      · exact go 2 (by decide) h1 h2 (by decide)
      · exact go 2 (by decide) h1 h2 (by decide)
      · exact go 5 (by decide) h1 h2 (by decide)
/-- reading leaves the trial as it was -/
def rdF (s r : MS) : Prop := (∀ j, j ≠ 13 → r.1 j = s.1 j) ∧ ∀ j, j ≠ 14 → r.2.1 j = s.2.1 j
theorem rd_tr {a b c : MS} (h : rdF a b) (g : rdF b c) : rdF a c := ⟨fun j hj => (g.1 j hj).trans (h.1 j hj), fun j hj => (g.2 j hj).trans (h.2 j hj)⟩
theorem rd_up (s : MS) (x : Int32) : rdF s (mu1 s 13 x) := ⟨fun j hj => pk_un hj, fun _ _ => rfl⟩
theorem rd_stX {f : MS → MS × Int32} {k t : Nat} {s : MS} : rdF s (stX f k t 0 s).1 := by
  have := dg_fr (t := t) k 0 s
  unfold stX
  split
  · rw [if_pos rfl]; exact ⟨this.1, this.2.1⟩
  · exact ⟨this.1, this.2.1⟩
theorem rd_st {t nl nw ns : Nat} {s : MS} : rdF s (stS t nl nw ns 0 s).1 := by
  unfold stS
  split
  · exact rd_tr (rd_up s _) rd_stX
  · split
    · exact rd_tr (rd_up s _) rd_stX
    · split
      · exact rd_tr (rd_up s _) rd_stX
      · split
        · exact rd_tr (rd_up s _) rd_stX
        · exact ⟨fun _ _ => rfl, fun _ _ => rfl⟩
theorem rd_p1 {t nl nw ns : Nat} : ∀ k s, rdF s (p1S t nl nw ns k s).1
  | 0, s => ⟨fun _ _ => rfl, fun _ _ => rfl⟩
  | k + 1, s => by
    rw [p1S_s]
    split
    · split
      · split
        · exact rd_tr rd_st (rd_up _ _)
        · exact rd_tr (rd_tr rd_st (rd_up _ _)) (rd_p1 k _)
      · exact rd_st
    · exact rd_st
/-- digits, read -/
theorem dg_run {t n : Nat} : ∀ (k i a : Nat) {s : MS}, pI s t n → s.1 13 = nI a → a + k ≤ n → (∀ j, j < k → isD (txt s t (a + j)) = true) → (dgS t k i s).2 = true ∧ (dgS t k i s).1.1 13 = nI (a + k) ∧ (∀ j, j < k → (dgS t k i s).1.2.1 14 (i + j) = txt s t (a + j) - 48) ∧ ∀ j, j < i → (dgS t k i s).1.2.1 14 j = s.2.1 14 j
  | 0, i, a, s, hp, ha, hk, hd => ⟨rfl, ha, fun j hj => absurd hj (by omega), fun _ _ => rfl⟩
  | k + 1, i, a, s, hp, ha, hk, hd => by
    have hn := hp.2.2.2.2.2
    have ht : tn (s.1 13) = a := by rw [ha]; exact tn_nI (by omega)
    have c1 : ¬ s.1 13 = s.2.1 10 t := fun z => by have := (pI_end hp).mp z; omega
    have d0 := (isD_i _).mp (hd 0 (by omega))
    rw [dgS_s, if_neg c1, chT_E, ht]
    rw [Nat.add_zero] at d0
    rw [if_neg d0.1, if_pos d0.2]
    have hp2 := pI_up (s := mu2 s 14 i (txt s t a - 48)) (pI_v hp) c1
    obtain ⟨e1, e2, e3, e4⟩ := dg_run (t := t) (n := n) k (i + 1) (a + 1) hp2 (by
      show (mu1 (mu2 s 14 i (txt s t a - 48)) 13 (s.1 13 + 1)).1 13 = _
      rw [ha, nI_1]; rfl) (by omega) (fun j hj => by
      have := hd (j + 1) (by omega)
      rw [show a + 1 + j = a + (j + 1) from by omega]; exact this)
    refine ⟨e1, by rw [show a + (k + 1) = a + 1 + k from by omega]; exact e2, fun j hj => ?_, fun j hj => ?_⟩
    · by_cases z : j = 0
      · subst z
        refine (e4 i (by omega)).trans ?_
        exact (mu2_v (s := s) (k := 14) (i := i) (x := txt s t a - 48) i).trans (if_pos rfl)
      · have := e3 (j - 1) (by omega)
        rw [show i + 1 + (j - 1) = i + j from by omega, show a + 1 + (j - 1) = a + j from by omega] at this
        exact this
    · refine (e4 j (by omega)).trans ?_
      exact (mu2_v (s := s) (k := 14) (i := i) (x := txt s t a - 48) j).trans (if_neg (by omega))
