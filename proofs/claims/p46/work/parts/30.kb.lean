/-- only the third trial differs -/
def frT (c e : CS) : Prop := (∀ k, k ≠ 12 → k ≠ 22 → (k < 30 ∨ 46 ≤ k) → e.1 k = c.1 k) ∧ (∀ k, k ≠ 2 → e.2.1 k = c.2.1 k) ∧ ∀ k, 6 ≤ k → e.2.2.2 k = c.2.2.2 k
theorem fr_rf (c : CS) : frT c c := ⟨fun _ _ _ _ => rfl, fun _ _ => rfl, fun _ _ => rfl⟩
theorem fr_tr {a b c : CS} (h : frT a b) (k : frT b c) : frT a c := ⟨fun i h1 h2 h3 => (k.1 i h1 h2 h3).trans (h.1 i h1 h2 h3), fun i h1 => (k.2.1 i h1).trans (h.2.1 i h1), fun i h1 => (k.2.2 i h1).trans (h.2.2 i h1)⟩
theorem fr_setL {c : CS} {l : Nat} {m n : Int32} {v : Value} (hl : l < 6) : frT c (setL c l m n v) := by
  refine ⟨fun k _ _ h => ?_, fun _ _ => rfl, fun k h => if_neg (by omega)⟩
  show upd (upd c.1 (40 + l) m) (30 + l) n k = _
  rw [pk_un (by omega), pk_un (by omega)]
theorem fr_ad {l r : Nat} {p : CD} (hl : l < 6) : frT p.1 (adP l r p).1 := by
  unfold adP
  split
  · exact fr_setL hl
  · exact fr_setL hl
theorem fr_cl {l : Nat} {p : CD} (hl : l < 6) : frT p.1 (clP l p).1 := by
  unfold clP
  split
  · exact fr_setL hl
  · exact fr_setL hl
theorem fr_st {c : CS} {w : Int32} : frT c (stP2 c 2 w) := by
  unfold stP2
  split
  · exact ⟨fun k h1 h2 _ => pk_un h2, fun _ _ => rfl, fun _ _ => rfl⟩
  · exact fr_rf c
theorem fr_aw {c : CS} {w : Int32} : frT c (awP c 2 w) := by
  unfold awP
  split
  · exact ⟨fun k h1 h2 _ => pk_un h1, fun k h => if_neg h, fun _ _ => rfl⟩
  · exact fr_rf c
theorem fr_acc {l k : Nat} {p : CD} (hl : l < 6) : ∀ i, frT p.1 (acc (adS l k) p i).1
  | 0 => fr_rf _
  | i + 1 => fr_tr (fr_acc hl i) (fr_ad hl)
theorem fr_be {u n0 n1 : Nat} {p : CD} : frT p.1 (beP 2 u n0 n1 p).1 := by
  have a : frT p.1 (be2 2 u n0 n1 p).1 := fr_tr (fr_tr (fr_cl (by decide)) (fr_acc (by decide) n0)) (fr_tr (fr_cl (by decide)) (fr_acc (by decide) n1))
  refine fr_tr a ⟨fun k h1 h2 _ => beC_1 h1 h2, fun k h => ?_, fun k _ => beC_4⟩
  exact acc_c (f := kwF 2 u) (fun c => c.2.1 k) (fun _ _ => if_neg h) _ 5
theorem nu_fr {c e : CS} {d : Nat} (h : frT c e) (a : Int32) : nuA e d a = nuA c d a := by
  unfold nuA hpB
  rw [h.1 (80 + d) (by omega) (by omega) (by omega), h.2.1 (10 + d) (by omega)]
theorem sa_fr {c e : CS} {d : Nat} (h : frT c e) (a : Int32) : saB e d a = saB c d a := by
  unfold saB
  rw [nu_fr h, nu_fr h, nu_fr h]
theorem biN_none {c : CS} {d p : Nat} : ∀ r j, biN c d p r j = none → ∀ i, j ≤ i → i < j + r → isD (nuA c d (nI (p + i))) = true
  | 0, j, _, i, h1, h2 => by omega
  | r + 1, j, h, i, h1, h2 => by
    rw [biN_s] at h
    by_cases q : isD (nuA c d (nI (p + j))) = true
    · rw [if_pos q] at h
      by_cases e : i = j
      · rw [e]; exact q
      · exact biN_none r (j + 1) h i (by omega) (by omega)
    · rw [if_neg q] at h; cases h
theorem biN_some {c : CS} {d p q : Nat} : ∀ r j, biN c d p r j = some q → q < p + j + r
  | 0, j, h => by cases h
  | r + 1, j, h => by
    rw [biN_s] at h
    by_cases e : isD (nuA c d (nI (p + j))) = true
    · rw [if_pos e] at h
      have := biN_some r (j + 1) h
      omega
    · rw [if_neg e] at h
      have := Option.some.inj h
      omega
/-- where all goes on from -/
theorem bp_inv {c : CS} {d k a : Nat} (ha : a ≤ 100) (h : bpN c d k a < 0) (hk : 101 ≤ a + k) : ∃ m, m ≤ 5 ∧ dgC (nuA c d (nI a)) = nI m ∧ (∀ j, 1 ≤ j → j ≤ m → isD (nuA c d (nI (a + j))) = true) ∧ nuA c d (nI (a + (m + 1))) = 59 ∧ (nI (a + (m + 1) + 1) < c.1 (80 + d) → ∃ q, bpN c d q (a + (m + 1) + 1) < 0 ∧ 101 ≤ (a + (m + 1) + 1) + q) := by
  obtain ⟨q, rfl⟩ : ∃ q, k = q + 1 := ⟨k - 1, by omega⟩
  rw [bpN_s] at h
  by_cases c1 : 0 ≤ dgC (nuA c d (nI a))
  · obtain ⟨m, hm5, hm, hmt⟩ := dg_ok c1
    rw [if_pos c1, hmt] at h
    cases hb : biN c d a m 1 with
    | some z =>
      rw [hb] at h
      have := biN_some _ _ hb
      exact absurd h (nI_pos (by omega))
    | none =>
      rw [hb] at h
      refine ⟨m, hm5, hm, fun j h1 h2 => biN_none m 1 hb j h1 (by omega), ?_, fun h3 => ?_⟩
      · by_cases c2 : nuA c d (nI (a + (m + 1))) = 59
        · exact c2
        · simp only [c2, ↓reduceIte] at h
          exact absurd h (nI_pos (by omega))
      · by_cases c2 : nuA c d (nI (a + (m + 1))) = 59
        · simp only [c2, ↓reduceIte, h3] at h
          exact ⟨q, h, by omega⟩
        · simp only [c2, ↓reduceIte] at h
          exact absurd h (nI_pos (by omega))
  · rw [if_neg c1] at h
    exact absurd h (nI_pos (by omega))
theorem inB_ex {x : Int32} (h : inB x 6 = true) : ∃ j, j < 6 ∧ x = nI j := by
  simp only [inB, Bool.and_eq_true, Bool.not_eq_true', decide_eq_false_iff_not] at h
  obtain ⟨j, hj, rfl⟩ := nI_of h.1
  exact ⟨j, Nat.not_le.mp fun q => h.2 (nI_le (a := 6) q hj), rfl⟩
theorem isD_ex {x : Int32} (h : isD x = true) : ∃ j, j < 10 ∧ x - 48 = nI j := by
  simp only [isD, Bool.and_eq_true, Bool.not_eq_true', decide_eq_false_iff_not] at h
  obtain ⟨h1, h2⟩ := h
  rw [Int32.lt_iff_toInt_lt] at h1 h2
  have e1 : (48 : Int32).toInt = 48 := by decide
  have e2 : (57 : Int32).toInt = 57 := by decide
  refine ⟨(x.toInt - 48).toNat, by omega, ?_⟩
  apply Int32.toInt_inj.mp
  rw [nI_toInt (by omega), Int32.toInt_sub, e1]
  rw [Int.bmod_eq_of_le (by omega) (by omega)]
  omega
theorem saE_V {c : CS} {d : Nat} {a t : Int32} (h : saB c d a = true) (hf : isD (nuA c d (a + 1)) = true) : ∃ y : SY, VY y ∧ y = (t, tn (nuA c d a - 48), tn (nuA c d (a + 1) - 48), tn (nuA c d (a + 2) - 48), tn (nuA c d (a + 3) - 48)) ∧ saE c d a t = .inr (8, syF y) := by
  obtain ⟨⟨k, hk, hke, hkt⟩, ha, hb⟩ := sa_get h
  obtain ⟨f, hf1, hf2⟩ := isD_ex hf
  obtain ⟨u, hu1, hu2⟩ := inB_ex ha
  obtain ⟨v, hv1, hv2⟩ := inB_ex hb
  refine ⟨(t, k, f, u, v), ⟨hk, hf1, hu1, hv1⟩, ?_, ?_⟩
  · rw [hkt, hf2, hu2, hv2, tn_nI (by omega), tn_nI (by omega), tn_nI (by omega)]
  · rw [saE, hkt, hf2, hu2, hv2]
    rfl
def enX (d : Nat) (a : Int32) (p : CD) : CD × Bool := enP (tn (p.1.1 (30 + 2 * 2))) (tn (p.1.1 (30 + (2 * 2 + 1)))) d a p
theorem enX_e {d : Nat} {a : Int32} {p : CD} {Q : Nat → Nat × (Nat → SY)} (h : GI p.1 p.2 Q) : enP (Q (2 * 2)).1 (Q (2 * 2 + 1)).1 d a (p.1, p.2) = enX d a p := by
  have h4 := h.1 (2 * 2) (by decide)
  have h5 := h.1 (2 * 2 + 1) (by decide)
  have b4 := h4.2.1
  have b5 := h5.2.1
  unfold enX
  rw [h4.1, h5.1, tn_nI (by omega), tn_nI (by omega)]
/-- what a statement keeps -/
def enI (c : CS) (p : CD) (Q : Nat → Nat × (Nat → SY)) (nw : Nat) : Prop := GI p.1 p.2 Q ∧ frT c p.1 ∧ p.1.1 (10 + 2) = nI nw ∧ nw ≤ 5
theorem enI_ad {c : CS} {p : CD} {Q : Nat → Nat × (Nat → SY)} {nw l : Nat} {x : ab_E} {y : SY} (h : enI c p Q nw) (hl : l < 6) (hl4 : 4 ≤ l) (hn : (Q l).1 < 10) (hx : x = .inr (8, syF y)) (hy : VY y) : enI c (adP l (43 + p.2.length) (p.1, p.2 ++ [x])) (upQ Q l ((Q l).1 + 1) (fun i => if i = (Q l).1 then y else (Q l).2 i)) nw := by
  obtain ⟨h1, h2, h3, h4⟩ := h
  have f := fr_ad (l := l) (r := 43 + p.2.length) (p := (p.1, p.2 ++ [x])) hl
  refine ⟨GI_ad (GI_app x h1) hl hn (by rw [← hx]; exact ga_n) hy, fr_tr h2 f, ?_, h4⟩
  rw [← h3]
  unfold adP
  split
  · show upd (upd p.1.1 (40 + l) _) (30 + l) _ 12 = _
    rw [pk_un (by omega), pk_un (by omega)]
  · show upd (upd p.1.1 (40 + l) _) (30 + l) _ 12 = _
    rw [pk_un (by omega), pk_un (by omega)]
theorem enI_app {c : CS} {p : CD} {Q : Nat → Nat × (Nat → SY)} {nw : Nat} {x : ab_E} (h : enI c p Q nw) : enI c (p.1, p.2 ++ [x]) Q nw := ⟨GI_app x h.1, h.2⟩
theorem enX_I {c : CS} {d a k : Nat} (ha : a ≤ 100) (hb : bpN c d k a < 0) (hk : 101 ≤ a + k) {p : CD} {Q : Nat → Nat × (Nat → SY)} {nw : Nat} (h : enI c p Q nw) :
    ∃ Q2 nw2, enI c (enX d (nI a) p).1 Q2 nw2 ∧ leD p.2 (enX d (nI a) p).1.2 ∧ (∀ l, l < 4 → Q2 l = Q l) ∧ ∃ m, m ≤ 5 ∧ dgC (nuA c d (nI a)) = nI m ∧ (nI (a + (m + 1) + 1) < c.1 (80 + d) → ∃ q, bpN c d q (a + (m + 1) + 1) < 0 ∧ 101 ≤ (a + (m + 1) + 1) + q) := by
  obtain ⟨m, hm5, hm, hdig, h59, hgo⟩ := bp_inv ha hb hk
  have hle : leD p.2 (enX d (nI a) p).1.2 := by
    rw [← enX_e h.1]
    exact le_enP h.1
  have hz : ∃ Q2 nw2, enI c (enX d (nI a) p).1 Q2 nw2 ∧ ∀ l, l < 4 → Q2 l = Q l := by
    have hfr := h.2.1
    rw [← enX_e h.1]
    unfold enP
    dsimp only
    by_cases c1 : nuA p.1 d (nI a) = 108
    · rw [if_pos c1]
      unfold enL1
      dsimp only
      by_cases s1 : saB p.1 d (nI a + 1) = true
      · rw [if_pos s1]
        have e4 : m = 4 := by
          rw [nu_fr hfr] at c1
          rw [c1] at hm
          exact ((nI_eq (a := 4) (b := m) (by omega) (by omega)).mp hm).symm
        obtain ⟨y, hy, -, hye⟩ := saE_V (t := -4) s1 (by
          rw [nu_fr hfr, nI_1, nI_1]
          exact hdig 2 (by omega) (by omega))
        by_cases n1 : (Q (2 * 2)).1 < 6
        · rw [if_pos n1]
          exact ⟨_, _, enI_ad h (by decide) (by decide) (by omega) hye hy, fun l hl => upQ_ne (by omega)⟩
        · rw [if_neg n1]
          exact ⟨Q, nw, enI_app h, fun _ _ => rfl⟩
      · rw [if_neg s1]
        exact ⟨Q, nw, h, fun _ _ => rfl⟩
    · rw [if_neg c1]
      by_cases c2 : nuA p.1 d (nI a) = 115
      · rw [if_pos c2]
        unfold enS1
        dsimp only
        by_cases s1 : saB p.1 d (nI a + 2) = true
        · rw [if_pos s1]
          have e4 : m = 5 := by
            rw [nu_fr hfr] at c2
            rw [c2] at hm
            exact ((nI_eq (a := 5) (b := m) (by omega) (by omega)).mp hm).symm
          obtain ⟨y, hy, -, hye⟩ := saE_V (t := tlA p.1 d (nI a)) s1 (by
            rw [nu_fr hfr, show nI a + 2 = nI (a + 2) from nI_add a 2, nI_1]
            exact hdig 3 (by omega) (by omega))
          by_cases n0 : hwT p.1 2 (tlA p.1 d (nI a)) = true
          · rw [if_pos n0]
            by_cases n1 : (Q (2 * 2 + 1)).1 < 10
            · rw [if_pos n1]
              exact ⟨_, _, enI_ad h (by decide) (by decide) (by omega) hye hy, fun l hl => upQ_ne (by omega)⟩
            · rw [if_neg n1]
              exact ⟨Q, nw, enI_app h, fun _ _ => rfl⟩
          · rw [if_neg n0]
            exact ⟨Q, nw, enI_app h, fun _ _ => rfl⟩
        · rw [if_neg s1]
          exact ⟨Q, nw, h, fun _ _ => rfl⟩
      · rw [if_neg c2]
        obtain ⟨h1, h2, h3, h4⟩ := h
        by_cases c3 : nuA p.1 d (nI a) = 116
        · rw [if_pos c3]
          refine ⟨Q, nw, ⟨GI_c h1 (fun l hl => ?_) (fun l hl => ?_), fr_tr h2 fr_st, ?_, h4⟩, fun _ _ => rfl⟩
          · unfold stP2
            split
            · exact pk_un (by omega)
            · rfl
          · unfold stP2
            split <;> rfl
          · rw [← h3]
            unfold stP2
            split
            · show upd p.1.1 (20 + 2) (twA p.1 d (nI a)) (10 + 2) = p.1.1 (10 + 2)
              exact pk_un (by decide)
            · rfl
        · rw [if_neg c3]
          by_cases c4 : nuA p.1 d (nI a) = 119
          · rw [if_pos c4]
            have g1 : ∀ l, l < 6 → (awP p.1 2 (twA p.1 d (nI a))).1 (30 + l) = p.1.1 (30 + l) := fun l hl => by
              unfold awP
              split
              · exact pk_un (by omega)
              · rfl
            have g2 : ∀ l, l < 6 → (awP p.1 2 (twA p.1 d (nI a))).2.2.2 l = p.1.2.2.2 l := fun l hl => by
              unfold awP
              split <;> rfl
            by_cases w1 : awB p.1 2 (twA p.1 d (nI a)) = true
            · refine ⟨Q, nw + 1, ⟨GI_c h1 g1 g2, fr_tr h2 fr_aw, ?_, ?_⟩, fun _ _ => rfl⟩
              · show (awP p.1 2 (twA p.1 d (nI a))).1 (10 + 2) = _
                rw [awP, if_pos w1, ← nI_1, ← h3]
                show upd (cu2 p.1 2 (tn (p.1.1 (10 + 2))) (twA p.1 d (nI a))).1 (10 + 2) (p.1.1 (10 + 2) + 1) (10 + 2) = _
                exact pk_us
              · have q : ¬ p.1.1 (10 + 2) = 5 := by
                  rw [awB, Bool.and_eq_true, Bool.not_eq_true', decide_eq_false_iff_not] at w1
                  exact w1.2
                have := neL h3 h4 q
                omega
            · refine ⟨Q, nw, ⟨GI_c h1 g1 g2, fr_tr h2 fr_aw, ?_, h4⟩, fun _ _ => rfl⟩
              show (awP p.1 2 (twA p.1 d (nI a))).1 (10 + 2) = _
              rw [awP, if_neg w1]
              exact h3
          · rw [if_neg c4]
            exact ⟨Q, nw, ⟨h1, h2, h3, h4⟩, fun _ _ => rfl⟩
  obtain ⟨Q2, nw2, z1, z2⟩ := hz
  exact ⟨Q2, nw2, z1, hle, z2, m, hm5, hm, hgo⟩

