/-- the text that shelf t holds -/
def txt (s : MS) (t : Nat) (p : Nat) : Int32 := s.2.1 11 (100 * t + p)
def dB (x : Int32) : Nat := if x = 108 then 4 else if x = 119 then 2 else if x = 116 then 2 else if x = 115 then 5 else 0
def dE (c : Nat → Int32) (n : Nat) : Nat → Nat → Nat × Bool
  | 0, p => (p, true)
  | k + 1, p => if p = n then (p, false) else if c p < 48 then (p, false) else if c p ≤ 57 then dE c n k (p + 1) else (p, false)
theorem dE_s (c : Nat → Int32) (n k p : Nat) : dE c n (k + 1) p = if p = n then (p, false) else if c p < 48 then (p, false) else if c p ≤ 57 then dE c n k (p + 1) else (p, false) := rfl
def stE (c : Nat → Int32) (n p : Nat) : Nat × Bool := if p = n then (p, false) else if dB (c p) = 0 then (p, false) else dE c n (dB (c p)) (p + 1)
def sqE (c : Nat → Int32) (n p : Nat) : Nat × Bool := if (stE c n p).2 = true then (if (stE c n p).1 = n then ((stE c n p).1, false) else if c (stE c n p).1 = 59 then ((stE c n p).1 + 1, true) else ((stE c n p).1, false)) else ((stE c n p).1, false)
def wfE (c : Nat → Int32) (n : Nat) : Nat → Nat → Nat × Bool
  | 0, p => (p, false)
  | k + 1, p => if (sqE c n p).2 = true then (if (sqE c n p).1 = n then (n, true) else wfE c n k (sqE c n p).1) else ((sqE c n p).1, false)
theorem wfE_s (c : Nat → Int32) (n k p : Nat) : wfE c n (k + 1) p = if (sqE c n p).2 = true then (if (sqE c n p).1 = n then (n, true) else wfE c n k (sqE c n p).1) else ((sqE c n p).1, false) := rfl
theorem dE_ge (c : Nat → Int32) (n : Nat) : ∀ k p, p ≤ (dE c n k p).1
  | 0, p => Nat.le_refl p
  | k + 1, p => by
    rw [dE_s]
    have := dE_ge c n k (p + 1)
    split
    · exact Nat.le_refl p
    · split
      · exact Nat.le_refl p
      · split
        · omega
        · exact Nat.le_refl p
theorem stE_ge (c : Nat → Int32) (n p : Nat) : p ≤ (stE c n p).1 := by
  unfold stE
  split
  · exact Nat.le_refl _
  · split
    · exact Nat.le_refl _
    · have := dE_ge c n (dB (c p)) (p + 1)
      omega
theorem pI_end {s : MS} {t n : Nat} (h : pI s t n) : s.1 13 = s.2.1 10 t ↔ tn (s.1 13) = n := ⟨pI_eq h, fun e => by rw [h.2.2.2.2.1, h.2.2.1, e]⟩
theorem tn_upE {s : MS} {t n : Nat} (h : pI s t n) : tn (s.1 13 + 1) = tn (s.1 13) + 1 := by
  have := h.2.2.2.1; have := h.2.2.2.2.2
  rw [tn_up h]; exact tn_nI (by omega)
theorem chT_E (s : MS) (t : Nat) : chT s t = txt s t (tn (s.1 13)) := rfl
theorem dg_E {t n : Nat} : ∀ (k i : Nat) {s : MS}, pI s t n → (dgS t k i s).2 = (dE (txt s t) n k (tn (s.1 13))).2 ∧ tn ((dgS t k i s).1.1 13) = (dE (txt s t) n k (tn (s.1 13))).1
  | 0, _, _, _ => ⟨rfl, rfl⟩
  | k + 1, i, s, h => by
    rw [dgS_s, dE_s]
    by_cases c1 : s.1 13 = s.2.1 10 t
    · rw [if_pos c1, if_pos ((pI_end h).mp c1)]; exact ⟨rfl, rfl⟩
    · rw [if_neg c1, if_neg (fun e => c1 ((pI_end h).mpr e)), chT_E]
      by_cases c2 : txt s t (tn (s.1 13)) < 48
      · rw [if_pos c2, if_pos c2]; exact ⟨rfl, rfl⟩
      · rw [if_neg c2, if_neg c2]
        by_cases c3 : txt s t (tn (s.1 13)) ≤ 57
        · rw [if_pos c3, if_pos c3]
          have r := dg_E k (i + 1) (pI_up (s := mu2 s 14 i (txt s t (tn (s.1 13)) - 48)) (pI_v h) c1)
          have e : tn ((mu1 (mu2 s 14 i (txt s t (tn (s.1 13)) - 48)) 13 ((mu2 s 14 i (txt s t (tn (s.1 13)) - 48)).1 13 + 1)).1 13) = tn (s.1 13) + 1 := tn_upE h
          rw [e] at r
          exact r
        · rw [if_neg c3, if_neg c3]; exact ⟨rfl, rfl⟩
theorem isB_T {s : MS} {t n : Nat} {c : Int32} (h : pI s t n) : isB s t c = true ↔ ¬ tn (s.1 13) = n ∧ txt s t (tn (s.1 13)) = c := by
  rw [isB, chT_E, Bool.and_eq_true, Bool.not_eq_true', decide_eq_false_iff_not, decide_eq_true_iff, pI_end h]
/-- what a statement leaves of text and place -/
def frP (s s' : MS) : Prop := s'.1 12 = s.1 12 ∧ s'.1 13 = s.1 13 ∧ s'.2.1 10 = s.2.1 10 ∧ s'.2.1 11 = s.2.1 11
theorem frP_rf (s : MS) : frP s s := ⟨rfl, rfl, rfl, rfl⟩
theorem frP_pI {s s' : MS} {t n : Nat} (f : frP s s') (h : pI s t n) : pI s' t n := by
  obtain ⟨f1, f2, f3, f4⟩ := f
  unfold pI
  rw [f1, f2, f3]
  exact h
theorem laS_fr (nl : Nat) (r : MS) : frP r (laS nl r).1 ∧ ((laS nl r).2 = 0 ∨ (laS nl r).2 = 1) := by
  unfold laS
  split
  · split
    · exact ⟨frP_rf r, Or.inl rfl⟩
    · exact ⟨⟨rfl, rfl, rfl, rfl⟩, Or.inr rfl⟩
  · exact ⟨frP_rf r, Or.inl rfl⟩
theorem waS_fr (nw : Nat) (r : MS) : frP r (waS nw r).1 ∧ ((waS nw r).2 = 0 ∨ (waS nw r).2 = 1) := by
  unfold waS
  split
  · exact ⟨frP_rf r, Or.inl rfl⟩
  · split
    · exact ⟨frP_rf r, Or.inl rfl⟩
    · exact ⟨⟨rfl, rfl, rfl, rfl⟩, Or.inr rfl⟩
theorem taS_fr (r : MS) : frP r (taS r).1 ∧ ((taS r).2 = 0 ∨ (taS r).2 = 1) := by
  unfold taS
  split
  · exact ⟨⟨rfl, rfl, rfl, rfl⟩, Or.inr rfl⟩
  · exact ⟨frP_rf r, Or.inl rfl⟩
theorem saS_fr (ns : Nat) (r : MS) : frP r (saS ns r).1 ∧ ((saS ns r).2 = 0 ∨ (saS ns r).2 = 1) := by
  unfold saS
  split
  · split
    · split
      · exact ⟨frP_rf r, Or.inl rfl⟩
      · exact ⟨⟨rfl, rfl, rfl, rfl⟩, Or.inr rfl⟩
    · exact ⟨frP_rf r, Or.inl rfl⟩
  · exact ⟨frP_rf r, Or.inl rfl⟩
/-- what a statement does to the place, whatever it tells -/
def stP (s : MS) (t n : Nat) (tl : Int32) (q : MS × Int32) (e : Nat × Bool) : Prop :=
  pI q.1 t n ∧ q.1.2.1 10 = s.2.1 10 ∧ q.1.2.1 11 = s.2.1 11 ∧ tn (q.1.1 13) = e.1 ∧ (e.2 = false → q.2 = -1) ∧ (e.2 = true → (tl = 0 → q.2 = 1) ∧ (¬ tl = 0 → q.2 = 0 ∨ q.2 = 1))
theorem stX_P {f : MS → MS × Int32} {k t n : Nat} {tl : Int32} {s : MS} (hf : ∀ r, frP r (f r).1 ∧ ((f r).2 = 0 ∨ (f r).2 = 1)) (h : pI s t n) : stP s t n tl (stX f k t tl s) (dE (txt s t) n k (tn (s.1 13))) := by
  obtain ⟨e1, e2⟩ := dg_E k 0 h
  have hp := dg_pI k 0 h
  obtain ⟨f1, f2, -⟩ := dg_fr (t := t) k 0 s
  have d10 := f2 10 (by decide)
  have d11 := f2 11 (by decide)
  unfold stP stX
  rw [← e1, ← e2]
  cases hd : (dgS t k 0 s).2 with
  | false =>
    rw [if_neg (by decide)]
    exact ⟨hp, d10, d11, rfl, fun _ => rfl, fun q => absurd q Bool.false_ne_true⟩
  | true =>
    rw [if_pos rfl]
    by_cases ht : tl = 0
    · rw [if_pos ht]
      exact ⟨hp, d10, d11, rfl, fun q => absurd q (by decide), fun _ => ⟨fun _ => rfl, fun q => absurd ht q⟩⟩
    · rw [if_neg ht]
      obtain ⟨g, g2⟩ := hf (dgS t k 0 s).1
      exact ⟨frP_pI g hp, g.2.2.1.trans d10, g.2.2.2.trans d11, congrArg tn g.2.1, fun q => absurd q (by decide), fun _ => ⟨fun q => absurd q ht, fun _ => g2⟩⟩
theorem stS_P {t n nl nw ns : Nat} {tl : Int32} {s : MS} (h : pI s t n) : stP s t n tl (stS t nl nw ns tl s) (stE (txt s t) n (tn (s.1 13))) := by
  have hu : ∀ {c : Int32}, isB s t c = true → pI (mu1 s 13 (s.1 13 + 1)) t n := fun q => pI_up h (isB_ne q)
  have e : tn ((mu1 s 13 (s.1 13 + 1)).1 13) = tn (s.1 13) + 1 := tn_upE h
  unfold stS stE
  by_cases c0 : tn (s.1 13) = n
  · have z : ∀ c, ¬ isB s t c = true := fun c q => ((isB_T h).mp q).1 c0
    rw [if_neg (z _), if_neg (z _), if_neg (z _), if_neg (z _), if_pos c0]
    exact ⟨h, rfl, rfl, rfl, fun _ => rfl, fun q => absurd q Bool.false_ne_true⟩
  · rw [if_neg c0]
    by_cases c1 : isB s t 108 = true
    · have q := ((isB_T h).mp c1).2
      rw [if_pos c1, q]
      have r := stX_P (tl := tl) (k := 4) (laS_fr nl) (hu c1)
      rw [e] at r
      exact r
    · have n1 : ¬ txt s t (tn (s.1 13)) = 108 := fun q => c1 ((isB_T h).mpr ⟨c0, q⟩)
      rw [if_neg c1]
      by_cases c2 : isB s t 119 = true
      · have q := ((isB_T h).mp c2).2
        rw [if_pos c2, q]
        have r := stX_P (tl := tl) (k := 2) (waS_fr nw) (hu c2)
        rw [e] at r
        exact r
      · have n2 : ¬ txt s t (tn (s.1 13)) = 119 := fun q => c2 ((isB_T h).mpr ⟨c0, q⟩)
        rw [if_neg c2]
        by_cases c3 : isB s t 116 = true
        · have q := ((isB_T h).mp c3).2
          rw [if_pos c3, q]
          have r := stX_P (tl := tl) (k := 2) taS_fr (hu c3)
          rw [e] at r
          exact r
        · have n3 : ¬ txt s t (tn (s.1 13)) = 116 := fun q => c3 ((isB_T h).mpr ⟨c0, q⟩)
          rw [if_neg c3]
          by_cases c4 : isB s t 115 = true
          · have q := ((isB_T h).mp c4).2
            rw [if_pos c4, q]
            have r := stX_P (tl := tl) (k := 5) (saS_fr ns) (hu c4)
            rw [e] at r
            exact r
          · have n4 : ¬ txt s t (tn (s.1 13)) = 115 := fun q => c4 ((isB_T h).mpr ⟨c0, q⟩)
            rw [if_neg c4]
            have z : dB (txt s t (tn (s.1 13))) = 0 := by rw [dB, if_neg n1, if_neg n2, if_neg n3, if_neg n4]
            rw [if_pos z]
            exact ⟨h, rfl, rfl, rfl, fun _ => rfl, fun q => absurd q Bool.false_ne_true⟩
/-- the counts after a statement -/
theorem stX_mI {f : MS → MS × Int32} {k t nl nw ns : Nat} {tl : Int32} {s : MS} (hf : ∀ r, mI r nl nw ns → ∃ a b c, mI (f r).1 a b c) (h : mI s nl nw ns) : ∃ a b c, mI (stX f k t tl s).1 a b c := by
  have hp := dg_mI (t := t) (k := k) (i := 0) h
  unfold stX
  split
  · split
    · exact ⟨_, _, _, hp⟩
    · exact hf _ hp
  · exact ⟨_, _, _, hp⟩
theorem laS_mI {nl nw ns : Nat} (r : MS) (h : mI r nl nw ns) : ∃ a b c, mI (laS nl r).1 a b c := by
  unfold laS
  split
  · split
    · exact ⟨_, _, _, h⟩
    · rename_i q
      have := neL h.1 h.2.1 q
      exact ⟨nl + 1, nw, ns, (congrArg (· + 1) h.1).trans (nI_1 _), by omega, h.2.2⟩
  · exact ⟨_, _, _, h⟩
theorem waS_mI {nl nw ns : Nat} (r : MS) (h : mI r nl nw ns) : ∃ a b c, mI (waS nw r).1 a b c := by
  unfold waS
  split
  · exact ⟨_, _, _, h⟩
  · split
    · exact ⟨_, _, _, h⟩
    · rename_i q
      have := neL h.2.2.1 h.2.2.2.1 q
      exact ⟨nl, nw + 1, ns, h.1, h.2.1, (congrArg (· + 1) h.2.2.1).trans (nI_1 _), by omega, h.2.2.2.2⟩
theorem taS_mI {nl nw ns : Nat} (r : MS) (h : mI r nl nw ns) : ∃ a b c, mI (taS r).1 a b c := by
  unfold taS
  split
  · exact ⟨_, _, _, h⟩
  · exact ⟨_, _, _, h⟩
theorem saS_mI {nl nw ns : Nat} (r : MS) (h : mI r nl nw ns) : ∃ a b c, mI (saS ns r).1 a b c := by
  unfold saS
  split
  · split
    · split
      · exact ⟨_, _, _, h⟩
      · rename_i q
        have := neL h.2.2.2.2.1 h.2.2.2.2.2 q
        exact ⟨nl, nw, ns + 1, h.1, h.2.1, h.2.2.1, h.2.2.2.1, (congrArg (· + 1) h.2.2.2.2.1).trans (nI_1 _), by omega⟩
    · exact ⟨_, _, _, h⟩
  · exact ⟨_, _, _, h⟩
theorem stS_mI {t nl nw ns : Nat} {tl : Int32} {s : MS} (h : mI s nl nw ns) : ∃ a b c, mI (stS t nl nw ns tl s).1 a b c := by
  unfold stS
  split
  · exact stX_mI laS_mI (s := mu1 s 13 (s.1 13 + 1)) h
  · split
    · exact stX_mI waS_mI (s := mu1 s 13 (s.1 13 + 1)) h
    · split
      · exact stX_mI taS_mI (s := mu1 s 13 (s.1 13 + 1)) h
      · split
        · exact stX_mI saS_mI (s := mu1 s 13 (s.1 13 + 1)) h
        · exact ⟨_, _, _, h⟩
theorem stX_0 {f : MS → MS × Int32} {k t nl nw ns : Nat} {s : MS} (h : mI s nl nw ns) : mI (stX f k t 0 s).1 nl nw ns := by
  have hp := dg_mI (t := t) (k := k) (i := 0) h
  unfold stX
  split
  · rw [if_pos rfl]; exact hp
  · exact hp
theorem stS_0 {t nl nw ns : Nat} {s : MS} (h : mI s nl nw ns) : mI (stS t nl nw ns 0 s).1 nl nw ns := by
  unfold stS
  split
  · exact stX_0 (s := mu1 s 13 (s.1 13 + 1)) h
  · split
    · exact stX_0 (s := mu1 s 13 (s.1 13 + 1)) h
    · split
      · exact stX_0 (s := mu1 s 13 (s.1 13 + 1)) h
      · split
        · exact stX_0 (s := mu1 s 13 (s.1 13 + 1)) h
        · exact h
/-- the first reading: how far -/
def p1S (t nl nw ns : Nat) : Nat → MS → MS × Bool
  | 0, s => (s, false)
  | k + 1, s => if (stS t nl nw ns 0 s).2 = 1 then (if isB (stS t nl nw ns 0 s).1 t 59 = true then (if (mu1 (stS t nl nw ns 0 s).1 13 ((stS t nl nw ns 0 s).1.1 13 + 1)).1 13 = (mu1 (stS t nl nw ns 0 s).1 13 ((stS t nl nw ns 0 s).1.1 13 + 1)).2.1 10 t then ((mu1 (stS t nl nw ns 0 s).1 13 ((stS t nl nw ns 0 s).1.1 13 + 1)), true) else p1S t nl nw ns k (mu1 (stS t nl nw ns 0 s).1 13 ((stS t nl nw ns 0 s).1.1 13 + 1))) else ((stS t nl nw ns 0 s).1, false)) else ((stS t nl nw ns 0 s).1, false)
theorem p1S_s (t nl nw ns k : Nat) (s : MS) : p1S t nl nw ns (k + 1) s = if (stS t nl nw ns 0 s).2 = 1 then (if isB (stS t nl nw ns 0 s).1 t 59 = true then (if (mu1 (stS t nl nw ns 0 s).1 13 ((stS t nl nw ns 0 s).1.1 13 + 1)).1 13 = (mu1 (stS t nl nw ns 0 s).1 13 ((stS t nl nw ns 0 s).1.1 13 + 1)).2.1 10 t then ((mu1 (stS t nl nw ns 0 s).1 13 ((stS t nl nw ns 0 s).1.1 13 + 1)), true) else p1S t nl nw ns k (mu1 (stS t nl nw ns 0 s).1 13 ((stS t nl nw ns 0 s).1.1 13 + 1))) else ((stS t nl nw ns 0 s).1, false)) else ((stS t nl nw ns 0 s).1, false) := rfl
/-- a whole statement with its sign: the places -/
theorem sq_P {t n nl nw ns : Nat} {tl : Int32} {s : MS} (h : pI s t n) (h1 : (stE (txt s t) n (tn (s.1 13))).2 = true) (h2 : isB (stS t nl nw ns tl s).1 t 59 = true) : (sqE (txt s t) n (tn (s.1 13))) = (tn ((stS t nl nw ns tl s).1.1 13) + 1, true) := by
  obtain ⟨a1, a2, a3, a4, a5, a6⟩ := stS_P (nl := nl) (nw := nw) (ns := ns) (tl := tl) h
  obtain ⟨b1, b2⟩ := (isB_T a1).mp h2
  have ex : txt (stS t nl nw ns tl s).1 t = txt s t := funext fun p => congrFun a3 _
  rw [ex, a4] at b2
  rw [a4] at b1
  rw [sqE, if_pos h1, if_neg b1, if_pos b2, a4]
theorem sq_N {t n nl nw ns : Nat} {tl : Int32} {s : MS} (h : pI s t n) (h2 : isB (stS t nl nw ns tl s).1 t 59 = false) : (sqE (txt s t) n (tn (s.1 13))) = (tn ((stS t nl nw ns tl s).1.1 13), false) := by
  obtain ⟨a1, a2, a3, a4, a5, a6⟩ := stS_P (nl := nl) (nw := nw) (ns := ns) (tl := tl) h
  have ex : txt (stS t nl nw ns tl s).1 t = txt s t := funext fun p => congrFun a3 _
  rw [sqE, a4]
  split
  · split
    · rfl
    · rename_i q
      rw [if_neg]
      intro q2
      rw [(isB_T a1).mpr ⟨by rw [a4]; exact q, by rw [ex, a4]; exact q2⟩] at h2
      cases h2
  · rfl
theorem p1_E {t n nl nw ns : Nat} : ∀ (k : Nat) {s : MS}, pI s t n → mI s nl nw ns → n < tn (s.1 13) + k → (p1S t nl nw ns k s).2 = (wfE (txt s t) n k (tn (s.1 13))).2 ∧ tn ((p1S t nl nw ns k s).1.1 13) = (wfE (txt s t) n k (tn (s.1 13))).1 ∧ pI (p1S t nl nw ns k s).1 t n ∧ mI (p1S t nl nw ns k s).1 nl nw ns ∧ (p1S t nl nw ns k s).1.2.1 11 = s.2.1 11
  | 0, s, h, _, hk => by have := h.2.2.2.1; omega
  | k + 1, s, h, hm, hk => by
    have hP := stS_P (nl := nl) (nw := nw) (ns := ns) (tl := 0) h
    obtain ⟨a1, a2, a3, a4, a5, a6⟩ := hP
    have am := stS_0 (t := t) hm
    have ex : txt (stS t nl nw ns 0 s).1 t = txt s t := funext fun p => congrFun a3 _
    rw [p1S_s, wfE_s]
    by_cases c1 : (stS t nl nw ns 0 s).2 = 1
    · have c1' : (stE (txt s t) n (tn (s.1 13))).2 = true := by
        cases q : (stE (txt s t) n (tn (s.1 13))).2 with
        | true => rfl
        | false => rw [a5 q] at c1; exact absurd c1 (by decide)
      rw [if_pos c1]
      by_cases c2 : isB (stS t nl nw ns 0 s).1 t 59 = true
      · have hs := sq_P (nl := nl) (nw := nw) (ns := ns) (tl := 0) h c1' c2
        have b1 := pI_up a1 (isB_ne c2)
        have be : tn ((mu1 (stS t nl nw ns 0 s).1 13 ((stS t nl nw ns 0 s).1.1 13 + 1)).1 13) = tn ((stS t nl nw ns 0 s).1.1 13) + 1 := tn_upE a1
        rw [if_pos c2, hs, if_pos rfl]
        by_cases c3 : (mu1 (stS t nl nw ns 0 s).1 13 ((stS t nl nw ns 0 s).1.1 13 + 1)).1 13 = (mu1 (stS t nl nw ns 0 s).1 13 ((stS t nl nw ns 0 s).1.1 13 + 1)).2.1 10 t
        · have c3' := pI_eq b1 c3
          rw [be] at c3'
          rw [if_pos c3, if_pos c3']
          exact ⟨rfl, be.trans c3', b1, am, a3⟩
        · have c3' : ¬ tn ((stS t nl nw ns 0 s).1.1 13) + 1 = n := fun q => c3 ((pI_end b1).mpr (be.trans q))
          have ge : tn (s.1 13) ≤ tn ((stS t nl nw ns 0 s).1.1 13) := by
            rw [a4, stE]
            split
            · exact Nat.le_refl _
            · split
              · exact Nat.le_refl _
              · have := dE_ge (txt s t) n (dB (txt s t (tn (s.1 13)))) (tn (s.1 13) + 1)
                omega
          rw [if_neg c3, if_neg c3']
          have r := p1_E (nl := nl) (nw := nw) (ns := ns) k b1 am (by rw [be]; omega)
          rw [be] at r
          have ex2 : txt (mu1 (stS t nl nw ns 0 s).1 13 ((stS t nl nw ns 0 s).1.1 13 + 1)) t = txt s t := ex
          rw [ex2] at r
          exact ⟨r.1, r.2.1, r.2.2.1, r.2.2.2.1, r.2.2.2.2.trans a3⟩
      · have hs := sq_N h (Bool.eq_false_iff.mpr c2)
        rw [if_neg c2, if_neg (by rw [hs]; exact Bool.false_ne_true), hs]
        exact ⟨rfl, rfl, a1, am, a3⟩
    · have c1' : (stE (txt s t) n (tn (s.1 13))).2 = false := by
        cases q : (stE (txt s t) n (tn (s.1 13))).2 with
        | false => rfl
        | true => exact absurd ((a6 q).1 rfl) c1
      have hs : sqE (txt s t) n (tn (s.1 13)) = (tn ((stS t nl nw ns 0 s).1.1 13), false) := by rw [sqE, if_neg (by rw [c1']; decide), a4]
      rw [if_neg c1, if_neg (by rw [hs]; exact Bool.false_ne_true), hs]
      exact ⟨rfl, rfl, a1, am, a3⟩
/-- the second reading: it tells -/
def p2S (t : Nat) : Nat → Nat → MS → MS × Int32
  | 0, m, s => (s, nI m)
  | k + 1, m, s => if s.2.1 10 t ≤ s.1 13 then (s, nI m) else if (stS t (tn (s.1 1)) (tn (s.1 3)) (tn (s.1 5)) 1 s).2 = 0 then (agS 17 (stS t (tn (s.1 1)) (tn (s.1 3)) (tn (s.1 5)) 1 s).1, -2000 - s.1 13) else p2S t k (m + 1) (isS (stS t (tn (s.1 1)) (tn (s.1 3)) (tn (s.1 5)) 1 s).1 t 59)
theorem p2S_s {t nl nw ns k m : Nat} {s : MS} (h : mI s nl nw ns) : p2S t (k + 1) m s = if s.2.1 10 t ≤ s.1 13 then (s, nI m) else if (stS t nl nw ns 1 s).2 = 0 then (agS 17 (stS t nl nw ns 1 s).1, -2000 - s.1 13) else p2S t k (m + 1) (isS (stS t nl nw ns 1 s).1 t 59) := by
  obtain ⟨h1, h2, h3, h4, h5, h6⟩ := h
  have e1 : tn (s.1 1) = nl := by rw [h1]; exact tn_nI (by omega)
  have e2 : tn (s.1 3) = nw := by rw [h3]; exact tn_nI (by omega)
  have e3 : tn (s.1 5) = ns := by rw [h5]; exact tn_nI (by omega)
  rw [p2S, e1, e2, e3]
/-- where the second reading stands: at the end, or more can be read -/
def rdI (s : MS) (t n k : Nat) : Prop := tn (s.1 13) = n ∨ (wfE (txt s t) n k (tn (s.1 13))).2 = true
theorem rd_go {t n nl nw ns k : Nat} {s : MS} (hP : pI s t n) (hm : mI s nl nw ns) (h : rdI s t n k) (hne : ¬ s.2.1 10 t ≤ s.1 13) : ∃ q, k = q + 1 ∧ ((stS t nl nw ns 1 s).2 = 0 ∨ (stS t nl nw ns 1 s).2 = 1) ∧ isB (stS t nl nw ns 1 s).1 t 59 = true ∧ pI (stS t nl nw ns 1 s).1 t n ∧ pI (mu1 (stS t nl nw ns 1 s).1 13 ((stS t nl nw ns 1 s).1.1 13 + 1)) t n ∧ rdI (mu1 (stS t nl nw ns 1 s).1 13 ((stS t nl nw ns 1 s).1.1 13 + 1)) t n q ∧ (stS t nl nw ns 1 s).1.2.1 10 = s.2.1 10 ∧ (stS t nl nw ns 1 s).1.2.1 11 = s.2.1 11 := by
  have hn : ¬ tn (s.1 13) = n := fun e => hne (by rw [(pI_end hP).mpr e]; exact Int32.le_refl _)
  rcases h with h | h
  · exact absurd h hn
  obtain ⟨a1, a2, a3, a4, a5, a6⟩ := stS_P (nl := nl) (nw := nw) (ns := ns) (tl := 1) hP
  cases k with
  | zero => rw [wfE] at h; cases h
  | succ k =>
    rw [wfE_s] at h
    have hs : (sqE (txt s t) n (tn (s.1 13))).2 = true := by
      cases q : (sqE (txt s t) n (tn (s.1 13))).2 with
      | true => rfl
      | false => rw [q, if_neg (by decide)] at h; cases h
    have he : (stE (txt s t) n (tn (s.1 13))).2 = true := by
      cases q : (stE (txt s t) n (tn (s.1 13))).2 with
      | true => rfl
      | false => rw [sqE, if_neg (by rw [q]; decide)] at hs; cases hs
    have hb : isB (stS t nl nw ns 1 s).1 t 59 = true := by
      cases q : isB (stS t nl nw ns 1 s).1 t 59 with
      | true => rfl
      | false => rw [sq_N hP q] at hs; cases hs
    have hq := sq_P hP he hb
    have b1 := pI_up a1 (isB_ne hb)
    have be : tn ((mu1 (stS t nl nw ns 1 s).1 13 ((stS t nl nw ns 1 s).1.1 13 + 1)).1 13) = tn ((stS t nl nw ns 1 s).1.1 13) + 1 := tn_upE a1
    refine ⟨k, rfl, (a6 he).2 (by decide), hb, a1, b1, ?_, a2, a3⟩
    rw [hq, if_pos rfl] at h
    have ex : txt (mu1 (stS t nl nw ns 1 s).1 13 ((stS t nl nw ns 1 s).1.1 13 + 1)) t = txt s t := funext fun p => congrFun a3 _
    unfold rdI
    rw [be, ex]
    by_cases c : tn ((stS t nl nw ns 1 s).1.1 13) + 1 = n
    · exact Or.inl c
    · rw [if_neg c] at h; exact Or.inr h
def trZ (s : MS) (t : Nat) : MS := mu1 (mu1 s 12 (nI t)) 13 0
def trP (s : MS) (t nl nw ns : Nat) : MS × Bool := p1S t nl nw ns 101 (trZ s t)
def trQ (s : MS) (t nl nw ns : Nat) : MS × Int32 := p2S t 101 0 (mu1 (kpS 17 (trP s t nl nw ns).1) 13 0)
def trM (s : MS) (nl nw ns : Nat) (d : Int32) : Int32 := if iw d 0 7 = true then (if s.2.1 8 (tn d) = 0 then -11 else if s.2.1 8 (tn d) = 2 then (if s.2.1 9 (tn d) = 0 then (if (trP s (tn d) nl nw ns).2 = true then (trQ s (tn d) nl nw ns).2 else -1000 - (trP s (tn d) nl nw ns).1.1 13) else -12) else -12) else -1
def trS (s : MS) (nl nw ns : Nat) (d : Int32) : MS := if iw d 0 7 = true then (if s.2.1 8 (tn d) = 0 then s else if s.2.1 8 (tn d) = 2 then (if s.2.1 9 (tn d) = 0 then (if (trP s (tn d) nl nw ns).2 = true then (trQ s (tn d) nl nw ns).1 else (trP s (tn d) nl nw ns).1) else s) else s) else s
theorem acc_2 {f : Nat → MS → MS} {j : Nat} (hf : ∀ i s, (f i s).2.1 j = s.2.1 j) (s : MS) : ∀ n, (acc f s n).2.1 j = s.2.1 j
  | 0 => rfl
  | n + 1 => (hf n _).trans (acc_2 hf s n)
theorem mu2_n {s : MS} {k i j : Nat} {x : Int32} (h : j ≠ k) : (mu2 s k i x).2.1 j = s.2.1 j := if_neg h
theorem kp_2 {k j : Nat} (h : j ≠ k) (s : MS) : (kpS k s).2.1 j = s.2.1 j := by
  have e1 : (acc (kp3 k) (acc (kp2 k) (acc (kp1 k) s 6) 5) 10).2.1 j = s.2.1 j := ((acc_2 (fun i s => (mu2_n h).trans (mu2_n h)) _ 10).trans (acc_2 (fun i s => mu2_n h) _ 5)).trans (acc_2 (fun i s => mu2_n h) s 6)
  have e0 : ∀ r, (kp4 k r).2.1 j = r.2.1 j := fun _ => (((mu2_n h).trans (mu2_n h)).trans (mu2_n h)).trans (mu2_n h)
  unfold kpS
  rw [e0]
  exact e1
theorem acc_1 {f : Nat → MS → MS} (hf : ∀ i s, (f i s).1 = s.1) (s : MS) : ∀ n, (acc f s n).1 = s.1
  | 0 => rfl
  | n + 1 => (hf n _).trans (acc_1 hf s n)
theorem kp_1 (k : Nat) (s : MS) : (kpS k s).1 = s.1 := by
  have e1 : (acc (kp3 k) (acc (kp2 k) (acc (kp1 k) s 6) 5) 10).1 = s.1 := ((acc_1 (f := kp3 k) (fun i s => rfl) _ 10).trans (acc_1 (f := kp2 k) (fun i s => rfl) _ 5)).trans (acc_1 (f := kp1 k) (fun i s => rfl) s 6)
  have e0 : ∀ r, (kp4 k r).1 = r.1 := fun _ => rfl
  unfold kpS
  rw [e0]
  exact e1
theorem pI_0 {s : MS} {t n : Nat} (ht : t < 8) (hn : n ≤ 100) (h : s.2.1 10 t = nI n) : pI (trZ s t) t n := ⟨rfl, ht, rfl, Nat.zero_le _, h, hn⟩
theorem p2S_end {t nl nw ns k m : Nat} {s : MS} (h : mI s nl nw ns) (he : s.2.1 10 t ≤ s.1 13) : p2S t k m s = (s, nI m) := by
  cases k with
  | zero => rfl
  | succ k => rw [p2S_s h, if_pos he]
theorem rd_0 {s r : MS} {t n nl nw ns : Nat} (ht : t < 8) (hn : n ≤ 100) (h : s.2.1 10 t = nI n) (hm : mI s nl nw ns) (hr : (r, true) = trP s t nl nw ns) : rdI (mu1 (kpS 17 r) 13 0) t n 101 := by
  have q := p1_E (nl := nl) (nw := nw) (ns := ns) 101 (pI_0 ht hn h) hm (by show n < tn 0 + 101; omega)
  obtain ⟨q1, -, -, -, q5⟩ := q
  rw [trP] at hr
  rw [← hr] at q1 q5
  have ex : txt (mu1 (kpS 17 r) 13 0) t = txt s t := funext fun p => (congrFun (kp_2 (by decide) r) (100 * t + p)).trans (congrFun q5 _)
  refine Or.inr ?_
  show (wfE (txt (mu1 (kpS 17 r) 13 0) t) n 101 (tn 0)).2 = true
  rw [ex]
  exact q1.symm
theorem pI_k {s : MS} {t n : Nat} (h : pI s t n) : pI (mu1 (kpS 17 s) 13 0) t n := ⟨h.1, h.2.1, rfl, Nat.zero_le _, (congrFun (kp_2 (by decide) s) t).trans h.2.2.2.2.1, h.2.2.2.2.2⟩
theorem cm_X12_trial {G : ab_G} (hG : ab_GG G) {A : List ab_E} {s : MS} {B : List ab_E} (hA : A.length = 42) {d : Int32} {nl nw ns : Nat} (hI : mI s nl nw ns) (hSh : shI s) : ab_CM G mX12_trial [.ref 42, .int d] (mH A s B) (some (.int (trM s nl nw ns d))) (mH A (trS s nl nw ns d) B) := by
  refine ab_meth (l0 := [(0, .ref 42), (1, .int d)]) hG (by decide +kernel) rfl (Nat.le_of_ble_eq_true rfl) mH_lenE mH_szE (fun X hX hF => ?_)
  obtain ⟨hl, hl6, hw, hw5, hs, hs10⟩ := id hI
  refine ab_iload_n hX dX12_trial_0 mm1 ?_
  refine ab_callS1r hX dX12_trial_1 ss_X12_trial_107 (cm_X12_isShelf hG) (Nat.le_of_ble_eq_true rfl) ?_
  refine ab_ifneB (tgt := 9) hX dX12_trial_4 (by decide) (fun h_1 => ?_) (fun h_1 => ?_)
  ·
    obtain ⟨j, hj, rfl⟩ := iw8 h_1
    have hjc := tn_nI (j := j) (by omega)
    refine ab_aload_n hX dX12_trial_9 mm0 ?_
    refine ab_getfield hX dX12_trial_10 (fs_X12_22_13 rfl) (mg_o hA) rfl ?_
    refine ab_iload_n hX dX12_trial_13 mm1 ?_
    refine ab_iald (i := j) hX dX12_trial_14 (mg_8 hA) rfl hj (by decide) ?_
    refine ab_ifne (tgt := 21) hX dX12_trial_15 (by decide) (fun h_2 => ?_) (fun h_2 => ?_)
    ·
      refine ab_aload_n hX dX12_trial_21 mm0 ?_
      refine ab_getfield hX dX12_trial_22 (fs_X12_22_13 rfl) (mg_o hA) rfl ?_
      refine ab_iload_n hX dX12_trial_25 mm1 ?_
      refine ab_iald (i := j) hX dX12_trial_26 (mg_8 hA) rfl hj (by decide) ?_
      refine ab_iconst (v := 2) hX dX12_trial_27 (by decide) ?_
      refine ab_icmpne (tgt := 40) hX dX12_trial_28 (by decide) (fun h_3 => ?_) (fun h_3 => ?_)
      ·
        refine ab_bipush (v := (-12)) hX dX12_trial_40 (by decide) ?_
        exact ab_ireturn hX hF dX12_trial_42 rfl (by rfl) (congrArg some (congrArg Value.int (by first | rfl | (simp only [trM, i2_0, h_1, hjc, h_2, h_3, ↓reduceIte, Bool.false_eq_true]; done) | (simp only [trM, i2_0, h_1, hjc, h_2, h_3, ↓reduceIte, Bool.false_eq_true]; rfl) | (unfold trM; (repeat' split) <;> first | rfl | contradiction | (simp_all; done))))) (by first | rfl | (simp only [trS, i2_0, h_1, hjc, h_2, h_3, ↓reduceIte, Bool.false_eq_true]; done) | (simp only [trS, i2_0, h_1, hjc, h_2, h_3, ↓reduceIte, Bool.false_eq_true]; rfl))
      ·
        obtain ⟨n, hn, hsec⟩ := shI_row hSh hj h_3
        refine ab_aload_n hX dX12_trial_31 mm0 ?_
        refine ab_getfield hX dX12_trial_32 (fs_X12_25_13 rfl) (mg_o hA) rfl ?_
        refine ab_iload_n hX dX12_trial_35 mm1 ?_
        refine ab_iald (i := j) hX dX12_trial_36 (mg_9 hA) rfl hj (by decide) ?_
        refine ab_ifeq (tgt := 43) hX dX12_trial_37 (by decide) (fun h_4 => ?_) (fun h_4 => ?_)
        ·
          refine ab_aload_n hX dX12_trial_43 mm0 ?_
          refine ab_iload_n hX dX12_trial_44 mm1 ?_
          refine ab_putfield hX dX12_trial_45 ps_X12_trial_74_13 (mg_o hA) (Nat.le_of_ble_eq_true rfl) rfl rfl (mx_12 hA) ?_
          refine ab_aload_n hX dX12_trial_48 mm0 ?_
          refine ab_iconst (v := 0) hX dX12_trial_49 (by decide) ?_
          refine ab_putfield hX dX12_trial_50 ps_X12_trial_71_13 (mg_o hA) (Nat.le_of_ble_eq_true rfl) rfl rfl (mx_13 hA) ?_
          refine ab_iconst (v := 1) hX dX12_trial_53 (by decide) ?_
          refine ab_istore_n hX dX12_trial_54 rfl (by decide) rfl ?_
          have L55 : ∀ (k55_ : Nat) (k : Nat) (s2 : MS) (hQ : pI s2 j n) (hJ : mI s2 nl nw ns) (hk : n < tn (s2.1 13) + k) (hr : p1S j nl nw ns k s2 = trP s j nl nw ns), k55_ = k → ab_WA G mX12_trial X 55 [(0, .ref 42), (1, .int (nI j)), (2, .int 1)] [] (mH A s2 B) := by
            intro k55_
            induction k55_ using Nat.strongRecOn with
            | _ k55_ ih55 =>
              intro k s2 hQ hJ hk hr hk55_
              obtain ⟨k, rfl⟩ : ∃ q, k = q + 1 := ⟨k - 1, by have := hQ.2.2.2.1; omega⟩
              rw [p1S_s] at hr
              refine ab_iload_n hX dX12_trial_55 mm2 ?_
              refine ab_ifeq (tgt := 103) hX dX12_trial_56 (by decide) (fun h_5 => (by exact absurd h_5 (show ¬ (1 : Int32) = 0 by decide))) (fun h_5 => ?_)
              refine ab_aload_n hX dX12_trial_59 mm0 ?_
              refine ab_iconst (v := 0) hX dX12_trial_60 (by decide) ?_
              refine ab_callV1r hX dX12_trial_61 (mg_o hA) ss_X12_trial_110 (cm_X12_statement hG hA hJ hQ) (Nat.le_of_ble_eq_true rfl) ?_
              obtain ⟨a1, a2, a3, a4, a5, a6⟩ := stS_P (nl := nl) (nw := nw) (ns := ns) (tl := 0) hQ
              have am := stS_0 (t := j) hJ
              refine ab_iconst (v := 1) hX dX12_trial_64 (by decide) ?_
              refine ab_icmpne (tgt := 81) hX dX12_trial_65 (by decide) (fun h_6 => ?_) (fun h_6 => ?_)
              ·
                rw [if_neg h_6] at hr
                have hT : (trP s j nl nw ns).2 = false := by rw [← hr]
                refine ab_iconst (v := 0) hX dX12_trial_81 (by decide) ?_
                refine ab_istore_n hX dX12_trial_82 rfl (by decide) rfl ?_
                refine ab_iload_n hX dX12_trial_83 mm0 ?_
                refine ab_ifeq (tgt := 55) hX dX12_trial_84 (by decide) (fun h_7 => ?_) (fun h_7 => (by exact absurd (show (0 : Int32) = 0 by decide) h_7))
                refine ab_iload_n hX dX12_trial_55 mm0 ?_
                refine ab_ifeq (tgt := 103) hX dX12_trial_56 (by decide) (fun h_8 => ?_) (fun h_8 => (by exact absurd (show (0 : Int32) = 0 by decide) h_8))
                refine ab_iload_n hX dX12_trial_103 mm0 ?_
                refine ab_ifne (tgt := 116) hX dX12_trial_104 (by decide) (fun h_9 => (by exact absurd (show (0 : Int32) = 0 by decide) h_9)) (fun h_9 => ?_)
                refine ab_sipush (v := (-1000)) hX dX12_trial_107 (by decide) ?_
                refine ab_aload_n hX dX12_trial_110 mm1 ?_
                refine ab_getfield hX dX12_trial_111 (fs_X12_71_13 rfl) (mg_o hA) rfl ?_
                refine ab_isub hX dX12_trial_114 ?_
                exact ab_ireturn hX hF dX12_trial_115 rfl (by rfl) (congrArg some (congrArg Value.int (by simp only [trM, h_1, hjc, h_2, h_3, h_4, h_6, hT, i2_0, ↓reduceIte, Bool.false_eq_true]; rw [← hr]))) (by simp only [trS, h_1, hjc, h_2, h_3, h_4, h_6, hT, i2_0, ↓reduceIte, Bool.false_eq_true]; rw [← hr])
              ·
                rw [if_pos h_6] at hr
                refine ab_aload_n hX dX12_trial_68 mm0 ?_
                refine ab_bipush (v := 59) hX dX12_trial_69 (by decide) ?_
                refine ab_callV1r hX dX12_trial_71 (mg_o hA) ss_X12_trial_85 (cm_X12_is hG hA a1) (Nat.le_of_ble_eq_true rfl) ?_
                refine ab_ifeqB (tgt := 81) hX dX12_trial_74 (by decide) (fun h_10 => ?_) (fun h_10 => ?_)
                ·
                  rw [isS_f h_10]
                  rw [if_neg (by rw [h_10]; decide)] at hr
                  have hT : (trP s j nl nw ns).2 = false := by rw [← hr]
                  refine ab_iconst (v := 0) hX dX12_trial_81 (by decide) ?_
                  refine ab_istore_n hX dX12_trial_82 rfl (by decide) rfl ?_
                  refine ab_iload_n hX dX12_trial_83 mm0 ?_
                  refine ab_ifeq (tgt := 55) hX dX12_trial_84 (by decide) (fun h_11 => ?_) (fun h_11 => (by exact absurd (show (0 : Int32) = 0 by decide) h_11))
                  refine ab_iload_n hX dX12_trial_55 mm0 ?_
                  refine ab_ifeq (tgt := 103) hX dX12_trial_56 (by decide) (fun h_12 => ?_) (fun h_12 => (by exact absurd (show (0 : Int32) = 0 by decide) h_12))
                  refine ab_iload_n hX dX12_trial_103 mm0 ?_
                  refine ab_ifne (tgt := 116) hX dX12_trial_104 (by decide) (fun h_13 => (by exact absurd (show (0 : Int32) = 0 by decide) h_13)) (fun h_13 => ?_)
                  refine ab_sipush (v := (-1000)) hX dX12_trial_107 (by decide) ?_
                  refine ab_aload_n hX dX12_trial_110 mm1 ?_
                  refine ab_getfield hX dX12_trial_111 (fs_X12_71_13 rfl) (mg_o hA) rfl ?_
                  refine ab_isub hX dX12_trial_114 ?_
                  exact ab_ireturn hX hF dX12_trial_115 rfl (by rfl) (congrArg some (congrArg Value.int (by simp only [trM, h_1, hjc, h_2, h_3, h_4, h_6, h_10, hT, i2_0, ↓reduceIte, Bool.false_eq_true]; rw [← hr]))) (by simp only [trS, h_1, hjc, h_2, h_3, h_4, h_6, h_10, hT, i2_0, ↓reduceIte, Bool.false_eq_true]; rw [← hr])
                ·
                  rw [isS_t h_10]
                  rw [if_pos h_10] at hr
                  have b1 := pI_up a1 (isB_ne h_10)
                  have be := tn_upE a1
                  refine ab_iconst (v := 1) hX dX12_trial_77 (by decide) ?_
                  refine ab_goto (tgt := 82) hX dX12_trial_78 (by decide) ?_
                  refine ab_istore_n hX dX12_trial_82 rfl (by decide) rfl ?_
                  refine ab_iload_n hX dX12_trial_83 mm0 ?_
                  refine ab_ifeq (tgt := 55) hX dX12_trial_84 (by decide) (fun h_14 => (by exact absurd h_14 (show ¬ (1 : Int32) = 0 by decide))) (fun h_14 => ?_)
                  refine ab_aload_n hX dX12_trial_87 mm1 ?_
                  refine ab_getfield hX dX12_trial_88 (fs_X12_71_13 rfl) (mg_o hA) rfl ?_
                  refine ab_aload_n hX dX12_trial_91 mm1 ?_
                  refine ab_getfield hX dX12_trial_92 (fs_X12_28_13 rfl) (mg_o hA) rfl ?_
                  refine ab_iload_n hX dX12_trial_95 mm2 ?_
                  refine ab_iald (i := j) hX dX12_trial_96 (mg_10 hA) rfl hj (by decide) ?_
                  refine ab_icmpne (tgt := 55) hX dX12_trial_97 (by decide) (fun h_15 => ?_) (fun h_15 => ?_)
                  ·
                    rw [if_neg h_15] at hr
                    exact ab_pm3 mm1 (mmv2 (congrArg Value.int (by rfl))) (mmv0 (congrArg Value.int (by rfl))) (ih55 (_) (by omega) k _ b1 am (by show n < tn ((stS j nl nw ns 0 s2).1.1 13 + 1) + k; rw [be, a4]; have := stE_ge (txt s2 j) n (tn (s2.1 13)); omega) hr rfl)
                  ·
                    rw [if_pos h_15] at hr
                    have hT : (trP s j nl nw ns).2 = true := by rw [← hr]
                    refine ab_goto (tgt := 103) hX dX12_trial_100 (by decide) ?_
                    refine ab_iload_n hX dX12_trial_103 mm0 ?_
                    refine ab_ifne (tgt := 116) hX dX12_trial_104 (by decide) (fun h_16 => ?_) (fun h_16 => (by exact absurd h_16 (show ¬ (1 : Int32) = 0 by decide)))
                    refine ab_aload_n hX dX12_trial_116 mm1 ?_
                    refine ab_aload_n hX dX12_trial_117 mm1 ?_
                    refine ab_getfield hX dX12_trial_118 (fs_X12_40_13 rfl) (mg_o hA) rfl ?_
                    refine ab_callV1v hX dX12_trial_121 (mg_o hA) ss_X12_trial_114 (cm_X12_keep_ahead hG hA) (Nat.le_of_ble_eq_true rfl) ?_
                    refine ab_aload_n hX dX12_trial_124 mm1 ?_
                    refine ab_iconst (v := 0) hX dX12_trial_125 (by decide) ?_
                    refine ab_putfield hX dX12_trial_126 ps_X12_trial_71_13 (mg_o hA) (Nat.le_of_ble_eq_true rfl) rfl rfl (mx_13 hA) ?_
                    refine ab_iconst (v := 0) hX dX12_trial_129 (by decide) ?_
                    refine ab_istore_n hX dX12_trial_130 rfl (by decide) rfl ?_
                    have L131 : ∀ (k131_ : Nat) (k m a b c : Nat) (s2 : MS) (hQ : pI s2 j n) (hJ : mI s2 a b c) (hrd : rdI s2 j n k) (hr : p2S j k m s2 = trQ s j nl nw ns), k131_ = k → ab_WA G mX12_trial X 131 [(0, .ref 42), (1, .int (nI j)), (3, .int (nI m))] [] (mH A s2 B) := by
                      intro k131_
                      induction k131_ using Nat.strongRecOn with
                      | _ k131_ ih131 =>
                        intro k m nl_ nw_ ns_ s2 hQ hJ hrd hr hk131_
                        refine ab_aload_n hX dX12_trial_131 mm0 ?_
                        refine ab_getfield hX dX12_trial_132 (fs_X12_71_13 rfl) (mg_o hA) rfl ?_
                        refine ab_aload_n hX dX12_trial_135 mm0 ?_
                        refine ab_getfield hX dX12_trial_136 (fs_X12_28_13 rfl) (mg_o hA) rfl ?_
                        refine ab_iload_n hX dX12_trial_139 mm1 ?_
                        refine ab_iald (i := j) hX dX12_trial_140 (mg_10 hA) rfl hj (by decide) ?_
                        refine ab_icmpge (tgt := 186) hX dX12_trial_141 (by decide) (fun h_17 => ?_) (fun h_17 => ?_)
                        ·
                          rw [p2S_end hJ h_17] at hr
                          refine ab_iload_n hX dX12_trial_186 mm2 ?_
                          exact ab_ireturn hX hF dX12_trial_187 rfl (by rfl) (congrArg some (congrArg Value.int (by simp only [trM, h_1, hjc, h_2, h_3, h_4, h_6, h_10, h_15, h_17, hT, i2_0, ↓reduceIte, Bool.false_eq_true]; rw [← hr]))) (by simp only [trS, h_1, hjc, h_2, h_3, h_4, h_6, h_10, h_15, h_17, hT, i2_0, ↓reduceIte, Bool.false_eq_true]; rw [← hr])
                        ·
                          obtain ⟨q, rfl, g1, g2, g3, g4, g5, g6, g7⟩ := rd_go hQ hJ hrd h_17
                          rw [p2S_s hJ, if_neg h_17] at hr
                          refine ab_aload_n hX dX12_trial_144 mm0 ?_
                          refine ab_getfield hX dX12_trial_145 (fs_X12_71_13 rfl) (mg_o hA) rfl ?_
                          refine ab_istore hX dX12_trial_148 (by decide) rfl ?_
                          refine ab_aload_n hX dX12_trial_150 mm1 ?_
                          refine ab_iconst (v := 1) hX dX12_trial_151 (by decide) ?_
                          refine ab_callV1r hX dX12_trial_152 (mg_o hA) ss_X12_trial_110 (cm_X12_statement hG hA hJ hQ) (Nat.le_of_ble_eq_true rfl) ?_
                          refine ab_ifne (tgt := 173) hX dX12_trial_155 (by decide) (fun h_18 => ?_) (fun h_18 => ?_)
                          ·
                            rw [if_neg h_18] at hr
                            obtain ⟨a_, b_, c_, hst⟩ := stS_mI (t := j) (tl := 1) hJ
                            refine ab_aload_n hX dX12_trial_173 mm1 ?_
                            refine ab_bipush (v := 59) hX dX12_trial_174 (by decide) ?_
                            refine ab_callV1r hX dX12_trial_176 (mg_o hA) ss_X12_trial_85 (cm_X12_is hG hA g3) (Nat.le_of_ble_eq_true rfl) ?_
                            rw [isS_t g2]
                            rw [isS_t g2] at hr
                            refine ab_pop hX dX12_trial_179 rfl ?_
                            refine ab_iinc hX dX12_trial_180 mm3 rfl (by decide) rfl ?_
                            refine ab_goto (tgt := 131) hX dX12_trial_183 (by decide) ?_
                            exact ab_pm3 mm2 (mmv3 (congrArg Value.int (by rfl))) (mmv0 (congrArg Value.int (by exact (nI_1 _).symm))) (ih131 (_) (by omega) q (m + 1) _ _ _ _ g4 hst g5 hr rfl)
                          ·
                            rw [if_pos h_18] at hr
                            refine ab_aload_n hX dX12_trial_158 mm1 ?_
                            refine ab_aload_n hX dX12_trial_159 mm1 ?_
                            refine ab_getfield hX dX12_trial_160 (fs_X12_40_13 rfl) (mg_o hA) rfl ?_
                            refine ab_callV1v hX dX12_trial_163 (mg_o hA) ss_X12_trial_118 (cm_X12_again_ahead hG hA) (Nat.le_of_ble_eq_true rfl) ?_
                            refine ab_sipush (v := (-2000)) hX dX12_trial_166 (by decide) ?_
                            refine ab_iload hX dX12_trial_169 mm0 ?_
                            refine ab_isub hX dX12_trial_171 ?_
                            exact ab_ireturn hX hF dX12_trial_172 rfl (by rfl) (congrArg some (congrArg Value.int (by simp only [trM, h_1, hjc, h_2, h_3, h_4, h_6, h_10, h_15, h_17, h_18, hT, i2_0, ↓reduceIte, Bool.false_eq_true]; rw [← hr]))) (by simp only [trS, h_1, hjc, h_2, h_3, h_4, h_6, h_10, h_15, h_17, h_18, hT, i2_0, ↓reduceIte, Bool.false_eq_true]; rw [← hr])
                    exact ab_pm3 mm2 (mmv3 (congrArg Value.int (by rfl))) (mmv0 (congrArg Value.int (by rfl))) (L131 _ 101 0 nl nw ns _ (pI_k b1) am (rd_0 hj hn hsec hI hr) (by unfold trQ; rw [← hr]) rfl)
          exact ab_pm3 mm1 (mmv2 (congrArg Value.int (by rfl))) (mmv0 (congrArg Value.int (by rfl))) (L55 _ 101 (trZ s j) (pI_0 hj hn hsec) hI (by show n < tn 0 + 101; omega) rfl rfl)
        ·
          refine ab_bipush (v := (-12)) hX dX12_trial_40 (by decide) ?_
          exact ab_ireturn hX hF dX12_trial_42 rfl (by rfl) (congrArg some (congrArg Value.int (by first | rfl | (simp only [trM, i2_0, h_1, hjc, h_2, h_3, h_4, ↓reduceIte, Bool.false_eq_true]; done) | (simp only [trM, i2_0, h_1, hjc, h_2, h_3, h_4, ↓reduceIte, Bool.false_eq_true]; rfl) | (unfold trM; (repeat' split) <;> first | rfl | contradiction | (simp_all; done))))) (by first | rfl | (simp only [trS, i2_0, h_1, hjc, h_2, h_3, h_4, ↓reduceIte, Bool.false_eq_true]; done) | (simp only [trS, i2_0, h_1, hjc, h_2, h_3, h_4, ↓reduceIte, Bool.false_eq_true]; rfl))
    ·
      refine ab_bipush (v := (-11)) hX dX12_trial_18 (by decide) ?_
      exact ab_ireturn hX hF dX12_trial_20 rfl (by rfl) (congrArg some (congrArg Value.int (by first | rfl | (simp only [trM, i2_0, h_1, hjc, h_2, ↓reduceIte, Bool.false_eq_true]; done) | (simp only [trM, i2_0, h_1, hjc, h_2, ↓reduceIte, Bool.false_eq_true]; rfl) | (unfold trM; (repeat' split) <;> first | rfl | contradiction | (simp_all; done))))) (by first | rfl | (simp only [trS, i2_0, h_1, hjc, h_2, ↓reduceIte, Bool.false_eq_true]; done) | (simp only [trS, i2_0, h_1, hjc, h_2, ↓reduceIte, Bool.false_eq_true]; rfl))
  ·
    refine ab_iconst (v := (-1)) hX dX12_trial_7 (by decide) ?_
    exact ab_ireturn hX hF dX12_trial_8 rfl (by rfl) (congrArg some (congrArg Value.int (by first | rfl | (simp only [trM, i2_0, h_1, ↓reduceIte, Bool.false_eq_true]; done) | (simp only [trM, i2_0, h_1, ↓reduceIte, Bool.false_eq_true]; rfl) | (unfold trM; (repeat' split) <;> first | rfl | contradiction | (simp_all; done))))) (by first | rfl | (simp only [trS, i2_0, h_1, ↓reduceIte, Bool.false_eq_true]; done) | (simp only [trS, i2_0, h_1, ↓reduceIte, Bool.false_eq_true]; rfl))
