abbrev MS : Type := (Nat → Int32) × (Nat → Nat → Int32) × (Nat → Int64)
def iw (v lo hi : Int32) : Bool := !decide (v < lo) && !decide (hi < v)
def clR (n : Nat) (c : Nat → Nat → Bool) : Nat → Nat → Int32
  | 0, _ => -4
  | k + 1, i => match fnd (c i) (n - (i + 1)) (i + 1) with
    | some j => 10 * nI i + nI j
    | none => clR n c k (i + 1)
theorem fnd_hit {c : Nat → Bool} {k i : Nat} (h : c i = true) (hk : 0 < k) : fnd c k i = some i := by
  cases k with
  | zero => omega
  | succ k => simp only [fnd, h, ↓reduceIte]
theorem fnd_miss {c : Nat → Bool} {k i : Nat} (h : c i = false) (hk : 0 < k) : fnd c (k - 1) (i + 1) = fnd c k i := by
  cases k with
  | zero => omega
  | succ k => simp only [fnd, h, Bool.false_eq_true, ↓reduceIte]; rfl
theorem clR_hit {n : Nat} {c : Nat → Nat → Bool} {k i j : Nat} (hk : 0 < k) (h : fnd (c i) (n - (i + 1)) (i + 1) = some j) : clR n c k i = 10 * nI i + nI j := by
  cases k with
  | zero => omega
  | succ k => simp only [clR, h]
theorem clR_miss {n : Nat} {c : Nat → Nat → Bool} {k i : Nat} (hk : 0 < k) (h : fnd (c i) (n - (i + 1)) (i + 1) = none) : clR n c (k - 1) (i + 1) = clR n c k i := by
  cases k with
  | zero => omega
  | succ k => simp only [clR, h]; rfl
def tn (x : Int32) : Nat := x.toNatClampNeg
theorem tn_nI {j : Nat} (h : j < 2147483648) : tn (nI j) = j := nI_clamp (by omega)
/-- what is in a range from 0 on is a number -/
theorem iw_ex {x m : Int32} {n : Nat} (hm : m = nI n - 1) (hn : n ≤ 1000) (h : iw x 0 m = true) : ∃ j, j < n ∧ x = nI j := by
  simp only [iw, Bool.and_eq_true, Bool.not_eq_true', decide_eq_false_iff_not] at h
  obtain ⟨h1, h2⟩ := h
  rw [Int32.lt_iff_toInt_lt] at h1 h2
  have e : m.toInt = (n : Int) - 1 := by
    rw [hm]
    cases n with
    | zero => decide
    | succ k => rw [nI_pred]; rw [nI_toInt (by omega)]; omega
  rw [e] at h2
  have h1' : 0 ≤ x.toInt := by simpa using h1
  refine ⟨x.toInt.toNat, by omega, ?_⟩
  apply Int32.toInt_inj.mp
  rw [nI_toInt (by omega)]
  omega
theorem iw8 {x : Int32} (h : iw x 0 7 = true) : ∃ j, j < 8 ∧ x = nI j := iw_ex (n := 8) (by decide) (by decide) h
theorem iw6 {x : Int32} (h : iw x 0 5 = true) : ∃ j, j < 6 ∧ x = nI j := iw_ex (n := 6) (by decide) (by decide) h
theorem neL {x : Int32} {n N : Nat} (hx : x = nI n) (h : n ≤ N) (hne : ¬ x = nI N) : n < N := by
  rcases Nat.lt_or_ge n N with q | q
  · exact q
  · exact absurd (by rw [hx, Nat.le_antisymm h q]) hne
def roM (d sort n : Int32) : Int32 := if iw d 0 7 = true then (if iw sort 0 2 = true then (if n ≤ 100 then (if 0 ≤ n then 0 else -14) else -1) else -1) else -1
theorem iw100 {x m : Int32} {n : Nat} (hm : m = nI n) (hn : n ≤ 100) (h : iw x 0 (m - 1) = true) : ∃ j, j < n ∧ x = nI j := iw_ex (n := n) (by rw [hm]) (by omega) h
def ptV (x y g : Int64) (part : Int32) : Int64 := if part = 0 then x / g else y / g
theorem iw20 {x : Int32} (h : iw x 1 20 = true) : ∃ j, j ≤ 20 ∧ x = nI j := by
  simp only [iw, Bool.and_eq_true, Bool.not_eq_true', decide_eq_false_iff_not] at h
  obtain ⟨h1, h2⟩ := h
  rw [Int32.lt_iff_toInt_lt] at h1 h2
  have h1' : 1 ≤ x.toInt := by simpa using h1
  have h2' : x.toInt ≤ 20 := by simpa using h2
  refine ⟨x.toInt.toNat, by omega, ?_⟩
  apply Int32.toInt_inj.mp
  rw [nI_toInt (by omega)]
  omega
