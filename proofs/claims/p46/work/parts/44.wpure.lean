/-! the law's world: what it does to the class and to its own row -/
theorem ir_mod (x y : Int32) : x - (x / y) * y = x % y := by
  apply Int32.toInt_inj.mp
  have h1 := Int32.le_toInt (x % y)
  have h2 := Int32.toInt_lt (x % y)
  rw [Int32.toInt_sub, Int32.toInt_mul, Int32.toInt_div, Int.bmod_mul_bmod, Int.sub_bmod_bmod, Int.mul_comm (x.toInt.tdiv y.toInt), ← Int.tmod_def, ← Int32.toInt_mod]
  exact Int.bmod_eq_of_le_mul_two (by omega) (by omega)
theorem so_r (v : Int32) {m : Nat} (h0 : 0 < m) (h1 : m ≤ 1000) : ∃ j, j < m ∧ someI v (nI m) = nI j := by
  have hm : (nI m).toInt = m := nI_toInt (by omega)
  have hr : (v % nI m).toInt = v.toInt.tmod m := by rw [Int32.toInt_mod, hm]
  have hlt : v.toInt.tmod m < m := Int.tmod_lt_of_pos _ (by omega)
  have hgt : -(m : Int) < v.toInt.tmod m := Int.lt_tmod_of_pos v.toInt (show (0 : Int) < m by omega)
  unfold someI
  rw [ir_mod]
  by_cases hn : v % nI m < 0
  · rw [if_pos hn]
    have hn' : v.toInt.tmod m < 0 := by have := Int32.lt_iff_toInt_lt.mp hn; rw [hr] at this; simpa using this
    refine ⟨(v.toInt.tmod m + m).toNat, by omega, ?_⟩
    apply Int32.toInt_inj.mp
    rw [Int32.toInt_add, hr, hm, nI_toInt (by omega), Int.bmod_eq_of_le (by omega) (by omega)]
    omega
  · rw [if_neg hn]
    have hn' : 0 ≤ v.toInt.tmod m := by have := Int32.le_iff_toInt_le.mp (Int32.not_lt.mp hn); rw [hr] at this; simpa using this
    refine ⟨(v.toInt.tmod m).toNat, by omega, ?_⟩
    apply Int32.toInt_inj.mp
    rw [hr, nI_toInt (by omega)]
    omega
theorem ho_k (k : Nat) (hk : k < 8) (A B F : Bool) : hoB (nI k) A B F = (if nI k = 0 then A else if nI k = 1 then !A else if nI k = 2 then A && B else if nI k = 3 then A || B else if nI k = 4 then !A || B else if nI k = 5 then decide (bi A = bi B) else if nI k = 6 then false else A || (B || F)) := by
  have h : ∀ k, k < 8 → ∀ A B F : Bool, hoB (nI k) A B F = (if nI k = 0 then A else if nI k = 1 then !A else if nI k = 2 then A && B else if nI k = 3 then A || B else if nI k = 4 then !A || B else if nI k = 5 then decide (bi A = bi B) else if nI k = 6 then false else A || (B || F)) := by decide +kernel
  exact h k hk A B F
/-- what is laid as a saying: its numbers, and where it is true -/
theorem say_k (v : Int32) : ∃ k f a b, k < 8 ∧ f < 10 ∧ a < 6 ∧ b < 6 ∧ sayV v / 1000 = nI k ∧ m10 (sayV v / 100) = nI f ∧ m10 (sayV v / 10) = nI a ∧ m10 (sayV v) = nI b ∧ ∀ t, t < 64 → hoV (sayV v) (nI t) = wb (wS k (nI f) (nI a) (nI b)) t := by
  obtain ⟨k, hk, ek⟩ := so_r (v >>> ((3 : Int32) &&& 31)) (m := 8) (by decide) (by decide)
  obtain ⟨f, hf, ef⟩ := so_r (v >>> ((6 : Int32) &&& 31)) (m := 10) (by decide) (by decide)
  obtain ⟨a, ha, ea⟩ := so_r (v >>> ((10 : Int32) &&& 31)) (m := 6) (by decide) (by decide)
  obtain ⟨b, hb, eb⟩ := so_r (v >>> ((13 : Int32) &&& 31)) (m := 6) (by decide) (by decide)
  have e : sayV v = made (nI k) (nI f) (nI a) (nI b) := by
    unfold sayV
    rw [← ek, ← ef, ← ea, ← eb]
    rfl
  obtain ⟨e1, e2, e3, e4⟩ := cd_all k hk f hf a ha b hb
  refine ⟨k, f, a, b, hk, hf, ha, hb, by rw [e]; exact e1, by rw [e]; exact e2, by rw [e]; exact e3, by rw [e]; exact e4, fun t ht => ?_⟩
  rw [wS_b hk hf ha hb ht, e]
  unfold hoV isTB
  rw [show m10 (made (nI k) (nI f) (nI a) (nI b) / 100) = nI f from e2, show m10 (made (nI k) (nI f) (nI a) (nI b) / 10) = nI a from e3, show m10 (made (nI k) (nI f) (nI a) (nI b)) = nI b from e4, e1, e2, e3, e4]
  exact ho_k k hk _ _ _
abbrev WS : Type := CS × List ab_E × (Nat → Int32)
section
variable (L : Nat) (xs : Nat → Int32)
def wnN : Nat := tn (someI (atF L xs 0 >>> ((9 : Int32) &&& 31)) 6)
def wlB : Int32 := if (atF L xs 0 >>> ((20 : Int32) &&& 31)) &&& 1 = 0 then 3 else 7
def wlN : Nat := tn (someI (atF L xs 0 >>> ((6 : Int32) &&& 31)) (wlB L xs))
def wsN : Nat := if wnN L xs = 0 then 0 else tn (someI (atF L xs 0 >>> ((12 : Int32) &&& 31)) 11)
def w0S (c : CS) (D : List ab_E) : WS := (trtP c (someI (atF L xs 0) 64), D, upd (upd (fun _ => 0) 3 (someI (atF L xs 0) 64)) 1 (nI (wnN L xs)))
def w1G (w : Nat) (p : WS) : WS := (wtnP p.1 (someI (atF L xs (1 + w)) 64), p.2.1, upd p.2.2 (10 + w) (someI (atF L xs (1 + w)) 64))
def w2K (v : Int32) (p : WS) : CS := kepP p.1 0 1 (sayV v / 1000) (m10 (sayV v / 100))
def w2R (v : Int32) (p : WS) : CD := rulP (w2K v p) p.2.1 (tn (p.2.2 0)) 0 (m10 (sayV v / 10)) (m10 (sayV v))
def w2B (v : Int32) (p : WS) : Nat → Int32 := upd p.2.2 (4 + tn (p.2.2 0)) (sayV v)
def w2V (v : Int32) (p : WS) : WS := if hoV (sayV v) (p.2.2 3) = false then (if 0 < v &&& 7 then (p.1, p.2.1, w2B v p) else ((w2R v p).1, (w2R v p).2, upd (w2B v p) 0 (p.2.2 0 + 1))) else ((w2R v p).1, (w2R v p).2, upd (w2B v p) 0 (p.2.2 0 + 1))
def w2G (k : Nat) (p : WS) : WS := w2V (atF L xs (6 + k)) p
def w3W (v : Int32) (p : WS) : Int32 := someI (v >>> ((17 : Int32) &&& 31)) (p.2.2 1)
def w3R (v : Int32) (p : WS) : CD := sayP (w2K v p) p.2.1 (tn (p.2.2 2)) (w3W v p) 0 (m10 (sayV v / 10)) (m10 (sayV v))
def w3B (v : Int32) (p : WS) : Nat → Int32 := upd p.2.2 (15 + tn (p.2.2 2)) (sayV v)
def w3C (v : Int32) (p : WS) : Nat → Int32 := upd (upd (w3B v p) (25 + tn (p.2.2 2)) (w3W v p)) 2 (p.2.2 2 + 1)
def w3V (v : Int32) (p : WS) : WS := if hoV (sayV v) (p.2.2 3) = false then ((w3R v p).1, (w3R v p).2, w3C v p) else (if 0 < v &&& 3 then (p.1, p.2.1, w3B v p) else ((w3R v p).1, (w3R v p).2, w3C v p))
def w3G (k : Nat) (p : WS) : WS := w3V (atF L xs (12 + k)) p
def w1S (c : CS) (D : List ab_E) : WS := acc (w1G L xs) (w0S L xs c D) (wnN L xs)
def w2S (c : CS) (D : List ab_E) : WS := acc (w2G L xs) (w1S L xs c D) (wlN L xs)
def w3S (c : CS) (D : List ab_E) : WS := acc (w3G L xs) (w2S L xs c D) (wsN L xs)
end
/-- what holds of both while the world is told -/
def WIc (NW nw kl ks : Nat) (c : CS) (D : List ab_E) (f : Nat → Int32) : Prop := ∃ Q, PI c D Q nw ∧ f 0 = nI (Q (2 * 0)).1 ∧ f 1 = nI NW ∧ f 2 = nI (Q (2 * 0 + 1)).1 ∧ f 3 = c.1 (20 + 0) ∧ (∀ j, j < nw → f (10 + j) = c.2.1 0 j) ∧
  (Q (2 * 0)).1 ≤ kl ∧ (Q (2 * 0 + 1)).1 ≤ ks ∧ D.length ≤ 100 * (kl + ks) ∧ ab_sz D ≤ 1000 * (kl + ks)
def WI (NW nw kl ks : Nat) (p : WS) : Prop := WIc NW nw kl ks p.1 p.2.1 p.2.2
theorem wn_r (L : Nat) (xs : Nat → Int32) : wnN L xs < 6 ∧ someI (atF L xs 0 >>> ((9 : Int32) &&& 31)) 6 = nI (wnN L xs) := by
  obtain ⟨j, hj, e⟩ := so_r (atF L xs 0 >>> ((9 : Int32) &&& 31)) (m := 6) (by decide) (by decide)
  have e2 : wnN L xs = j := by unfold wnN; rw [show (6 : Int32) = nI 6 from rfl, e]; exact tn8 (by omega)
  rw [e2]
  exact ⟨hj, e⟩
theorem wl_r (L : Nat) (xs : Nat → Int32) : wlN L xs ≤ 6 ∧ someI (atF L xs 0 >>> ((6 : Int32) &&& 31)) (wlB L xs) = nI (wlN L xs) := by
  have h : ∃ m, 0 < m ∧ m ≤ 7 ∧ wlB L xs = nI m := by
    unfold wlB
    split
    · exact ⟨3, by decide, by decide, rfl⟩
    · exact ⟨7, by decide, by decide, rfl⟩
  obtain ⟨m, h0, h7, em⟩ := h
  obtain ⟨j, hj, e⟩ := so_r (atF L xs 0 >>> ((6 : Int32) &&& 31)) (m := m) h0 (by omega)
  have e2 : wlN L xs = j := by unfold wlN; rw [em, e]; exact tn8 (by omega)
  rw [e2, em]
  exact ⟨by omega, e⟩
theorem ws_r (L : Nat) (xs : Nat → Int32) : wsN L xs ≤ 10 ∧ (wnN L xs = 0 → wsN L xs = 0) ∧ (¬ wnN L xs = 0 → someI (atF L xs 0 >>> ((12 : Int32) &&& 31)) 11 = nI (wsN L xs)) := by
  obtain ⟨j, hj, e⟩ := so_r (atF L xs 0 >>> ((12 : Int32) &&& 31)) (m := 11) (by decide) (by decide)
  unfold wsN
  by_cases q : wnN L xs = 0
  · rw [if_pos q]; exact ⟨by decide, fun _ => rfl, fun h => absurd q h⟩
  · rw [if_neg q, show (11 : Int32) = nI 11 from rfl, e, tn8 (by omega)]
    exact ⟨by omega, fun h => absurd h q, fun _ => rfl⟩
theorem W0 {L : Nat} {xs : Nat → Int32} {c : CS} {D : List ab_E} {Q : QT} (h : PI c D Q 0) (h0 : (Q (2 * 0)).1 = 0) (h1 : (Q (2 * 0 + 1)).1 = 0) (hD : D.length = 0) : WI (wnN L xs) 0 0 0 (w0S L xs c D) := by
  obtain rfl : D = [] := List.length_eq_zero_iff.mp hD
  obtain ⟨t, ht, e⟩ := so_r (atF L xs 0) (m := 64) (by decide) (by decide)
  have e64 : someI (atF L xs 0) 64 = nI t := e
  obtain ⟨-, a2, a3, -, -⟩ := tr_e h ht
  unfold w0S
  rw [e64]
  show WIc (wnN L xs) 0 0 0 (trtP c (nI t)) [] (upd (upd (fun _ => 0) 3 (nI t)) 1 (nI (wnN L xs)))
  refine ⟨Q, a2, ?_, pk_us, ?_, ?_, fun j hj => absurd hj (Nat.not_lt_zero _), by omega, by omega, Nat.zero_le _, Nat.zero_le _⟩
  · rw [h0]; show upd (upd _ 3 _) 1 _ 0 = _; rw [pk_un (by decide), pk_un (by decide)]; rfl
  · rw [h1]; show upd (upd _ 3 _) 1 _ 2 = _; rw [pk_un (by decide), pk_un (by decide)]; rfl
  · rw [a3]; show upd (upd _ 3 _) 1 _ 3 = _; rw [pk_un (by decide), pk_us]
theorem W1 {L : Nat} {xs : Nat → Int32} {p : WS} {NW w : Nat} (h : WI NW w 0 0 p) (hw : w < NW) (hN : NW ≤ 5) : WI NW (w + 1) 0 0 (w1G L xs w p) := by
  obtain ⟨Q, h1, h2, h3, h4, h5, h6, h7, h8, h9, h10⟩ := h
  obtain ⟨t, ht, e⟩ := so_r (atF L xs (1 + w)) (m := 64) (by decide) (by decide)
  have e64 : someI (atF L xs (1 + w)) 64 = nI t := e
  obtain ⟨-, a2, a3, a4, a5, a6, a7⟩ := wt_e h1 ht (by omega)
  unfold w1G
  rw [e64]
  show WIc NW (w + 1) 0 0 (wtnP p.1 (nI t)) p.2.1 (upd p.2.2 (10 + w) (nI t))
  refine ⟨Q, a2, (pk_un (by omega)).trans h2, (pk_un (by omega)).trans h3, (pk_un (by omega)).trans h4, (pk_un (by omega)).trans (h5.trans (a5 _ (by decide)).symm), fun j hj => ?_, h7, h8, h9, h10⟩
  by_cases q : j = w
  · subst q; exact pk_us.trans a3.symm
  · exact (pk_un (by omega)).trans ((h6 j (by omega)).trans (a4 j q).symm)
theorem up100 {D E : List ab_E} {m : Nat} (h : upD 100 1000 D E) (h1 : D.length ≤ 100 * m) (h2 : ab_sz D ≤ 1000 * m) : E.length ≤ 100 * (m + 1) ∧ ab_sz E ≤ 1000 * (m + 1) := by
  obtain ⟨u1, u2, -⟩ := h
  exact ⟨by omega, by rw [Nat.mul_succ]; exact Nat.le_trans u2 (Nat.add_le_add_right h2 1000)⟩
theorem W2 {v : Int32} {p : WS} {NW kl : Nat} (h : WI NW NW kl 0 p) (hk : kl < 6) : WI NW NW (kl + 1) 0 (w2V v p) := by
  obtain ⟨Q, h1, h2, h3, h4, h5, h6, h7, h8, h9, h10⟩ := h
  have hz : tn (p.2.2 0) = (Q (2 * 0)).1 := by rw [h2]; exact tn8 (by omega)
  have hNW := h1.2.2.1
  have hB : ∀ j, (j < 4 ∨ 10 ≤ j) → w2B v p j = p.2.2 j := fun j hj => by unfold w2B; rw [hz]; exact pk_un (by omega)
  obtain ⟨k, f, a, b, hk8, hf, ha, hb, e1, e2, e3, e4, -⟩ := say_k v
  have eK : w2K v p = hsP p.1 0 k (nI f) := by unfold w2K; rw [e1, e2]; exact (kp_e (d := 0) (by decide) hk8 hf).1
  have hP := PI_kp (f := nI f) h1 (d := 0) (by decide) hk8
  have hS := hs_S (c := p.1) (d := 0) (k := k) (f := f)
  obtain ⟨r1, r2, r3⟩ := ru_e hP (d := 0) (by decide) hk8 hf hS ha hb (by omega)
  have eR : w2R v p = rulP (hsP p.1 0 k (nI f)) p.2.1 (Q (2 * 0)).1 (nI 0) (nI a) (nI b) := by unfold w2R; rw [eK, e3, e4, hz]; rfl
  have hL : ∀ q : WS, q = ((w2R v p).1, (w2R v p).2, upd (w2B v p) 0 (p.2.2 0 + 1)) → WI NW NW (kl + 1) 0 q := fun q hq => by
    subst hq
    show WIc NW NW (kl + 1) 0 (w2R v p).1 (w2R v p).2 (upd (w2B v p) 0 (p.2.2 0 + 1))
    rw [eR]
    have hu := up100 (m := kl + 0) (up_rul hP.1 (nl := (Q (2 * 0)).1) (d := nI 0) (a := nI a) (b := nI b)) h9 h10
    refine ⟨_, r3, ?_, (pk_un (by decide)).trans ((hB 1 (by omega)).trans h3), ?_, ?_, fun j hj => ?_, ?_, ?_, by rw [show kl + 1 + 0 = kl + 0 + 1 by omega]; exact hu.1, by rw [show kl + 1 + 0 = kl + 0 + 1 by omega]; exact hu.2⟩
    · rw [gQ_1, h2, nI_1]; exact pk_us
    · rw [gQ_n (by decide)]; exact (pk_un (by decide)).trans ((hB 2 (by omega)).trans h4)
    · exact (pk_un (by decide)).trans ((hB 3 (by omega)).trans (h5.trans ((r2.1 _ (Or.inl (by decide))).trans (hs_1 (by decide) (by decide))).symm))
    · exact (pk_un (by omega)).trans ((hB _ (Or.inr (by omega))).trans ((h6 j hj).trans (congrFun (r2.2.1 0) j).symm))
    · rw [gQ_1]; omega
    · rw [gQ_n (by decide)]; exact h8
  unfold w2V
  split
  · split
    · show WIc NW NW (kl + 1) 0 p.1 p.2.1 (w2B v p)
      exact ⟨Q, h1, (hB 0 (by omega)).trans h2, (hB 1 (by omega)).trans h3, (hB 2 (by omega)).trans h4, (hB 3 (by omega)).trans h5, fun j hj => (hB _ (Or.inr (by omega))).trans (h6 j hj), by omega, h8, Nat.le_trans h9 (by omega), Nat.le_trans h10 (by omega)⟩
    · exact hL _ rfl
  · exact hL _ rfl
theorem W3 {v : Int32} {p : WS} {NW kl ks : Nat} (h : WI NW NW kl ks p) (hk : ks < 10) (h0 : 0 < NW) : WI NW NW kl (ks + 1) (w3V v p) := by
  obtain ⟨Q, h1, h2, h3, h4, h5, h6, h7, h8, h9, h10⟩ := h
  have hz : tn (p.2.2 2) = (Q (2 * 0 + 1)).1 := by rw [h4]; exact tn8 (by omega)
  have hNW := h1.2.2.1
  have hB : ∀ j, j < 15 → w3B v p j = p.2.2 j := fun j hj => by unfold w3B; rw [hz]; exact pk_un (by omega)
  have hC : ∀ j, j < 15 → j ≠ 2 → w3C v p j = p.2.2 j := fun j hj h2 => by unfold w3C; rw [pk_un h2, hz, pk_un (by omega), hB j hj]
  have hC2 : w3C v p 2 = p.2.2 2 + 1 := pk_us
  obtain ⟨k, f, a, b, hk8, hf, ha, hb, e1, e2, e3, e4, -⟩ := say_k v
  obtain ⟨w, hw, ew⟩ := so_r (v >>> ((17 : Int32) &&& 31)) (m := NW) h0 (by omega)
  have eW : w3W v p = nI w := by unfold w3W; rw [h3]; exact ew
  have eK : w2K v p = hsP p.1 0 k (nI f) := by unfold w2K; rw [e1, e2]; exact (kp_e (d := 0) (by decide) hk8 hf).1
  have hP := PI_kp (f := nI f) h1 (d := 0) (by decide) hk8
  have hS := hs_S (c := p.1) (d := 0) (k := k) (f := f)
  obtain ⟨r1, r2, r3⟩ := sa_e hP hw (d := 0) (by decide) hk8 hf hS ha hb (by omega)
  have eR : w3R v p = sayP (hsP p.1 0 k (nI f)) p.2.1 (Q (2 * 0 + 1)).1 (nI w) (nI 0) (nI a) (nI b) := by unfold w3R; rw [eK, e3, e4, hz, eW]; rfl
  have hL : ∀ q : WS, q = ((w3R v p).1, (w3R v p).2, w3C v p) → WI NW NW kl (ks + 1) q := fun q hq => by
    subst hq
    show WIc NW NW kl (ks + 1) (w3R v p).1 (w3R v p).2 (w3C v p)
    rw [eR]
    have hu := up100 (m := kl + ks) (up_say hP.1 (ns := (Q (2 * 0 + 1)).1) (w := nI w) (d := nI 0) (a := nI a) (b := nI b)) h9 h10
    refine ⟨_, r3, ?_, (hC 1 (by omega) (by omega)).trans h3, ?_, ?_, fun j hj => ?_, ?_, ?_, hu.1, hu.2⟩
    · rw [gQ_n (by decide)]; exact (hC 0 (by omega) (by omega)).trans h2
    · rw [gQ_1, ← nI_1, ← h4]; exact hC2
    · exact (hC 3 (by omega) (by omega)).trans (h5.trans ((r2.1 _ (Or.inl (by decide))).trans (hs_1 (by decide) (by decide))).symm)
    · exact (hC _ (by omega) (by omega)).trans ((h6 j hj).trans (congrFun (r2.2.1 0) j).symm)
    · rw [gQ_n (by decide)]; exact h7
    · rw [gQ_1]; omega
  unfold w3V
  split
  · exact hL _ rfl
  · split
    · show WIc NW NW kl (ks + 1) p.1 p.2.1 (w3B v p)
      exact ⟨Q, h1, (hB 0 (by omega)).trans h2, (hB 1 (by omega)).trans h3, (hB 2 (by omega)).trans h4, (hB 3 (by omega)).trans h5, fun j hj => (hB _ (by omega)).trans (h6 j hj), h7, by omega, Nat.le_trans h9 (by omega), Nat.le_trans h10 (by omega)⟩
    · exact hL _ rfl
theorem W1a {L : Nat} {xs : Nat → Int32} {c : CS} {D : List ab_E} {Q : QT} (h : PI c D Q 0) (h0 : (Q (2 * 0)).1 = 0) (h1 : (Q (2 * 0 + 1)).1 = 0) (hD : D.length = 0) (n : Nat) (hn : n ≤ wnN L xs) : WI (wnN L xs) n 0 0 (acc (w1G L xs) (w0S L xs c D) n) := by
  induction n with
  | zero => rw [acc_0]; exact W0 h h0 h1 hD
  | succ n ih => exact W1 (ih (by omega)) (by omega) (by have := (wn_r L xs).1; omega)
theorem W2a {L : Nat} {xs : Nat → Int32} {c : CS} {D : List ab_E} {Q : QT} (h : PI c D Q 0) (h0 : (Q (2 * 0)).1 = 0) (h1 : (Q (2 * 0 + 1)).1 = 0) (hD : D.length = 0) (n : Nat) (hn : n ≤ wlN L xs) : WI (wnN L xs) (wnN L xs) n 0 (acc (w2G L xs) (w1S L xs c D) n) := by
  induction n with
  | zero => rw [acc_0]; unfold w1S; exact W1a h h0 h1 hD _ (Nat.le_refl _)
  | succ n ih => exact W2 (ih (by omega)) (by have := (wl_r L xs).1; omega)
theorem W3a {L : Nat} {xs : Nat → Int32} {c : CS} {D : List ab_E} {Q : QT} (h : PI c D Q 0) (h0 : (Q (2 * 0)).1 = 0) (h1 : (Q (2 * 0 + 1)).1 = 0) (hD : D.length = 0) (n : Nat) (hn : n ≤ wsN L xs) : WI (wnN L xs) (wnN L xs) (wlN L xs) n (acc (w3G L xs) (w2S L xs c D) n) := by
  induction n with
  | zero => rw [acc_0]; unfold w2S; exact W2a h h0 h1 hD _ (Nat.le_refl _)
  | succ n ih => exact W3 (ih (by omega)) (by have := (ws_r L xs).1; omega) (by have := (ws_r L xs).2.1; omega)
