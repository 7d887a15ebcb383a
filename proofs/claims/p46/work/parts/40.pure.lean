def made (k f a b : Int32) : Int32 := 1000 * k + 100 * f + 10 * a + b
def hasB (w f : Int32) : Bool := decide ((w >>> (f &&& 31)) &&& 1 = 1)
def isTB (s w : Int32) : Bool :=
  if s / 1000 = 0 then hasB w (s / 10 - s / 10 / 10 * 10)
  else if s / 1000 = 1 then !hasB w (s / 10 - s / 10 / 10 * 10)
  else if s / 1000 = 2 then hasB w (s / 10 - s / 10 / 10 * 10) && hasB w (s - s / 10 * 10)
  else if s / 1000 = 3 then hasB w (s / 10 - s / 10 / 10 * 10) || hasB w (s - s / 10 * 10)
  else if s / 1000 = 4 then !hasB w (s / 10 - s / 10 / 10 * 10) || hasB w (s - s / 10 * 10)
  else if s / 1000 = 5 then decide (bi (hasB w (s / 10 - s / 10 / 10 * 10)) = bi (hasB w (s - s / 10 * 10)))
  else if s / 1000 = 6 then false
  else hasB w (s / 10 - s / 10 / 10 * 10) || (hasB w (s - s / 10 * 10) || hasB w ((s / 100 - s / 100 / 10 * 10) - (s / 100 - s / 100 / 10 * 10) / 6 * 6))
def psI (i : Int32) : Int32 := made (i / 36) 0 (i / 6 - i / 6 / 6 * 6) (i - i / 6 * 6)
abbrev QT : Type := Nat → Nat × (Nat → SY)
def KR (c : CS) : Prop := ∀ d, d < 8 → ∃ k, k < 8 ∧ c.2.2.2 (10 + d) = .ref (kR k)
def bt (x : Int32) (i : Nat) : Bool := x.toBitVec.getLsbD i
theorem b_ext {x y : Int32} (h : ∀ i, i < 32 → bt x i = bt y i) : x = y := Int32.toBitVec_inj.mp (BitVec.eq_of_getLsbD_eq (fun i hi => h i hi))
theorem b_or (x y : Int32) (i : Nat) : bt (x ||| y) i = (bt x i || bt y i) := by unfold bt; rw [Int32.toBitVec_or, BitVec.getLsbD_or]
theorem b_and (x y : Int32) (i : Nat) : bt (x &&& y) i = (bt x i && bt y i) := by unfold bt; rw [Int32.toBitVec_and, BitVec.getLsbD_and]
theorem b_xor (x y : Int32) (i : Nat) : bt (x ^^^ y) i = (bt x i ^^ bt y i) := by unfold bt; rw [Int32.toBitVec_xor, BitVec.getLsbD_xor]
theorem b_m1 : ∀ i, i < 32 → bt (-1) i = true := by decide +kernel
theorem b_0 (i : Nat) : bt 0 i = false := BitVec.getLsbD_zero
theorem s_l : ∀ n, n < 32 → ((nI n &&& 31).toBitVec.smod 32).toNat = n := by decide +kernel
theorem b_sshr (n : Nat) (hn : n < 32) (x : Int32) {i : Nat} (hi : i < 32) : bt (x >>> (nI n &&& 31)) i = if n + i < 32 then bt x (n + i) else bt x 31 := by
  unfold bt
  rw [Int32.toBitVec_shiftRight]
  show (x.toBitVec.sshiftRight ((nI n &&& 31).toBitVec.smod 32).toNat).getLsbD i = _
  rw [s_l n hn, BitVec.getLsbD_sshiftRight, BitVec.msb_eq_getLsbD_last]
  simp [hi]
theorem ts_nf {x : Bool} (h : ¬ x = false) : x = true := by cases x <;> first | rfl | exact absurd rfl h
theorem ts_nt {x : Bool} (h : ¬ x = true) : x = false := by cases x <;> first | rfl | exact absurd rfl h
theorem ts_bit {w : Int64} {s : UInt64} {j : Nat} (hj : j < 64) (hs : s.toNat = j) : ((w.toUInt64 >>> s).toInt64 &&& 1) = 0 ↔ w.toBitVec.getLsbD j = false := by
  have e : (w.toUInt64 >>> s).toInt64.toBitVec = w.toBitVec >>> j := by
    apply BitVec.eq_of_toNat_eq
    show (w.toUInt64 >>> s).toNat = _
    rw [UInt64.toNat_shiftRight, hs, Nat.mod_eq_of_lt hj, BitVec.toNat_ushiftRight]
    rfl
  rw [← Int64.toBitVec_inj, Int64.toBitVec_and, e]
  show w.toBitVec >>> j &&& 1#64 = 0#64 ↔ _
  constructor
  · intro h
    have t := congrArg (fun x => x.getLsbD 0) h
    simpa using t
  · intro h
    apply BitVec.eq_of_getLsbD_eq
    intro i hi
    cases i with
    | zero => simp [h]
    | succ i => simp
def uN (x : Int64) : Nat := x.toUInt64.toNat
theorem uN_lt (x : Int64) : uN x < 18446744073709551616 := x.toUInt64.toNat_lt
theorem uN_add (x y : Int64) : uN (x + y) = (uN x + uN y) % 18446744073709551616 := by
  show (x.toUInt64 + y.toUInt64).toNat = _
  exact UInt64.toNat_add _ _
theorem uN_shr (x : Int64) (s : UInt64) : uN (x.toUInt64 >>> s).toInt64 = uN x / 2 ^ (s.toNat % 64) := by
  show (x.toUInt64 >>> s).toNat = _
  rw [UInt64.toNat_shiftRight, Nat.shiftRight_eq_div_pow]
  rfl
theorem uN_s32 (x : Int64) : uN (x.toUInt64 >>> ((32 : Int32).toInt64.toUInt64 &&& Int64.toUInt64 63)).toInt64 = uN x / 4294967296 := by
  have h : ((32 : Int32).toInt64.toUInt64 &&& Int64.toUInt64 63).toNat % 64 = 32 := by decide
  rw [uN_shr, h]
theorem uN_sk (x : Int64) {k : Nat} (hk : k < 64) : uN (x.toUInt64 >>> ((nI k).toInt64.toUInt64 &&& Int64.toUInt64 63)).toInt64 = uN x / 2 ^ k := by
  have h : ((nI k).toInt64.toUInt64 &&& Int64.toUInt64 63).toNat % 64 = k := by
    rw [nI_l (by omega), UInt64.toNat_and]
    have e : (lN k).toUInt64.toNat = k % 2 ^ 64 := rfl
    have e2 : (Int64.toUInt64 63).toNat = 2 ^ 6 - 1 := by decide
    rw [e, e2, Nat.and_two_pow_sub_one_eq_mod]
    omega
  rw [uN_shr, h]
theorem fa_lt (a b : Int32) : a < b ↔ a.toInt < b.toInt := Int32.lt_iff_toInt_lt
theorem fa_le (a b : Int32) : a ≤ b ↔ a.toInt ≤ b.toInt := Int32.le_iff_toInt_le
theorem fa_eq (a b : Int32) : a = b ↔ a.toInt = b.toInt := Int32.toInt_inj.symm
/-- one strict comparison gives all the others -/
theorem fa_of_lt {a b : Int32} (h : a < b) : a ≤ b ∧ ¬ b ≤ a ∧ ¬ b < a ∧ a ≠ b ∧ b ≠ a := by
  rw [fa_lt] at h
  refine ⟨?_, ?_, ?_, ?_, ?_⟩
  · rw [fa_le]; omega
  · rw [fa_le]; omega
  · rw [fa_lt]; omega
  · intro e; rw [fa_eq] at e; omega
  · intro e; rw [fa_eq] at e; omega
theorem fa_of_nlt {a b : Int32} (h : ¬ a < b) : b ≤ a := by
  rw [fa_lt] at h
  rw [fa_le]
  omega
theorem fa_or (a b : Nat) : nI a ||| nI b = nI (a ||| b) := by
  apply Int32.toBitVec_inj.1
  show BitVec.ofNat 32 a ||| BitVec.ofNat 32 b = BitVec.ofNat 32 (a ||| b)
  apply BitVec.eq_of_getLsbD_eq
  intro i hi
  simp [hi]
/-- 'or' of a high part and a low one that don't meet is their sum -/
theorem fa_or_sum {a k : Nat} (b : Nat) (h : a < 2 ^ k) : nI (2 ^ k * b) ||| nI a = nI (2 ^ k * b + a) := by rw [fa_or, Nat.two_pow_add_eq_or_of_lt h]
def fb_ct (p : Nat → Bool) : Nat → Nat
  | 0 => 0
  | n + 1 => fb_ct p n + (if p n then 1 else 0)
theorem fb_ct_succ (p : Nat → Bool) (n : Nat) : fb_ct p (n + 1) = fb_ct p n + (if p n then 1 else 0) := rfl
theorem fb_ct_le (p : Nat → Bool) : ∀ n, fb_ct p n ≤ n
  | 0 => Nat.le_refl _
  | n + 1 => by
    have h := fb_ct_le p n
    rw [fb_ct_succ]
    split <;> omega
theorem fb_ct_cong {p q : Nat → Bool} : ∀ {n : Nat}, (∀ k, k < n → p k = q k) → fb_ct p n = fb_ct q n
  | 0, _ => rfl
  | n + 1, h => by
    rw [fb_ct_succ, fb_ct_succ, fb_ct_cong (fun k hk => h k (by omega)), h n (by omega)]
theorem fb_ct_sub {p q : Nat → Bool} : ∀ {n : Nat}, (∀ k, k < n → p k = true → q k = true) → fb_ct p n ≤ fb_ct q n
  | 0, _ => Nat.le_refl _
  | n + 1, h => by
    have h1 := fb_ct_sub (n := n) (p := p) (q := q) (fun k hk => h k (by omega))
    have h2 := h n (by omega)
    rw [fb_ct_succ, fb_ct_succ]
    cases hp : p n <;> cases hq : q n <;> simp_all <;> omega
theorem fb_ct_split (p : Nat → Bool) (m : Nat) : ∀ n, fb_ct p (m + n) = fb_ct p m + fb_ct (fun k => p (m + k)) n
  | 0 => rfl
  | n + 1 => by
    have h := fb_ct_split p m n
    show fb_ct p (m + n + 1) = _
    rw [fb_ct_succ, fb_ct_succ, h, Nat.add_assoc]
def wb (x : Int64) (i : Nat) : Bool := x.toBitVec.getLsbD i
theorem w_ext {x y : Int64} (h : ∀ i, i < 64 → wb x i = wb y i) : x = y := Int64.toBitVec_inj.mp (BitVec.eq_of_getLsbD_eq (fun i hi => h i hi))
theorem w_or (x y : Int64) (i : Nat) : wb (x ||| y) i = (wb x i || wb y i) := by unfold wb; rw [Int64.toBitVec_or, BitVec.getLsbD_or]
theorem w_and (x y : Int64) (i : Nat) : wb (x &&& y) i = (wb x i && wb y i) := by unfold wb; rw [Int64.toBitVec_and, BitVec.getLsbD_and]
theorem w_xor (x y : Int64) (i : Nat) : wb (x ^^^ y) i = (wb x i ^^ wb y i) := by unfold wb; rw [Int64.toBitVec_xor, BitVec.getLsbD_xor]
theorem w_m1 : ∀ i, i < 64 → wb (-1) i = true := by decide +kernel
theorem w_0 (i : Nat) : wb 0 i = false := BitVec.getLsbD_zero
theorem w_not (x : Int64) {i : Nat} (hi : i < 64) : wb (x ^^^ (-1)) i = !wb x i := by rw [w_xor, w_m1 i hi]; cases wb x i <;> rfl
theorem w_bit : ∀ k, k < 64 → ∀ i, i < 64 → wb ((1 : Int64) <<< ((nI k).toInt64 &&& 63)) i = decide (i = k) := by decide +kernel
theorem w_zero {x : Int64} : x = 0 ↔ ∀ i, i < 64 → wb x i = false := ⟨fun h i _ => by rw [h]; exact w_0 i, fun h => w_ext fun i hi => by rw [h i hi, w_0]⟩
theorem w_su : ∀ k, k < 64 → ((nI k).toInt64.toUInt64 &&& Int64.toUInt64 63).toNat = k := by decide +kernel
theorem w_ss : ∀ k, k < 64 → (((nI k).toInt64 &&& 63).toBitVec.smod 64).toNat = k := by decide +kernel
theorem hwB_w (w : Int64) {k : Nat} (hk : k < 64) : hwB w (nI k) = wb w k := by
  unfold hwB
  have h := ts_bit (w := w) hk (w_su k hk)
  unfold wb
  by_cases q : w.toBitVec.getLsbD k = false
  · rw [decide_eq_true (h.mpr q), q]; rfl
  · rw [decide_eq_false (fun z => q (h.mp z)), ts_nf q]; rfl
theorem w_1 : ∀ i, i < 64 → wb 1 i = decide (i = 0) := by decide +kernel
theorem w_and1 (x : Int64) : x &&& 1 = 1 ↔ wb x 0 = true := by
  constructor
  · intro h
    have := congrArg (fun z => wb z 0) h
    simp only [w_and, w_1 0 (by decide)] at this
    simpa using this
  · intro h
    apply w_ext
    intro i hi
    rw [w_and, w_1 i hi]
    by_cases q : i = 0
    · subst q; rw [h]; rfl
    · rw [decide_eq_false q, Bool.and_false]
theorem w_sshr (x : Int64) {k : Nat} (hk : k < 64) : wb (x >>> ((nI k).toInt64 &&& 63)) 0 = wb x k := by
  unfold wb
  rw [Int64.toBitVec_shiftRight]
  show (x.toBitVec.sshiftRight (((nI k).toInt64 &&& 63).toBitVec.smod 64).toNat).getLsbD 0 = _
  rw [w_ss k hk, BitVec.getLsbD_sshiftRight]
  simp [hk]
theorem w_shb (w : Int64) {k : Nat} (hk : k < 64) : ((w >>> ((nI k).toInt64 &&& 63)) &&& 1 = 1) ↔ wb w k = true := (w_and1 _).trans (by rw [w_sshr w hk])
theorem b_1 : ∀ i, i < 32 → bt 1 i = decide (i = 0) := by decide +kernel
theorem b_and1 (x : Int32) : x &&& 1 = 1 ↔ bt x 0 = true := by
  constructor
  · intro h
    have := congrArg (fun z => bt z 0) h
    simp only [b_and, b_1 0 (by decide)] at this
    simpa using this
  · intro h
    apply b_ext
    intro i hi
    rw [b_and, b_1 i hi]
    by_cases q : i = 0
    · subst q; rw [h]; rfl
    · rw [decide_eq_false q, Bool.and_false]
theorem b_and0 (x : Int32) : x &&& 1 = 0 ↔ bt x 0 = false := by
  constructor
  · intro h
    have := congrArg (fun z => bt z 0) h
    simp only [b_and, b_1 0 (by decide)] at this
    rw [b_0] at this
    simpa using this
  · intro h
    apply b_ext
    intro i hi
    rw [b_and, b_1 i hi, b_0]
    by_cases q : i = 0
    · subst q; rw [h]; rfl
    · rw [decide_eq_false q, Bool.and_false]
theorem b_sr0 (x : Int32) {k : Nat} (hk : k < 32) : bt (x >>> (nI k &&& 31)) 0 = bt x k := by rw [b_sshr k hk x (by decide)]; rw [if_pos (by omega)]; rfl
theorem hasB_b (w : Int32) {k : Nat} (hk : k < 32) : hasB w (nI k) = bt w k := by
  unfold hasB
  by_cases q : bt w k = true
  · rw [decide_eq_true ((b_and1 _).mpr (by rw [b_sr0 w hk]; exact q)), q]
  · rw [decide_eq_false (fun z => q (by rw [← b_sr0 w hk]; exact (b_and1 _).mp z)), ts_nt q]
theorem b_sh0 (w : Int32) {k : Nat} (hk : k < 32) : ((w >>> (nI k &&& 31)) &&& 1 = 0) ↔ bt w k = false := (b_and0 _).trans (by rw [b_sr0 w hk])
theorem b_not (x : Int32) {i : Nat} (hi : i < 32) : bt (x ^^^ (-1)) i = !bt x i := by rw [b_xor, b_m1 i hi]; cases bt x i <;> rfl
theorem b_bit : ∀ k, k < 32 → ∀ i, i < 32 → bt ((1 : Int32) <<< (nI k &&& 31)) i = decide (i = k) := by decide +kernel
theorem b_zero {x : Int32} : x = 0 ↔ ∀ i, i < 32 → bt x i = false := ⟨fun h i _ => by rw [h]; exact b_0 i, fun h => b_ext fun i hi => by rw [h i hi, b_0]⟩
theorem b_nI (n : Nat) {i : Nat} (hi : i < 32) : bt (nI n) i = n.testBit i := by
  show (BitVec.ofNat 32 n).getLsbD i = _
  rw [BitVec.getLsbD_ofNat, decide_eq_true hi]; rfl
theorem acc_cg {σ : Type} {f g : Nat → σ → σ} {z z' : σ} {n : Nat} (hz : z = z') (h : ∀ i, i < n → ∀ b, f i b = g i b) : acc f z n = acc g z' n := by
  subst hz
  induction n with
  | zero => rfl
  | succ n ih => rw [acc_s, acc_s, ih (fun i hi => h i (by omega)), h n (by omega)]
theorem accI {σ : Type} (P : Nat → σ → Prop) {f : Nat → σ → σ} {z : σ} {n : Nat} (h0 : P 0 z) (h : ∀ i, i < n → ∀ b, P i b → P (i + 1) (f i b)) : P n (acc f z n) := by
  induction n with
  | zero => exact h0
  | succ n ih => exact h n (by omega) _ (ih (fun i hi => h i (by omega)))
theorem accR {σ τ : Type} (P : Nat → σ → τ → Prop) {f : Nat → σ → σ} {g : Nat → τ → τ} {z : σ} {y : τ} {n : Nat} (h0 : P 0 z y) (h : ∀ i, i < n → ∀ a b, P i a b → P (i + 1) (f i a) (g i b)) : P n (acc f z n) (acc g y n) := by
  induction n with
  | zero => exact h0
  | succ n ih => exact h n (by omega) _ _ (ih (fun i hi => h i (by omega)))
theorem cd_all : ∀ k, k < 8 → ∀ f, f < 10 → ∀ a, a < 6 → ∀ b, b < 6 → made (nI k) (nI f) (nI a) (nI b) / 1000 = nI k ∧
    made (nI k) (nI f) (nI a) (nI b) / 100 - made (nI k) (nI f) (nI a) (nI b) / 100 / 10 * 10 = nI f ∧
    made (nI k) (nI f) (nI a) (nI b) / 10 - made (nI k) (nI f) (nI a) (nI b) / 10 / 10 * 10 = nI a ∧
    made (nI k) (nI f) (nI a) (nI b) - made (nI k) (nI f) (nI a) (nI b) / 10 * 10 = nI b := by decide +kernel
theorem six : ∀ f, f < 10 → nI f - nI f / 6 * 6 = nI (f % 6) := by decide +kernel
theorem wW_b : ∀ a, a < 6 → ∀ t, t < 64 → wb (wW (nI a)) t = bt (nI t) a := by decide +kernel
theorem wS_b {k f a b : Nat} (hk : k < 8) (hf : f < 10) (ha : a < 6) (hb : b < 6) {t : Nat} (ht : t < 64) : wb (wS k (nI f) (nI a) (nI b)) t = isTB (made (nI k) (nI f) (nI a) (nI b)) (nI t) := by
  obtain ⟨e1, e2, e3, e4⟩ := cd_all k hk f hf a ha b hb
  have hA : hasB (nI t) (nI a) = bt (nI t) a := hasB_b _ (by omega)
  have hB : hasB (nI t) (nI b) = bt (nI t) b := hasB_b _ (by omega)
  have hF : hasB (nI t) (nI (f % 6)) = bt (nI t) (f % 6) := hasB_b _ (by omega)
  unfold isTB wS
  rw [e1, e2, e3, e4, six f hf, hA, hB, hF]
  have wa := wW_b a ha t ht
  have wb' := wW_b b hb t ht
  have wf := wW_b (f % 6) (by omega) t ht
  rcases (by omega : k = 0 ∨ k = 1 ∨ k = 2 ∨ k = 3 ∨ k = 4 ∨ k = 5 ∨ k = 6 ∨ k = 7) with rfl | rfl | rfl | rfl | rfl | rfl | rfl | rfl
  · rw [if_pos (by decide)]; exact wa
  · rw [if_neg (by decide), if_pos (by decide)]; show wb (wW (nI a) ^^^ (-1)) t = _; rw [w_not _ ht, wa]
  · rw [if_neg (by decide), if_neg (by decide), if_pos (by decide)]; show wb (wW (nI a) &&& wW (nI b)) t = _; rw [w_and, wa, wb']
  · rw [if_neg (by decide), if_neg (by decide), if_neg (by decide), if_pos (by decide)]; show wb (wW (nI a) ||| wW (nI b)) t = _; rw [w_or, wa, wb']
  · rw [if_neg (by decide), if_neg (by decide), if_neg (by decide), if_neg (by decide), if_pos (by decide)]; show wb ((wW (nI a) ^^^ (-1)) ||| wW (nI b)) t = _; rw [w_or, w_not _ ht, wa, wb']
  · rw [if_neg (by decide), if_neg (by decide), if_neg (by decide), if_neg (by decide), if_neg (by decide), if_pos (by decide)]; show wb ((wW (nI a) ^^^ wW (nI b)) ^^^ (-1)) t = _; rw [w_not _ ht, w_xor, wa, wb']; cases bt (nI t) a <;> cases bt (nI t) b <;> rfl
  · rw [if_neg (by decide), if_neg (by decide), if_neg (by decide), if_neg (by decide), if_neg (by decide), if_neg (by decide), if_pos (by decide)]; exact w_0 _
  · rw [if_neg (by decide), if_neg (by decide), if_neg (by decide), if_neg (by decide), if_neg (by decide), if_neg (by decide), if_neg (by decide)]; show wb ((wW (nI a) ||| wW (nI b)) ||| wW (nI (f % 6))) t = _; rw [w_or, w_or, wa, wb', wf]; cases bt (nI t) a <;> cases bt (nI t) b <;> rfl
theorem sub1_b : ∀ n, n ≤ 10 → ∀ i, i < n → bt ((1 : Int32) <<< (nI n &&& 31) - 1) i = true := by decide +kernel
/-- only the places of what is said matter in a set -/
theorem lbT_cg {qs : Nat → SY} {ns : Nat} {w : Int64} {s1 s2 : Int32} (hn : ns ≤ 10) (e : ∀ i, i < ns → bt s1 i = bt s2 i) : lbT qs ns w s1 = lbT qs ns w s2 := acc_cg rfl fun i hi b => by
  unfold lbG
  by_cases q : bt s2 i = true
  · rw [if_neg (fun z => by have := e i hi; rw [(b_sh0 s1 (by omega)).mp z, q] at this; cases this), if_neg (fun z => by rw [(b_sh0 s2 (by omega)).mp z] at q; cases q)]
  · rw [if_pos ((b_sh0 s1 (by omega)).mpr ((e i hi).trans (ts_nt q))), if_pos ((b_sh0 s2 (by omega)).mpr (ts_nt q))]
/-- what is left, bit by bit -/
theorem lbT_b {qs : Nat → SY} {ns : Nat} {w : Int64} {set : Int32} (hn : ns ≤ 10) {t : Nat} (ht : t < 64) : wb (lbT qs ns w set) t = true ↔ wb w t = true ∧ ∀ i, i < ns → bt set i = true → wb (wY (qs i)) t = false := by
  unfold lbT
  induction ns with
  | zero => exact ⟨fun h => ⟨h, fun i hi => absurd hi (by omega)⟩, fun h => h.1⟩
  | succ n ih =>
    have ih := ih (by omega)
    rw [acc_s]
    unfold lbG
    by_cases q : bt set n = true
    · rw [if_neg (fun z => by rw [(b_sh0 set (by omega)).mp z] at q; cases q), w_and, w_not _ ht, Bool.and_eq_true]
      constructor
      · intro h
        refine ⟨(ih.mp h.1).1, fun i hi hb => ?_⟩
        by_cases e : i = n
        · subst e; have := h.2; cases hw : wb (wY (qs i)) t
          · rfl
          · rw [hw] at this; cases this
        · exact (ih.mp h.1).2 i (by omega) hb
      · intro h
        exact ⟨ih.mpr ⟨h.1, fun i hi => h.2 i (by omega)⟩, by rw [h.2 n (by omega) q]; rfl⟩
    · rw [if_pos ((b_sh0 set (by omega)).mpr (ts_nt q))]
      constructor
      · intro h
        refine ⟨(ih.mp h).1, fun i hi hb => ?_⟩
        by_cases e : i = n
        · subst e; exact absurd hb q
        · exact (ih.mp h).2 i (by omega) hb
      · intro h
        exact ih.mpr ⟨h.1, fun i hi => h.2 i (by omega)⟩
theorem inB6 (x : Int32) : inB x 6 = iw x 0 5 := by
  unfold inB iw
  exact congrArg (fun z => !decide (x < 0) && !z) (decide_eq_decide.mpr (by rw [fa_le, fa_lt, show (6 : Int32).toInt = 6 from by decide, show (5 : Int32).toInt = 5 from by decide]; omega))
theorem inB64 (x : Int32) : inB x 64 = iw x 0 63 := by
  unfold inB iw
  exact congrArg (fun z => !decide (x < 0) && !z) (decide_eq_decide.mpr (by rw [fa_le, fa_lt, show (64 : Int32).toInt = 64 from by decide, show (63 : Int32).toInt = 63 from by decide]; omega))
theorem eo_iw (x : Int32) : eoB x = iw x 0 1 := by
  unfold eoB iw
  have e1 : (1 : Int32).toInt = 1 := by decide
  have e0 : (0 : Int32).toInt = 0 := by decide
  by_cases h0 : x = 0
  · subst h0; rfl
  · by_cases h1 : x = 1
    · subst h1; rfl
    · rw [decide_eq_false h0, decide_eq_false h1]
      rw [fa_eq, e0] at h0
      rw [fa_eq, e1] at h1
      by_cases h2 : x < 0
      · rw [decide_eq_true h2]; rfl
      · rw [decide_eq_true (p := 1 < x) (by rw [fa_lt, e1]; rw [fa_lt, e0] at h2; omega)]
        cases (!decide (x < 0)) <;> rfl
theorem leP : ∀ n, n ≤ 10 → (nI n - 1).toInt = n - 1 := by decide +kernel
theorem nT {n : Nat} (h : n < 2147483648) : (nI n).toInt = n := nI_toInt h
theorem hw_iw {c : CS} {t : Nat} {nw : Nat} (h : c.1 (10 + t) = nI nw) (h5 : nw ≤ 5) (x : Int32) : hwT c t x = iw x 0 (nI nw - 1) := by
  unfold hwT iw
  congr 2
  exact decide_eq_decide.mpr (by rw [h, fa_le, fa_lt, leP nw (by omega), nT (by omega)]; omega)
theorem iw2 {x : Int32} (h : iw x 0 1 = true) : x = 0 ∨ x = 1 := by
  obtain ⟨j, hj, rfl⟩ := iw_ex (n := 2) (by decide) (by decide) h
  rcases (by omega : j = 0 ∨ j = 1) with rfl | rfl
  · exact Or.inl rfl
  · exact Or.inr rfl
theorem iwn {x : Int32} {n : Nat} (hn : n ≤ 10) (h : iw x 0 (nI n - 1) = true) : ∃ j, j < n ∧ x = nI j := iw_ex rfl (by omega) h
theorem kb_in {c : CS} {t j : Nat} (hj : j < 5) : kbT c t (nI j) = c.2.1 t j := by
  unfold kbT
  rw [if_neg (nI_pos (by omega)), if_neg (fun z => by have := (nI_leI (a := 5) (b := j) (by omega) (by omega)).mp z; omega), tn_nI (by omega)]
theorem if_cg {α : Type} {b : Bool} {x y z : α} (h : b = true → x = y) : (if b = true then x else z) = if b = true then y else z := by
  split
  · exact h ‹_›
  · rfl

theorem noL_v : noL = 4000000000000000001 := by decide +kernel
theorem bt_one {k i : Nat} (hk : k < 32) (hi : i < 32) : bt ((1 : Int32) <<< (nI k &&& 31)) i = decide (i = k) := b_bit k hk i hi
/-- what is left if one is false -/
theorem left_1 {qs : Nat → SY} {ns : Nat} {w : Int64} (hn : ns ≤ 10) {k : Nat} (hk : k < ns) : lbT qs ns w ((1 : Int32) <<< (nI k &&& 31)) = w &&& (wY (qs k) ^^^ (-1)) := w_ext fun t ht => by
  rw [Bool.eq_iff_iff, lbT_b hn ht, w_and, w_not _ ht, Bool.and_eq_true]
  constructor
  · intro h
    exact ⟨h.1, by rw [h.2 k hk (by rw [bt_one (by omega) (by omega)]; exact decide_eq_true rfl)]; rfl⟩
  · intro h
    refine ⟨h.1, fun i hi hb => ?_⟩
    rw [bt_one (by omega) (by omega)] at hb
    have := of_decide_eq_true hb
    subst this
    have := h.2
    cases q : wb (wY (qs i)) t
    · rfl
    · rw [q] at this; cases this
theorem fnd_cg {c1 c2 : Nat → Bool} : ∀ k i, (∀ j, i ≤ j → j < i + k → c1 j = c2 j) → fnd c1 k i = fnd c2 k i
  | 0, i, _ => rfl
  | k + 1, i, h => by
    unfold fnd
    rw [h i (by omega) (by omega), fnd_cg k (i + 1) fun j hj hk => h j (by omega) (by omega)]
theorem clR_cg {n : Nat} {c1 c2 : Nat → Nat → Bool} : ∀ k i, (i + k ≤ n) → (∀ i j, i < n → j < n → c1 i j = c2 i j) → clR n c1 k i = clR n c2 k i
  | 0, _, _, _ => rfl
  | k + 1, i, hk, h => by
    unfold clR
    rw [fnd_cg (n - (i + 1)) (i + 1) fun j hj hk => h i j (by omega) (by omega), clR_cg k (i + 1) (by omega) h]
def Mk (c : Nat) : Nat → Nat
  | 0 => 0
  | k + 1 => 256 * Mk c k + c
/-- a mask takes a shifted number byte by byte -/
theorem Mk_sh {s c : Nat} (hs : s < 8) (hc : c < 2 ^ (8 - s)) (k a m : Nat) (ha : a < 256) : ((256 * m + a) / 2 ^ s) &&& (256 * Mk c k + c) = 256 * ((m / 2 ^ s) &&& Mk c k) + ((a / 2 ^ s) &&& c) := by
  have hc8 : c < 256 := Nat.lt_of_lt_of_le hc (by rw [show 256 = 2 ^ 8 from rfl]; exact Nat.pow_le_pow_right (by decide) (by omega))
  have hA : (a / 2 ^ s) &&& c < 2 ^ 8 := Nat.lt_of_le_of_lt Nat.and_le_right hc8
  apply Nat.eq_of_testBit_eq
  intro i
  rw [Nat.testBit_and, Nat.testBit_div_two_pow, show 256 = 2 ^ 8 from rfl, Nat.testBit_two_pow_mul_add _ (by omega), Nat.testBit_two_pow_mul_add _ hc8, Nat.testBit_two_pow_mul_add _ hA, Nat.testBit_and, Nat.testBit_and, Nat.testBit_div_two_pow, Nat.testBit_div_two_pow]
  by_cases h8 : i < 8
  · rw [if_pos h8, if_pos h8]
    by_cases h9 : i + s < 8
    · rw [if_pos h9]
    · have : c.testBit i = false := Nat.testBit_lt_two_pow (Nat.lt_of_lt_of_le hc (Nat.pow_le_pow_right (by decide) (by omega)))
      rw [this, Bool.and_false, Bool.and_false]
  · rw [if_neg h8, if_neg h8, if_neg (by omega), show i + s - 8 = i - 8 + s from by omega]
def s1 (n : Nat) : Nat := n - ((n / 2) &&& 85)
def s2 (n : Nat) : Nat := (n &&& 51) + ((n / 4) &&& 51)
def s3 (n : Nat) : Nat := (n + n / 16) % 16
def S1 (k n : Nat) : Nat := n - ((n / 2) &&& Mk 85 k)
def S2 (k n : Nat) : Nat := (n &&& Mk 51 k) + ((n / 4) &&& Mk 51 k)
def S3 (k n : Nat) : Nat := (n + n / 16) &&& Mk 15 k
theorem S1_s (k a m : Nat) (ha : a < 256) : S1 (k + 1) (256 * m + a) = 256 * S1 k m + s1 a := by
  have h := Mk_sh (s := 1) (c := 85) (by decide) (by decide) k a m ha
  have h1 : (m / 2) &&& Mk 85 k ≤ m / 2 := Nat.and_le_left
  have h2 : (a / 2) &&& 85 ≤ a / 2 := Nat.and_le_left
  unfold S1 s1
  rw [Mk, show (256 * m + a) / 2 = (256 * m + a) / 2 ^ 1 from rfl, h]
  show _ - (256 * ((m / 2) &&& Mk 85 k) + ((a / 2) &&& 85)) = _
  generalize (m / 2) &&& Mk 85 k = x at *
  generalize (a / 2) &&& 85 = y at *
  omega
theorem S2_s (k a m : Nat) (ha : a < 256) : S2 (k + 1) (256 * m + a) = 256 * S2 k m + s2 a := by
  have h := Mk_sh (s := 2) (c := 51) (by decide) (by decide) k a m ha
  have h0 := Mk_sh (s := 0) (c := 51) (by decide) (by decide) k a m ha
  rw [Nat.pow_zero, Nat.div_one, Nat.div_one, Nat.div_one] at h0
  unfold S2 s2
  rw [Mk, h0, show (256 * m + a) / 4 = (256 * m + a) / 2 ^ 2 from rfl, h]
  show _ + (256 * ((m / 4) &&& Mk 51 k) + ((a / 4) &&& 51)) = _
  omega
theorem S3_s (k a m : Nat) (ha : a + a / 16 + 16 * (m % 16) < 256) : S3 (k + 1) (256 * m + a) = 256 * S3 k m + s3 a := by
  have e : 256 * m + a + (256 * m + a) / 16 = 256 * (m + m / 16) + (a + a / 16 + 16 * (m % 16)) := by omega
  have h0 := Mk_sh (s := 0) (c := 15) (by decide) (by decide) k _ (m + m / 16) ha
  rw [Nat.pow_zero, Nat.div_one, Nat.div_one, Nat.div_one] at h0
  unfold S3 s3
  rw [Mk, e, h0]
  have : (a + a / 16 + 16 * (m % 16)) &&& 15 = (a + a / 16 + 16 * (m % 16)) % 16 := Nat.and_two_pow_sub_one_eq_mod _ 4
  rw [this]
  omega
theorem sb_all : ∀ b, b < 256 → s1 b < 256 ∧ s2 (s1 b) % 16 ≤ 4 ∧ s2 (s1 b) ≤ 68 ∧ s3 (s2 (s1 b)) = fb_ct (fun i => b.testBit i) 8 := by decide +kernel
/-- the bytes of a number, their bits counted, put together again -/
def pB (n : Nat) : Nat → Nat
  | 0 => 0
  | k + 1 => 256 * pB (n / 256) k + fb_ct (fun i => (n % 256).testBit i) 8
def p2 (n : Nat) : Nat → Nat
  | 0 => 0
  | k + 1 => 256 * p2 (n / 256) k + s2 (s1 (n % 256))
def p1 (n : Nat) : Nat → Nat
  | 0 => 0
  | k + 1 => 256 * p1 (n / 256) k + s1 (n % 256)
theorem p1_S : ∀ k n, n < 256 ^ k → S1 k n = p1 n k
  | 0, n, h => by have : n = 0 := by rw [Nat.pow_zero] at h; omega
                  subst this; rfl
  | k + 1, n, h => by
    have e : n = 256 * (n / 256) + n % 256 := (Nat.div_add_mod n 256).symm
    rw [Nat.pow_succ] at h
    rw [p1, ← p1_S k (n / 256) (by omega), ← S1_s k _ _ (Nat.mod_lt _ (by decide)), ← e]
theorem p2_S : ∀ k n, S2 k (p1 n k) = p2 n k
  | 0, n => by show (0 &&& 0) + ((0 / 4) &&& 0) = 0; rfl
  | k + 1, n => by
    rw [p1, p2, S2_s k _ _ (sb_all _ (Nat.mod_lt _ (by decide))).1, p2_S k]
theorem p2_16 : ∀ k n, p2 n k % 16 ≤ 4
  | 0, n => by show 0 % 16 ≤ 4; decide
  | k + 1, n => by
    have := (sb_all (n % 256) (Nat.mod_lt _ (by decide))).2.1
    rw [p2]
    omega
theorem p3_S : ∀ k n, S3 k (p2 n k) = pB n k
  | 0, n => by show ((0 + 0 / 16) &&& 0) = 0; rfl
  | k + 1, n => by
    obtain ⟨h1, h2, h3, h4⟩ := sb_all (n % 256) (Nat.mod_lt _ (by decide))
    have h5 := p2_16 k (n / 256)
    rw [p2, pB, S3_s k _ _ (by omega), p3_S k, h4]
theorem p2_lt : ∀ k n, p2 n k < 256 ^ k
  | 0, n => by show 0 < 1; decide
  | k + 1, n => by
    have := p2_lt k (n / 256)
    have := (sb_all (n % 256) (Nat.mod_lt _ (by decide))).2.2.1
    rw [p2, Nat.pow_succ]
    omega
theorem uN_and (x y : Int64) : uN (x &&& y) = uN x &&& uN y := by
  show (x.toUInt64 &&& y.toUInt64).toNat = _
  rw [UInt64.toNat_and]; rfl
theorem uN_sub {x y : Int64} (h : uN y ≤ uN x) : uN (x - y) = uN x - uN y := by
  show (x.toUInt64 - y.toUInt64).toNat = _
  rw [UInt64.toNat_sub_of_le]
  · rfl
  · exact UInt64.le_iff_toNat_le.mpr h
theorem p2_le : ∀ k n, 255 * p2 n k + 68 ≤ 68 * 256 ^ k
  | 0, n => by show 255 * 0 + 68 ≤ 68 * 1; decide
  | k + 1, n => by
    have := p2_le k (n / 256)
    have := (sb_all (n % 256) (Nat.mod_lt _ (by decide))).2.2.1
    rw [p2, Nat.pow_succ]
    omega
theorem pB_le : ∀ k n, 255 * pB n k + 8 ≤ 8 * 256 ^ k
  | 0, n => by show 255 * 0 + 8 ≤ 8 * 1; decide
  | k + 1, n => by
    have := pB_le k (n / 256)
    have := fb_ct_le (fun i => (n % 256).testBit i) 8
    rw [pB, Nat.pow_succ]
    omega
theorem uN_m1 : uN 6148914691236517205 = Mk 85 8 := by decide +kernel
theorem uN_m2 : uN 3689348814741910323 = Mk 51 8 := by decide +kernel
theorem uN_m3 : uN 1085102592571150095 = Mk 15 8 := by decide +kernel
theorem uN_s1 (x : Int64) : uN (x.toUInt64 >>> ((1 : Int32).toInt64.toUInt64 &&& Int64.toUInt64 63)).toInt64 = uN x / 2 := uN_sk x (k := 1) (by decide)
theorem uN_s2 (x : Int64) : uN (x.toUInt64 >>> ((2 : Int32).toInt64.toUInt64 &&& Int64.toUInt64 63)).toInt64 = uN x / 4 := uN_sk x (k := 2) (by decide)
theorem uN_s4 (x : Int64) : uN (x.toUInt64 >>> ((4 : Int32).toInt64.toUInt64 &&& Int64.toUInt64 63)).toInt64 = uN x / 16 := uN_sk x (k := 4) (by decide)
theorem uN_s8 (x : Int64) : uN (x.toUInt64 >>> ((8 : Int32).toInt64.toUInt64 &&& Int64.toUInt64 63)).toInt64 = uN x / 256 := uN_sk x (k := 8) (by decide)
theorem uN_s16 (x : Int64) : uN (x.toUInt64 >>> ((16 : Int32).toInt64.toUInt64 &&& Int64.toUInt64 63)).toInt64 = uN x / 65536 := uN_sk x (k := 16) (by decide)
theorem low7 (x : Int64) : x.toInt32 &&& 127 = nI (uN x % 128) := by
  rw [pk_and x.toInt32 7 (by decide)]
  congr 1
  have e : x.toInt32.toBitVec = x.toBitVec.signExtend 32 := Int64.toBitVec_toInt32 x
  rw [e, BitVec.signExtend_eq_setWidth_of_le _ (by decide), BitVec.toNat_setWidth]
  show x.toBitVec.toNat % 4294967296 % 128 = x.toBitVec.toNat % 128
  omega
def lb1 (x0 : Int64) : Int64 := x0 - ((x0.toUInt64 >>> ((1 : Int32).toInt64.toUInt64 &&& Int64.toUInt64 63)).toInt64 &&& 6148914691236517205)
def lb2 (x1 : Int64) : Int64 := (x1 &&& 3689348814741910323) + ((x1.toUInt64 >>> ((2 : Int32).toInt64.toUInt64 &&& Int64.toUInt64 63)).toInt64 &&& 3689348814741910323)
def lb3 (x2 : Int64) : Int64 := (x2 + (x2.toUInt64 >>> ((4 : Int32).toInt64.toUInt64 &&& Int64.toUInt64 63)).toInt64) &&& 1085102592571150095
def lb4 (x3 : Int64) : Int64 := x3 + (x3.toUInt64 >>> ((8 : Int32).toInt64.toUInt64 &&& Int64.toUInt64 63)).toInt64
def lb5 (x4 : Int64) : Int64 := x4 + (x4.toUInt64 >>> ((16 : Int32).toInt64.toUInt64 &&& Int64.toUInt64 63)).toInt64
def lb6 (x5 : Int64) : Int64 := x5 + (x5.toUInt64 >>> ((32 : Int32).toInt64.toUInt64 &&& Int64.toUInt64 63)).toInt64
theorem lbc_6 (x : Int64) : lbc x = (lb6 (lb5 (lb4 (lb3 (lb2 (lb1 x)))))).toInt32 &&& 127 := rfl
theorem p256 : (256 : Nat) ^ 8 = 18446744073709551616 := by decide
theorem u_lb1 (x : Int64) : uN (lb1 x) = p1 (uN x) 8 := by
  have h := uN_lt x
  unfold lb1
  have e : uN ((x.toUInt64 >>> ((1 : Int32).toInt64.toUInt64 &&& Int64.toUInt64 63)).toInt64 &&& 6148914691236517205) = (uN x / 2) &&& Mk 85 8 := by rw [uN_and, uN_s1, uN_m1]
  rw [uN_sub, e]
  · exact p1_S 8 (uN x) (by rw [p256]; exact h)
  · rw [e]; exact Nat.le_trans Nat.and_le_left (Nat.div_le_self _ _)
theorem u_lb2 (x : Int64) : uN (lb2 (lb1 x)) = p2 (uN x) 8 := by
  have h := p2_lt 8 (uN x)
  rw [p256] at h
  unfold lb2
  rw [uN_add, uN_and, uN_and, uN_s2, uN_m2, u_lb1]
  have e := p2_S 8 (uN x)
  unfold S2 at e
  rw [e]
  exact Nat.mod_eq_of_lt h
theorem u_lb3 (x : Int64) : uN (lb3 (lb2 (lb1 x))) = pB (uN x) 8 := by
  have h := p2_le 8 (uN x)
  rw [p256] at h
  unfold lb3
  rw [uN_and, uN_add, uN_s4, uN_m3, u_lb2, Nat.mod_eq_of_lt (by omega)]
  exact p3_S 8 (uN x)
theorem lbc_n (x : Int64) : lbc x = nI ((pB (uN x) 8 + pB (uN x) 8 / 256 + (pB (uN x) 8 + pB (uN x) 8 / 256) / 65536 + (pB (uN x) 8 + pB (uN x) 8 / 256 + (pB (uN x) 8 + pB (uN x) 8 / 256) / 65536) / 4294967296) % 128) := by
  have h := pB_le 8 (uN x)
  rw [p256] at h
  rw [lbc_6, low7]
  unfold lb6 lb5 lb4
  congr 2
  rw [uN_add, uN_s32, uN_add, uN_s16, uN_add, uN_s8, u_lb3]
  generalize pB (uN x) 8 = P at *
  rw [Nat.mod_eq_of_lt (a := P + P / 256) (by omega)]
  rw [Nat.mod_eq_of_lt (a := P + P / 256 + (P + P / 256) / 65536) (by omega)]
  rw [Nat.mod_eq_of_lt (by omega)]
theorem dvL {A k Y R : Nat} (h : R < k) (e : A = k * Y + R) : A / k = Y := by
  subst e
  rw [Nat.mul_add_div (by omega), Nat.div_eq_of_lt h]; rfl
theorem li1 (c0 c1 c2 c3 c4 c5 c6 c7 : Nat) : c0 + 256 * c1 + 65536 * c2 + 16777216 * c3 + 4294967296 * c4 + 1099511627776 * c5 + 281474976710656 * c6 + 72057594037927936 * c7 = 256 * (c1 + 256 * c2 + 65536 * c3 + 16777216 * c4 + 4294967296 * c5 + 1099511627776 * c6 + 281474976710656 * c7) + (c0) := by omega
theorem li2 (c0 c1 c2 c3 c4 c5 c6 c7 : Nat) : c0 + 256 * c1 + 65536 * c2 + 16777216 * c3 + 4294967296 * c4 + 1099511627776 * c5 + 281474976710656 * c6 + 72057594037927936 * c7 + (c1 + 256 * c2 + 65536 * c3 + 16777216 * c4 + 4294967296 * c5 + 1099511627776 * c6 + 281474976710656 * c7) = 65536 * (c2 + 257 * c3 + 65792 * c4 + 16842752 * c5 + 4311744512 * c6 + 1103806595072 * c7) + (c0 + 257 * c1 + 256 * c2) := by omega
theorem li3 (c0 c1 c2 c3 c4 c5 c6 c7 : Nat) : c0 + 256 * c1 + 65536 * c2 + 16777216 * c3 + 4294967296 * c4 + 1099511627776 * c5 + 281474976710656 * c6 + 72057594037927936 * c7 + (c1 + 256 * c2 + 65536 * c3 + 16777216 * c4 + 4294967296 * c5 + 1099511627776 * c6 + 281474976710656 * c7) + (c2 + 257 * c3 + 65792 * c4 + 16842752 * c5 + 4311744512 * c6 + 1103806595072 * c7) = 4294967296 * (c4 + 257 * c5 + 65793 * c6 + 16843009 * c7) + (c0 + 257 * c1 + 65793 * c2 + 16843009 * c3 + 16843008 * c4 + 16842752 * c5 + 16777216 * c6) := by omega
theorem li4 (c0 c1 c2 c3 c4 c5 c6 c7 : Nat) : c0 + 256 * c1 + 65536 * c2 + 16777216 * c3 + 4294967296 * c4 + 1099511627776 * c5 + 281474976710656 * c6 + 72057594037927936 * c7 + (c1 + 256 * c2 + 65536 * c3 + 16777216 * c4 + 4294967296 * c5 + 1099511627776 * c6 + 281474976710656 * c7) + (c2 + 257 * c3 + 65792 * c4 + 16842752 * c5 + 4311744512 * c6 + 1103806595072 * c7) + (c4 + 257 * c5 + 65793 * c6 + 16843009 * c7) = 128 * (2 * c1 + 514 * c2 + 131586 * c3 + 33686018 * c4 + 8623620610 * c5 + 2207646876162 * c6 + 565157600297474 * c7) + (c0 + c1 + c2 + c3 + c4 + c5 + c6 + c7) := by omega
theorem fold8 {c0 c1 c2 c3 c4 c5 c6 c7 P : Nat} (h0 : c0 ≤ 8) (h1 : c1 ≤ 8) (h2 : c2 ≤ 8) (h3 : c3 ≤ 8) (h4 : c4 ≤ 8) (h5 : c5 ≤ 8) (h6 : c6 ≤ 8) (h7 : c7 ≤ 8) (hP : P = c0 + 256 * c1 + 65536 * c2 + 16777216 * c3 + 4294967296 * c4 + 1099511627776 * c5 + 281474976710656 * c6 + 72057594037927936 * c7) : (P + P / 256 + (P + P / 256) / 65536 + (P + P / 256 + (P + P / 256) / 65536) / 4294967296) % 128 = c0 + c1 + c2 + c3 + c4 + c5 + c6 + c7 := by
  have r1 : c0 < 256 := by omega
  have r2 : c0 + 257 * c1 + 256 * c2 < 65536 := by omega
  have r3 : c0 + 257 * c1 + 65793 * c2 + 16843009 * c3 + 16843008 * c4 + 16842752 * c5 + 16777216 * c6 < 4294967296 := by omega
  have r4 : c0 + c1 + c2 + c3 + c4 + c5 + c6 + c7 < 128 := by omega
  rw [hP, dvL r1 (li1 c0 c1 c2 c3 c4 c5 c6 c7), dvL r2 (li2 c0 c1 c2 c3 c4 c5 c6 c7), dvL r3 (li3 c0 c1 c2 c3 c4 c5 c6 c7), li4 c0 c1 c2 c3 c4 c5 c6 c7, Nat.mul_add_mod, Nat.mod_eq_of_lt r4]
theorem ct_split (p : Nat → Bool) (k : Nat) : fb_ct p (8 * (k + 1)) = fb_ct p 8 + fb_ct (fun i => p (8 + i)) (8 * k) := by rw [show 8 * (k + 1) = 8 + 8 * k from by omega]; exact fb_ct_split p 8 (8 * k)
/-- the counted bytes, added -/
def pS (n : Nat) : Nat → Nat
  | 0 => 0
  | k + 1 => fb_ct (fun i => (n % 256).testBit i) 8 + pS (n / 256) k
theorem pS_ct : ∀ k n, pS n k = fb_ct (fun i => n.testBit i) (8 * k)
  | 0, n => rfl
  | k + 1, n => by
    rw [pS, pS_ct k, ct_split]
    congr 1
    · exact fb_ct_cong fun i hi => by rw [show 256 = 2 ^ 8 from rfl, Nat.testBit_mod_two_pow, decide_eq_true hi]; rfl
    · exact fb_ct_cong fun i hi => by rw [show 256 = 2 ^ 8 from rfl, Nat.testBit_div_two_pow, Nat.add_comm]
theorem lbc_ct (x : Int64) : lbc x = nI (fb_ct (wb x) 64) := by
  rw [lbc_n, show fb_ct (wb x) 64 = pS (uN x) 8 from (pS_ct 8 (uN x)).symm]
  congr 1
  have L : ∀ n : Nat, fb_ct (fun i => n.testBit i) 8 ≤ 8 := fun n => fb_ct_le _ 8
  refine (fold8 (L (uN x % 256)) (L (uN x / 256 % 256)) (L (uN x / 256 / 256 % 256)) (L (uN x / 256 / 256 / 256 % 256)) (L (uN x / 256 / 256 / 256 / 256 % 256)) (L (uN x / 256 / 256 / 256 / 256 / 256 % 256)) (L (uN x / 256 / 256 / 256 / 256 / 256 / 256 % 256)) (L (uN x / 256 / 256 / 256 / 256 / 256 / 256 / 256 % 256)) ?_).trans ?_
  · simp only [pB]; clear L; omega
  · simp only [pS]; clear L; omega
theorem lbc_mono {x y : Int64} (h : ∀ i, i < 64 → wb x i = true → wb y i = true) : lbc x ≤ lbc y := by
  rw [lbc_ct, lbc_ct]
  exact nI_le (fb_ct_sub h) (by have := fb_ct_le (wb y) 64; omega)
theorem lbc_0 (x : Int64) : ¬ lbc x < 0 := by
  rw [lbc_ct]
  exact nI_pos (by have := fb_ct_le (wb x) 64; omega)

theorem b_63 : ∀ i, i < 32 → bt 63 i = decide (i < 6) := by decide +kernel
theorem wW_not {w : Int64} {f : Nat} (hf : f < 6) : w &&& (wW (nI f) ^^^ (-1)) = 0 ↔ ∀ t, t < 64 → wb w t = true → bt (nI t) f = true := by
  rw [w_zero]
  constructor
  · intro h t ht hw
    have := h t ht
    rw [w_and, w_not _ ht, wW_b f hf t ht, hw] at this
    cases q : bt (nI t) f
    · rw [q] at this; cases this
    · rfl
  · intro h t ht
    rw [w_and, w_not _ ht, wW_b f hf t ht]
    cases q : wb w t
    · rfl
    · rw [h t ht q]; rfl
theorem wW_no {w : Int64} {f : Nat} (hf : f < 6) : w &&& wW (nI f) = 0 ↔ ∀ t, t < 64 → wb w t = true → bt (nI t) f = false := by
  rw [w_zero]
  constructor
  · intro h t ht hw
    have := h t ht
    rw [w_and, wW_b f hf t ht, hw] at this
    exact this
  · intro h t ht
    rw [w_and, wW_b f hf t ht]
    cases q : wb w t
    · rfl
    · rw [h t ht q]; rfl
theorem or_b (P : Nat → Prop) [DecidablePred P] {j : Nat} (hj : j < 32) : ∀ n, n ≤ 6 → (bt (acc (fun i b => if P i then b ||| fb (nI i) else b) (0 : Int32) n) j = true ↔ j < n ∧ P j)
  | 0, _ => ⟨fun h => (by rw [show acc _ (0 : Int32) 0 = (0 : Int32) from rfl, b_0] at h; cases h), fun h => absurd h.1 (by omega)⟩
  | n + 1, h => by
    have ih := or_b P hj n (by omega)
    rw [acc_s]
    split
    · rename_i q
      rw [b_or, Bool.or_eq_true, ih, show fb (nI n) = (1 : Int32) <<< (nI n &&& 31) from rfl, b_bit n (by omega) j hj, decide_eq_true_eq]
      constructor
      · rintro (z | z)
        · exact ⟨by omega, z.2⟩
        · subst z; exact ⟨by omega, q⟩
      · intro z
        by_cases e : j = n
        · exact Or.inr e
        · exact Or.inl ⟨by omega, z.2⟩
    · rename_i q
      rw [ih]
      constructor
      · intro z; exact ⟨by omega, z.2⟩
      · intro z
        by_cases e : j = n
        · subst e; exact absurd z.2 q
        · exact ⟨by omega, z.2⟩
theorem faI_b (w : Int64) {j : Nat} (hj : j < 32) : bt (faI w) j = true ↔ j < 6 ∧ ∀ t, t < 64 → wb w t = true → bt (nI t) j = true := by
  have h := or_b (fun i => w &&& (wW (nI i) ^^^ (-1)) = 0) hj 6 (by decide)
  rw [show faI w = acc (fun i b => if w &&& (wW (nI i) ^^^ (-1)) = 0 then b ||| fb (nI i) else b) (0 : Int32) 6 from rfl, h]
  exact ⟨fun z => ⟨z.1, (wW_not z.1).mp z.2⟩, fun z => ⟨z.1, (wW_not z.1).mpr z.2⟩⟩
theorem fnI_b (w : Int64) {j : Nat} (hj : j < 32) : bt (fnI w) j = true ↔ j < 6 ∧ ∀ t, t < 64 → wb w t = true → bt (nI t) j = false := by
  have h := or_b (fun i => w &&& wW (nI i) = 0) hj 6 (by decide)
  rw [show fnI w = acc (fun i b => if w &&& wW (nI i) = 0 then b ||| fb (nI i) else b) (0 : Int32) 6 from rfl, h]
  exact ⟨fun z => ⟨z.1, (wW_no z.1).mp z.2⟩, fun z => ⟨z.1, (wW_no z.1).mpr z.2⟩⟩
theorem b_nt {x : Int32} {i : Nat} (hi : i < 32) : bt (x ^^^ (-1)) i = true ↔ bt x i = false := by rw [b_not x hi]; cases bt x i <;> decide
theorem lk_b (w : Int64) (u b : Int32) {t : Nat} (ht : t < 64) : ∀ n, n ≤ 6 → (wb (acc (lkF u b) w n) t = true ↔ wb w t = true ∧ ∀ i, i < n → bt b i = true → bt (nI t) i = bt u i)
  | 0, _ => ⟨fun h => ⟨h, fun i hi => absurd hi (by omega)⟩, fun h => h.1⟩
  | n + 1, h => by
    have ih := lk_b w u b ht n (by omega)
    have e : ∀ x : Int32, x &&& fb (nI n) = 0 ↔ bt x n = false := fun x => by
      rw [b_zero]
      constructor
      · intro z
        have := z n (by omega)
        rw [b_and, show fb (nI n) = (1 : Int32) <<< (nI n &&& 31) from rfl, b_bit n (by omega) n (by omega), decide_eq_true rfl, Bool.and_true] at this
        exact this
      · intro z i hi
        rw [b_and, show fb (nI n) = (1 : Int32) <<< (nI n &&& 31) from rfl, b_bit n (by omega) i hi]
        by_cases q : i = n
        · subst q; rw [z]; rfl
        · rw [decide_eq_false q, Bool.and_false]
    rw [acc_s]
    generalize acc (lkF u b) w n = A at ih ⊢
    unfold lkF
    by_cases q : bt b n = true
    · rw [if_neg (fun z => by rw [(e b).mp z] at q; cases q)]
      by_cases q2 : bt u n = true
      · rw [if_neg (fun z => by rw [(e u).mp z] at q2; cases q2), w_and, Bool.and_eq_true, ih, wW_b n (by omega) t ht]
        constructor
        · intro z
          refine ⟨z.1.1, fun i hi hb => ?_⟩
          by_cases e : i = n
          · subst e; rw [q2]; exact z.2
          · exact z.1.2 i (by omega) hb
        · intro z
          exact ⟨⟨z.1, fun i hi => z.2 i (by omega)⟩, by rw [z.2 n (by omega) q, q2]⟩
      · rw [if_pos ((e u).mpr (ts_nt q2)), w_and, Bool.and_eq_true, ih, w_not _ ht, wW_b n (by omega) t ht]
        constructor
        · intro z
          refine ⟨z.1.1, fun i hi hb => ?_⟩
          by_cases e : i = n
          · subst e; rw [ts_nt q2]; have := z.2; cases h9 : bt (nI t) i
            · rfl
            · rw [h9] at this; cases this
          · exact z.1.2 i (by omega) hb
        · intro z
          exact ⟨⟨z.1, fun i hi => z.2 i (by omega)⟩, by rw [z.2 n (by omega) q, ts_nt q2]; rfl⟩
    · rw [if_pos ((e b).mpr (ts_nt q)), ih]
      constructor
      · intro z
        refine ⟨z.1, fun i hi hb => ?_⟩
        by_cases e : i = n
        · subst e; exact absurd hb q
        · exact z.2 i (by omega) hb
      · intro z
        exact ⟨z.1, fun i hi => z.2 i (by omega)⟩
theorem known_b {t u b : Nat} (ht : t < 64) (hu : u < 64) (hb : b < 64) : (nI t ^^^ nI u) &&& nI b = 0 ↔ ∀ i, i < 6 → bt (nI b) i = true → bt (nI t) i = bt (nI u) i := by
  rw [b_zero]
  constructor
  · intro h i hi hb
    have := h i (by omega)
    rw [b_and, b_xor, hb, Bool.and_true] at this
    cases q : bt (nI t) i <;> cases q2 : bt (nI u) i <;> rw [q, q2] at this <;> first | rfl | cases this
  · intro h i hi
    rw [b_and, b_xor]
    by_cases h6 : i < 6
    · by_cases q : bt (nI b) i = true
      · rw [h i h6 q]; cases bt (nI u) i <;> rfl
      · rw [ts_nt q, Bool.and_false]
    · have : bt (nI b) i = false := by
        rw [b_nI b hi]
        exact Nat.testBit_lt_two_pow (Nat.lt_of_lt_of_le hb (by rw [show 64 = 2 ^ 6 from rfl]; exact Nat.pow_le_pow_right (by decide) (by omega)))
      rw [this, Bool.and_false]
theorem ibc10 : ∀ i, i < 1024 → ¬ (11 : Int32) ≤ ibc (nI i) := by decide +kernel
theorem ibc5 : ∀ i, i < 32 → ¬ (6 : Int32) ≤ ibc (nI i) := by decide +kernel
theorem nIne4 {i : Nat} (h : i < 2147483648) : ¬ nI i = -4 := fun e => nI_pos h (by rw [e]; decide)
theorem p2le {n m : Nat} (h : n ≤ m) : 2 ^ n ≤ 2 ^ m := Nat.pow_le_pow_right (by decide) h
theorem lie_all : ∀ i, i < 288 → psI (nI i) = made (nI (i / 36)) (nI 0) (nI (i / 6 % 6)) (nI (i % 6)) ∧ f1C i = nI (i / 6 % 6) ∧ f2C i = nI (i % 6) ∧ 100 * (psI (nI i) / 1000) + (psI (nI i) - psI (nI i) / 100 * 100) = 100 * (nI i / 36) + 10 * f1C i + f2C i := by decide +kernel
theorem to_b {qs : Nat → SY} {w : Int32} {i : Nat} (hi : i < 32) : ∀ n, n ≤ 10 → (bt (toT qs n w) i = true ↔ i < n ∧ hwB (wY (qs i)) w = true)
  | 0, _ => ⟨fun h => (by rw [show toT qs 0 w = (0 : Int32) from rfl, b_0] at h; cases h), fun h => absurd h.1 (by omega)⟩
  | n + 1, h => by
    have ih := to_b (qs := qs) (w := w) hi n (by omega)
    unfold toT at ih ⊢
    rw [acc_s]
    generalize acc (toG qs w) 0 n = A at ih ⊢
    unfold toG
    by_cases q : hwB (wY (qs n)) w = true
    · rw [if_pos q, b_or, Bool.or_eq_true, ih, b_bit n (by omega) i hi, decide_eq_true_eq]
      constructor
      · rintro (z | z)
        · exact ⟨by omega, z.2⟩
        · subst z; exact ⟨by omega, q⟩
      · intro z
        by_cases e : i = n
        · exact Or.inr e
        · exact Or.inl ⟨by omega, z.2⟩
    · rw [if_neg q, ih]
      constructor
      · intro z; exact ⟨by omega, z.2⟩
      · intro z
        by_cases e : i = n
        · subst e; exact absurd z.2 q
        · exact ⟨by omega, z.2⟩
theorem to_n {qs : Nat → SY} {w : Int32} : ∀ n, n ≤ 10 → ∃ k, k < 2 ^ n ∧ toT qs n w = nI k
  | 0, _ => ⟨0, by decide, rfl⟩
  | n + 1, h => by
    obtain ⟨k, hk, e⟩ := to_n (qs := qs) (w := w) n (by omega)
    unfold toT at e ⊢
    rw [acc_s, e]
    unfold toG
    have h2 : 2 ^ (n + 1) = 2 * 2 ^ n := by rw [Nat.pow_succ, Nat.mul_comm]
    split
    · refine ⟨2 ^ n * 1 + k, by omega, ?_⟩
      rw [pw2 n (by omega), Int32.or_comm, ← fa_or_sum 1 hk, Nat.mul_one]
    · exact ⟨k, by omega, rfl⟩
/-- gathering worlds -/
theorem or_acc {f : Nat → Int64 → Int64} {P : Nat → Prop} {z : Int64} {t : Nat} : ∀ n, (∀ i, i < n → ∀ b, wb (f i b) t = true ↔ wb b t = true ∨ P i) → (wb (acc f z n) t = true ↔ wb z t = true ∨ ∃ i, i < n ∧ P i)
  | 0, _ => ⟨Or.inl, fun h => h.elim id fun ⟨i, hi, _⟩ => absurd hi (by omega)⟩
  | n + 1, h => by
    rw [acc_s, h n (by omega), or_acc n fun i hi => h i (by omega)]
    constructor
    · rintro ((y | ⟨i, hi, y⟩) | y)
      · exact Or.inl y
      · exact Or.inr ⟨i, by omega, y⟩
      · exact Or.inr ⟨n, by omega, y⟩
    · rintro (y | ⟨i, hi, y⟩)
      · exact Or.inl (Or.inl y)
      · by_cases e : i = n
        · subst e; exact Or.inr y
        · exact Or.inl (Or.inr ⟨i, by omega, y⟩)
theorem m13_v : refL (-13) = 4000000000000000013 := by decide +kernel
theorem refL_v (x : Int32) : refL x = 4000000000000000000 - x.toInt64 := rfl
theorem hp_in {c : CS} {d n i : Nat} (e : c.1 (80 + d) = nI n) (hn : n ≤ 100) (hi : i < n) : hpB c d (nI i) 1 = true := by
  unfold hpB
  rw [e, decide_eq_false (nI_pos (by omega)), decide_eq_false (by decide : ¬ (1 : Int32) < 0), decide_eq_false (show ¬ nI n < 1 from nI_nlt (a := n) (b := 1) (by omega) (by omega)), decide_eq_false (show ¬ nI n - 1 < nI i from ?_), decide_eq_false (show ¬ (100 : Int32) < nI n from nI_nlt (a := 100) (b := n) hn (by omega))]
  · rfl
  · obtain ⟨m, rfl⟩ : ∃ m, n = m + 1 := ⟨n - 1, by omega⟩
    rw [nI_pred]
    exact nI_nlt (by omega) (by omega)
theorem nu_in {c : CS} {d n i : Nat} (e : c.1 (80 + d) = nI n) (hn : n ≤ 100) (hi : i < n) : nuA c d (nI i) = c.2.1 (10 + d) i := by
  unfold nuA
  rw [if_pos (hp_in e hn hi), tn_nI (by omega)]
theorem iw01 (x : Int32) : iw x 0 1 = true ↔ x = 0 ∨ x = 1 := ⟨iw2, fun h => by rcases h with rfl | rfl <;> decide⟩
theorem ilB_c {c e : CS} (h1 : e.1 = c.1) (h2 : e.2.1 = c.2.1) (i : Nat) (w : Int32) : ilB e i w = ilB c i w := by
  unfold ilB kbT
  rw [h1, h2]
theorem le_rI (a : Int32) : a ≤ a := by rw [fa_le]; omega
theorem le_tI {a b c : Int32} (h : a ≤ b) (g : b ≤ c) : a ≤ c := by rw [fa_le] at *; omega
theorem maxI_l (a b : Int32) : a ≤ maxI a b ∧ b ≤ maxI a b ∧ (maxI a b = a ∨ maxI a b = b) := by
  unfold maxI
  split
  · exact ⟨(fa_of_lt ‹_›).1, le_rI b, Or.inr rfl⟩
  · exact ⟨le_rI a, fa_of_nlt ‹_›, Or.inl rfl⟩
/-- but the lists' cells all is as it was -/
def frS (c e : CS) : Prop := (∀ k, (k < 30 ∨ 46 ≤ k) → e.1 k = c.1 k) ∧ (∀ k, e.2.1 k = c.2.1 k) ∧ ∀ k, 6 ≤ k → e.2.2.2 k = c.2.2.2 k
theorem fs_rf (c : CS) : frS c c := ⟨fun _ _ => rfl, fun _ => rfl, fun _ _ => rfl⟩
theorem fs_tr {a b c : CS} (h : frS a b) (k : frS b c) : frS a c := ⟨fun i h1 => (k.1 i h1).trans (h.1 i h1), fun i => (k.2.1 i).trans (h.2.1 i), fun i h1 => (k.2.2 i h1).trans (h.2.2 i h1)⟩
theorem fs_setL {c : CS} {l : Nat} {m n : Int32} {v : Value} (hl : l < 6) : frS c (setL c l m n v) := by
  refine ⟨fun k h => ?_, fun _ => rfl, fun k h => if_neg (by omega)⟩
  show upd (upd c.1 (40 + l) m) (30 + l) n k = _
  rw [pk_un (by omega), pk_un (by omega)]
theorem fs_ad {l r : Nat} {p : CD} (hl : l < 6) : frS p.1 (adP l r p).1 := by
  unfold adP
  split
  · exact fs_setL hl
  · exact fs_setL hl
theorem fs_cl {l : Nat} {p : CD} (hl : l < 6) : frS p.1 (clP l p).1 := by
  unfold clP
  split
  · exact fs_setL hl
  · exact fs_setL hl
theorem fs_rm {l : Nat} {p : CD} (hl : l < 6) : frS p.1 (rmP l p).1 := by
  unfold rmP
  split
  · exact fs_setL hl
  · exact fs_rf _
theorem fs_acc {l k : Nat} {p : CD} (hl : l < 6) : ∀ i, frS p.1 (acc (adS l k) p i).1
  | 0 => fs_rf _
  | i + 1 => fs_tr (fs_acc hl i) (fs_ad hl)
theorem fs_be2 {t u n0 n1 : Nat} {p : CD} (ht : t < 3) : frS p.1 (be2 t u n0 n1 p).1 := fs_tr (fs_tr (fs_cl (by omega)) (fs_acc (by omega) n0)) (fs_tr (fs_cl (by omega)) (fs_acc (by omega) n1))
theorem kw_v (t u : Nat) (hne : t ≠ u) (c : CS) : ∀ n, (acc (kwF t u) c n).1 = c.1 ∧ (∀ k, k ≠ t → (acc (kwF t u) c n).2.1 k = c.2.1 k) ∧ ∀ w, w < n → (acc (kwF t u) c n).2.1 t w = c.2.1 u w
  | 0 => ⟨rfl, fun _ _ => rfl, fun w hw => absurd hw (by omega)⟩
  | n + 1 => by
    obtain ⟨a, b, d⟩ := kw_v t u hne c n
    rw [acc_s]
    refine ⟨a, fun k hk => (if_neg hk).trans (b k hk), fun w hw => ?_⟩
    show (if t = t then upd ((acc (kwF t u) c n).2.1 t) n ((acc (kwF t u) c n).2.1 u n) else _) w = _
    rw [if_pos rfl, b u (fun e => hne e.symm)]
    by_cases e : w = n
    · subst e; exact if_pos rfl
    · exact (if_neg e).trans (d w (by omega))
/-- one trial becomes another -/
theorem be_v {t u n0 n1 : Nat} {p : CD} (ht : t < 3) (hu : u < 3) (hne : t ≠ u) : (∀ k, k ≠ 10 + t → k ≠ 20 + t → (k < 30 ∨ 46 ≤ k) → (beP t u n0 n1 p).1.1 k = p.1.1 k) ∧ (beP t u n0 n1 p).1.1 (10 + t) = p.1.1 (10 + u) ∧ (beP t u n0 n1 p).1.1 (20 + t) = p.1.1 (20 + u) ∧
    (∀ k, k ≠ t → (beP t u n0 n1 p).1.2.1 k = p.1.2.1 k) ∧ (∀ w, w < 5 → (beP t u n0 n1 p).1.2.1 t w = p.1.2.1 u w) ∧ ∀ k, 6 ≤ k → (beP t u n0 n1 p).1.2.2.2 k = p.1.2.2.2 k := by
  obtain ⟨f1, f2, f3⟩ := fs_be2 (t := t) (u := u) (n0 := n0) (n1 := n1) (p := p) ht
  show (∀ k, k ≠ 10 + t → k ≠ 20 + t → (k < 30 ∨ 46 ≤ k) → (beC t u (be2 t u n0 n1 p).1).1 k = p.1.1 k) ∧ (beC t u (be2 t u n0 n1 p).1).1 (10 + t) = p.1.1 (10 + u) ∧ (beC t u (be2 t u n0 n1 p).1).1 (20 + t) = p.1.1 (20 + u) ∧
    (∀ k, k ≠ t → (beC t u (be2 t u n0 n1 p).1).2.1 k = p.1.2.1 k) ∧ (∀ w, w < 5 → (beC t u (be2 t u n0 n1 p).1).2.1 t w = p.1.2.1 u w) ∧ ∀ k, 6 ≤ k → (beC t u (be2 t u n0 n1 p).1).2.2.2 k = p.1.2.2.2 k
  generalize (be2 t u n0 n1 p).1 = c at f1 f2 f3 ⊢
  obtain ⟨g1, g2, g3⟩ := kw_v t u hne c 5
  refine ⟨fun k h1 h2 h3 => (beC_1 h1 h2).trans (f1 k h3), ?_, ?_, fun k hk => (g2 k hk).trans (f2 k), fun w hw => (g3 w hw).trans (congrFun (f2 u) w), fun k hk => beC_4.trans (f3 k hk)⟩
  · unfold beC
    show upd (upd _ (10 + t) _) (20 + t) _ (10 + t) = _
    rw [pk_un (by omega), pk_us, g1, f1 _ (by omega)]
  · unfold beC
    show upd (upd _ (10 + t) _) (20 + t) (upd _ (10 + t) _ (20 + u)) (20 + t) = _
    rw [pk_us, pk_un (by omega), g1, f1 _ (by omega)]
theorem fr_fs {c e : CS} (h : frS c e) : frT c e := ⟨fun k _ _ h3 => h.1 k h3, fun k _ => h.2.1 k, h.2.2⟩
theorem KR_fr {c e : CS} (f : frT c e) (h : KR c) : KR e := fun d hd => by
  obtain ⟨k, hk, z⟩ := h d hd
  exact ⟨k, hk, (f.2.2 (10 + d) (by omega)).trans z⟩
theorem GI_set {c : CS} {D : List ab_E} {Q : QT} {f g : Nat → Int64} (hD : D[0]? = some (eCell f)) (h : GI c D Q) : GI c (D.set 0 (eCell g)) Q := by
  have S : ∀ (r : Nat) (x : ab_E), x ≠ eCell f → D[r]? = some x → (D.set 0 (eCell g))[r]? = some x := fun r x hx hr => by
    have : (0 : Nat) ≠ r := by
      rintro rfl
      rw [hD] at hr
      exact hx (Option.some.inj hr).symm
    rw [List.getElem?_set_ne this]
    exact hr
  refine ⟨fun j hj => ?_, h.2⟩
  obtain ⟨h1, h2, h3, h4⟩ := h.1 j hj
  refine ⟨h1, h2, LI_kp h3 (fun r fs hr => S r _ (by intro z; cases z) hr) (fun e f g1 g2 => S e _ (by intro z; cases z) g2), h4⟩
theorem ns_syF {t : Int32} {k f x y : Nat} : nsC t k (nI f) (nI x) (nI y) = .inr (8, syF (t, k, f, x, y)) := rfl
theorem beQ_t {t u : Nat} {Q : QT} (ht : t < 3) : beQ t u Q (2 * t) = Q (2 * u) ∧ beQ t u Q (2 * t + 1) = Q (2 * u + 1) ∧ ∀ l, l ≠ 2 * t → l ≠ 2 * t + 1 → beQ t u Q l = Q l := by
  unfold beQ
  refine ⟨?_, ?_, fun l h1 h2 => ?_⟩
  · rw [upQ_ne (by omega), upQ_eq]
  · rw [upQ_eq]
  · rw [upQ_ne h2, upQ_ne h1]
